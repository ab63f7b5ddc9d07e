theorem abs_sub {u v : Nat} (hu : u < 1000) (hv : v < 1000) : (if 0 ≤ nI u - nI v then nI u - nI v else 0 - (nI u - nI v)) = nI (adf u v) := by
  have e : (nI u - nI v).toInt = (u : Int) - v := pk_sub_toInt (by omega) (by omega)
  by_cases h : v ≤ u
  · rw [if_pos (by rw [le_i, e]; show (0 : Int) ≤ _; omega), pk_sub h]
    congr 1
    unfold adf
    omega
  · rw [if_neg (by rw [le_i, e]; show ¬ (0 : Int) ≤ _; omega)]
    apply Int32.toInt_inj.mp
    rw [fb_subI (by rw [e]; show _ ≤ (0 : Int) - _; omega) (by rw [e]; show (0 : Int) - _ < _; omega), e, nI_toInt (by unfold adf; omega)]
    show (0 : Int) - _ = _
    unfold adf
    omega
theorem full_lt (a : SA) : ∀ {n : Nat}, 1 ≤ n → full a n < n
  | 0, h => by omega
  | n + 1, _ => by
    unfold full
    split
    · omega
    · cases n with
      | zero => exact Nat.zero_lt_one
      | succ n => have := full_lt a (n := n + 1) (by omega); omega
theorem full_1V (a : SA) : Value.int (nI (full a 1)) = Value.int (nI 0) := by
  have : full a 1 = 0 := by show (if _ then 0 else 0) = 0; split <;> rfl
  rw [this]
theorem full_noV {a : SA} {n : Nat} (h : ¬ pop (sit a (full a n)) < pop (sit a n)) : Value.int (nI (full a (n + 1))) = Value.int (nI (full a n)) := by
  have : full a (n + 1) = full a n := if_neg h
  rw [this]
theorem full_yesV {a : SA} {n : Nat} (h : pop (sit a (full a n)) < pop (sit a n)) : Value.int (nI (full a (n + 1))) = Value.int (nI n) := by
  have : full a (n + 1) = n := if_pos h
  rw [this]
theorem dsum_no {a : SA} {q n : Nat} (h : ¬ a.2 3 n = q) : dsum a q (n + 1) = dsum a q n := by show dsum a q n + (if a.2 3 n = q then a.2 4 n else 0) = _; rw [if_neg h]; rfl
theorem dsum_yes {a : SA} {q n : Nat} (h : a.2 3 n = q) : dsum a q (n + 1) = dsum a q n + a.2 4 n := by show dsum a q n + (if a.2 3 n = q then a.2 4 n else 0) = _; rw [if_pos h]
def bc1 (n : Nat) : Int32 := nI n - (((nI n).toUInt32 >>> ((nI 1).toUInt32 &&& Int32.toUInt32 31)).toInt32 &&& (1431655765))
def bc2 (n : Nat) : Int32 := (bc1 n &&& (858993459)) + (((bc1 n).toUInt32 >>> ((nI 2).toUInt32 &&& Int32.toUInt32 31)).toInt32 &&& (858993459))
def bc3 (n : Nat) : Int32 := (bc2 n + ((bc2 n).toUInt32 >>> ((nI 4).toUInt32 &&& Int32.toUInt32 31)).toInt32) &&& (252645135)
def bc4 (n : Nat) : Int32 := bc3 n + ((bc3 n).toUInt32 >>> ((nI 8).toUInt32 &&& Int32.toUInt32 31)).toInt32
def bc5 (n : Nat) : Int32 := bc4 n + ((bc4 n).toUInt32 >>> ((nI 16).toUInt32 &&& Int32.toUInt32 31)).toInt32
theorem bitc : ∀ n : Nat, n < 64 → bc5 n &&& nI 63 = nI (pop n) := by decide +kernel
def rm_J6_bitCount_0f7a4 : Room := ({ frames := 0, cells := 0, slots := 0, locals := 0 })
set_option maxRecDepth 20000 in
theorem c_J6_bitCount_0f7a4 (l : Launch) (Z : EC) (x : St) (n : Nat) (hn : n < 64) : MIi l Z (wC Z) yJ6_bitCount_0f7a4 cJ6_bitCount_0f7a4 1 rm_J6_bitCount_0f7a4 [.int (nI n)] x (fun r x1 => r = nI (pop n) ∧ x = x1) := by
  refine MIi_of (own := RJ6) (L0 := [some (.int (nI n))]) (by decide) rfl (Nat.le_of_ble_eq_true rfl) ⟨rfl, trivial⟩ ?_
  intro Γ C E
  refine J_iload_n C dJ6_bitCount_0f7a4_0 rfl rfl ?_
  refine J_iload_n C dJ6_bitCount_0f7a4_1 rfl rfl ?_
  refine J_iconst C (v := nI 1) dJ6_bitCount_0f7a4_2 (by decide) ?_
  refine J_iushr C (v := ((nI n).toUInt32 >>> ((nI 1).toUInt32 &&& Int32.toUInt32 31)).toInt32) dJ6_bitCount_0f7a4_3 (rfl) ?_
  refine J_ldcw C wd_12_0 dJ6_bitCount_0f7a4_4 ?_
  refine J_iand C (v := (((nI n).toUInt32 >>> ((nI 1).toUInt32 &&& Int32.toUInt32 31)).toInt32) &&& (1431655765)) dJ6_bitCount_0f7a4_7 (rfl) ?_
  refine J_isub C (v := bc1 n) dJ6_bitCount_0f7a4_8 (rfl) ?_
  refine J_istore_n C (L' := [some (.int (bc1 n))]) dJ6_bitCount_0f7a4_9 rfl (by decide) rfl rfl ?_
  refine J_iload_n C dJ6_bitCount_0f7a4_10 rfl rfl ?_
  refine J_ldcw C wd_12_1 dJ6_bitCount_0f7a4_11 ?_
  refine J_iand C (v := (bc1 n) &&& (858993459)) dJ6_bitCount_0f7a4_14 (rfl) ?_
  refine J_iload_n C dJ6_bitCount_0f7a4_15 rfl rfl ?_
  refine J_iconst C (v := nI 2) dJ6_bitCount_0f7a4_16 (by decide) ?_
  refine J_iushr C (v := ((bc1 n).toUInt32 >>> ((nI 2).toUInt32 &&& Int32.toUInt32 31)).toInt32) dJ6_bitCount_0f7a4_17 (rfl) ?_
  refine J_ldcw C wd_12_1 dJ6_bitCount_0f7a4_18 ?_
  refine J_iand C (v := (((bc1 n).toUInt32 >>> ((nI 2).toUInt32 &&& Int32.toUInt32 31)).toInt32) &&& (858993459)) dJ6_bitCount_0f7a4_21 (rfl) ?_
  refine J_iadd C (v := bc2 n) dJ6_bitCount_0f7a4_22 (rfl) ?_
  refine J_istore_n C (L' := [some (.int (bc2 n))]) dJ6_bitCount_0f7a4_23 rfl (by decide) rfl rfl ?_
  refine J_iload_n C dJ6_bitCount_0f7a4_24 rfl rfl ?_
  refine J_iload_n C dJ6_bitCount_0f7a4_25 rfl rfl ?_
  refine J_iconst C (v := nI 4) dJ6_bitCount_0f7a4_26 (by decide) ?_
  refine J_iushr C (v := ((bc2 n).toUInt32 >>> ((nI 4).toUInt32 &&& Int32.toUInt32 31)).toInt32) dJ6_bitCount_0f7a4_27 (rfl) ?_
  refine J_iadd C (v := (bc2 n) + (((bc2 n).toUInt32 >>> ((nI 4).toUInt32 &&& Int32.toUInt32 31)).toInt32)) dJ6_bitCount_0f7a4_28 (rfl) ?_
  refine J_ldcw C wd_12_2 dJ6_bitCount_0f7a4_29 ?_
  refine J_iand C (v := bc3 n) dJ6_bitCount_0f7a4_32 (rfl) ?_
  refine J_istore_n C (L' := [some (.int (bc3 n))]) dJ6_bitCount_0f7a4_33 rfl (by decide) rfl rfl ?_
  refine J_iload_n C dJ6_bitCount_0f7a4_34 rfl rfl ?_
  refine J_iload_n C dJ6_bitCount_0f7a4_35 rfl rfl ?_
  refine J_bipush C (v := nI 8) dJ6_bitCount_0f7a4_36 (by decide) ?_
  refine J_iushr C (v := ((bc3 n).toUInt32 >>> ((nI 8).toUInt32 &&& Int32.toUInt32 31)).toInt32) dJ6_bitCount_0f7a4_38 (rfl) ?_
  refine J_iadd C (v := bc4 n) dJ6_bitCount_0f7a4_39 (rfl) ?_
  refine J_istore_n C (L' := [some (.int (bc4 n))]) dJ6_bitCount_0f7a4_40 rfl (by decide) rfl rfl ?_
  refine J_iload_n C dJ6_bitCount_0f7a4_41 rfl rfl ?_
  refine J_iload_n C dJ6_bitCount_0f7a4_42 rfl rfl ?_
  refine J_bipush C (v := nI 16) dJ6_bitCount_0f7a4_43 (by decide) ?_
  refine J_iushr C (v := ((bc4 n).toUInt32 >>> ((nI 16).toUInt32 &&& Int32.toUInt32 31)).toInt32) dJ6_bitCount_0f7a4_45 (rfl) ?_
  refine J_iadd C (v := bc5 n) dJ6_bitCount_0f7a4_46 (rfl) ?_
  refine J_istore_n C (L' := [some (.int (bc5 n))]) dJ6_bitCount_0f7a4_47 rfl (by decide) rfl rfl ?_
  refine J_iload_n C dJ6_bitCount_0f7a4_48 rfl rfl ?_
  refine J_bipush C (v := nI 63) dJ6_bitCount_0f7a4_49 (by decide) ?_
  refine J_iand C (v := (bc5 n) &&& (nI 63)) dJ6_bitCount_0f7a4_51 (rfl) ?_
  exact E dJ6_bitCount_0f7a4_52 (⟨bitc n hn, rfl⟩)
def rm_X5_isWithin : Room := ({ frames := 0, cells := 0, slots := 0, locals := 0 })
set_option maxRecDepth 20000 in
theorem c_X5_isWithin (l : Launch) (Z : EC) (x : St) (v lo hi : Int32) (a b : Int) (ha : lo.toInt = a) (hb : hi.toInt = b) : MIz l Z (wC Z) yX5_isWithin cX5_isWithin 3 rm_X5_isWithin [.int v, .int lo, .int hi] x (fun b1 x1 => b1 = decide (a ≤ v.toInt ∧ v.toInt ≤ b) ∧ x = x1) := by
  refine MIz_of (own := RX5) (L0 := [some (.int v), some (.int lo), some (.int hi)]) (by decide) rfl (Nat.le_of_ble_eq_true rfl) ⟨rfl, rfl, rfl, trivial⟩ ?_
  intro Γ C E
  refine J_iload_n C dX5_isWithin_0 rfl rfl ?_
  refine J_iload_n C dX5_isWithin_1 rfl rfl ?_
  refine J_icmp_lt C (tgt := 14) dX5_isWithin_2 (by decide) (fun c2 => ?_) (fun c2 => ?_)
  · skip
    refine J_iconst C (v := nI 0) dX5_isWithin_14 (by decide) ?_
    exact E (b := false) dX5_isWithin_15 (⟨by simp only [lt_i, ha, hb] at *; simp; omega, rfl⟩)
  · skip
    refine J_iload_n C dX5_isWithin_5 rfl rfl ?_
    refine J_iload_n C dX5_isWithin_6 rfl rfl ?_
    refine J_icmp_gt C (tgt := 14) dX5_isWithin_7 (by decide) (fun c7 => ?_) (fun c7 => ?_)
    · skip
      refine J_iconst C (v := nI 0) dX5_isWithin_14 (by decide) ?_
      exact E (b := false) dX5_isWithin_15 (⟨by simp only [lt_i, ha, hb] at *; simp; omega, rfl⟩)
    · skip
      refine J_iconst C (v := nI 1) dX5_isWithin_10 (by decide) ?_
      refine J_goto (tgt := 15) C dX5_isWithin_11 (by decide) ?_
      exact E (b := true) dX5_isWithin_15 (⟨by simp only [lt_i, ha, hb] at *; simp; omega, rfl⟩)
def rm_X5_oneIf : Room := ({ frames := 0, cells := 0, slots := 0, locals := 0 })
set_option maxRecDepth 20000 in
theorem c_X5_oneIf (l : Launch) (Z : EC) (x : St) (v : Int32) (hv : v = 0 ∨ v = 1) : MIi l Z (wC Z) yX5_oneIf cX5_oneIf 1 rm_X5_oneIf [.int v] x (fun r x1 => r = v ∧ x = x1) := by
  refine MIi_of (own := RX5) (L0 := [some (.int v)]) (by decide) rfl (Nat.le_of_ble_eq_true rfl) ⟨rfl, trivial⟩ ?_
  intro Γ C E
  refine J_iload_n C dX5_oneIf_0 rfl rfl ?_
  refine J_if_eq C (tgt := 8) dX5_oneIf_1 (by decide) (fun c1 => ?_) (fun c1 => ?_)
  · skip
    refine J_iconst C (v := nI 0) dX5_oneIf_8 (by decide) ?_
    exact E dX5_oneIf_9 (⟨by rcases hv with rfl | rfl <;> first | rfl | (exact absurd rfl c1) | (exact absurd c1 (by decide)), rfl⟩)
  · skip
    refine J_iconst C (v := nI 1) dX5_oneIf_4 (by decide) ?_
    refine J_goto (tgt := 9) C dX5_oneIf_5 (by decide) ?_
    exact E dX5_oneIf_9 (⟨by rcases hv with rfl | rfl <;> first | rfl | (exact absurd rfl c1) | (exact absurd c1 (by decide)), rfl⟩)
def rm_X4_sittersOf : Room := ({ frames := 0, cells := 0, slots := 0, locals := 0 })
set_option maxRecDepth 20000 in
theorem c_X4_sittersOf (l : Launch) (Z : EC) (x : St) {w : Nat} (hw : w < 2) {a : SA} (hr : ShR x w a) (ok : SOK a) (q : Nat) (hq : q < 10) : MIi l Z (wC Z) yX4_sittersOf cX4_sittersOf 4 rm_X4_sittersOf [.ref (Z.2.1 (25 + 6 * w)), .int (nI q)] x (fun r x1 => r = nI (sit a q) ∧ x = x1) := by
  obtain ⟨ok0, ok1, ok2, ok3, ok4, ok5, ok6, ok7⟩ := id ok
  refine MIi_of (own := RX4) (L0 := [some (.ref (Z.2.1 (25 + 6 * w))), some (.int (nI q)), none, none]) (by decide) rfl (Nat.le_of_ble_eq_true rfl) ⟨rfl, rfl, trivial⟩ ?_
  intro Γ C E
  refine J_iconst C (v := nI 0) dX4_sittersOf_0 (by decide) ?_
  refine J_istore_n C (L' := [some (.ref (Z.2.1 (25 + 6 * w))), some (.int (nI q)), some (.int (nI 0)), none]) dX4_sittersOf_1 rfl (by decide) rfl rfl ?_
  refine J_iconst C (v := nI 0) dX4_sittersOf_2 (by decide) ?_
  refine J_istore_n C (L' := [some (.ref (Z.2.1 (25 + 6 * w))), some (.int (nI q)), some (.int (nI 0)), some (.int (nI 0))]) dX4_sittersOf_3 rfl (by decide) rfl rfl ?_
  have lp4 : ∀ (f : Nat) (i : Nat), (i ≤ a.1 4) → (a.1 4 - i < f) →  J Γ x 4 [some (.ref (Z.2.1 (25 + 6 * w))), some (.int (nI q)), some (.int (nI (bits (fun m => a.2 3 m == q) i))), some (.int (nI i))] [] := by
    intro f
    induction f with
    | zero =>
      intro i hi hf
      omega
    | succ f ih4 =>
      intro i hi hf
      refine J_iload_n C dX4_sittersOf_4 rfl rfl ?_
      refine J_aload_n C dX4_sittersOf_5 rfl rfl ?_
      refine G4n_members hw hr C wd_7_15 dX4_sittersOf_6 ?_
      refine J_icmp_ge_n C (tgt := 34) dX4_sittersOf_9 (by decide) (by omega) (by omega) (fun c9 => ?_) (fun c9 => ?_)
      · skip
        refine J_iload_n C dX4_sittersOf_34 rfl rfl ?_
        exact E dX4_sittersOf_35 (⟨by rw [show i = a.1 4 by omega]; rfl, rfl⟩)
      · skip
        refine J_aload_n C dX4_sittersOf_12 rfl rfl ?_
        have h6 := ok6 i (by omega)
        refine G4_seats hw C wd_3_12 dX4_sittersOf_13 ?_
        refine J_iload_n C dX4_sittersOf_16 rfl rfl ?_
        refine L4n_seats hw hr ok C (by omega) dX4_sittersOf_17 ?_
        refine J_iload_n C dX4_sittersOf_18 rfl rfl ?_
        refine J_icmp_ne_n C (tgt := 28) dX4_sittersOf_19 (by decide) (by omega) (by omega) (fun c19 => ?_) (fun c19 => ?_)
        · skip
          refine J_iinc C (v := nI (i + 1)) (L' := [some (.ref (Z.2.1 (25 + 6 * w))), some (.int (nI q)), some (.int (nI (bits (fun m => a.2 3 m == q) i))), some (.int (nI (i + 1)))]) dX4_sittersOf_28 rfl (nI_1 _) (by decide) rfl rfl ?_
          refine J_goto (tgt := 4) C dX4_sittersOf_31 (by decide) ?_
          refine J_drop ?_ (ih4 (i + 1) (by omega) (by omega))
          exact ⟨rfl, rfl, bits_noV (by simpa using c19), rfl, trivial⟩
        · skip
          refine J_iload_n C dX4_sittersOf_22 rfl rfl ?_
          refine J_iconst C (v := nI 1) dX4_sittersOf_23 (by decide) ?_
          refine J_iload_n C dX4_sittersOf_24 rfl rfl ?_
          refine J_ishl C (v := nI (2 ^ i)) dX4_sittersOf_25 (sh1 _ (by omega)) ?_
          refine J_ior C (v := nI (bits (fun m => a.2 3 m == q) (i + 1))) dX4_sittersOf_26 (bits_or (by simpa using c19)) ?_
          refine J_istore_n C (L' := [some (.ref (Z.2.1 (25 + 6 * w))), some (.int (nI q)), some (.int (nI (bits (fun m => a.2 3 m == q) (i + 1)))), some (.int (nI i))]) dX4_sittersOf_27 rfl (by decide) rfl rfl ?_
          refine J_iinc C (v := nI (i + 1)) (L' := [some (.ref (Z.2.1 (25 + 6 * w))), some (.int (nI q)), some (.int (nI (bits (fun m => a.2 3 m == q) (i + 1)))), some (.int (nI (i + 1)))]) dX4_sittersOf_28 rfl (nI_1 _) (by decide) rfl rfl ?_
          refine J_goto (tgt := 4) C dX4_sittersOf_31 (by decide) ?_
          refine J_drop ?_ (ih4 (i + 1) (by omega) (by omega))
          exact ⟨rfl, rfl, rfl, rfl, trivial⟩
  refine J_drop ?_ (lp4 (a.1 4 + 1) 0 (by omega) (by omega))
  exact ⟨rfl, rfl, rfl, rfl, trivial⟩
def rm_X4_sittersIn : Room := ({ frames := 1, cells := 0, slots := 0, locals := 23 })
set_option maxRecDepth 20000 in
theorem c_X4_sittersIn (l : Launch) (Z : EC) (x : St) {w : Nat} (hw : w < 2) {a : SA} (hr : ShR x w a) (ok : SOK a) (q : Nat) (hq : q < 10) : MIi l Z (wC Z) yX4_sittersIn cX4_sittersIn 2 rm_X4_sittersIn [.ref (Z.2.1 (25 + 6 * w)), .int (nI q)] x (fun r x1 => r = nI (pop (sit a q)) ∧ x = x1) := by
  obtain ⟨ok0, ok1, ok2, ok3, ok4, ok5, ok6, ok7⟩ := id ok
  refine MIi_of (own := RX4) (L0 := [some (.ref (Z.2.1 (25 + 6 * w))), some (.int (nI q))]) (by decide) rfl (Nat.le_of_ble_eq_true rfl) ⟨rfl, rfl, trivial⟩ ?_
  intro Γ C E
  refine J_aload_n C dX4_sittersIn_0 rfl rfl ?_
  refine J_iload_n C dX4_sittersIn_1 rfl rfl ?_
  refine J_callVi C (N := 10) (As := [.int (nI q)]) (c_X4_sittersOf l Z _ hw hr ok _ (by omega)) cw_RX4_77 wd_11_8 wd_11_9 (at_shore hw) rfl rfl rfl (Nat.le_of_ble_eq_true rfl) rfl rfl (Nat.le_of_ble_eq_true rfl) (Nat.le_of_ble_eq_true rfl) dX4_sittersIn_2 (fun r2 x2 hp2 => ?_)
  obtain ⟨rfl, rfl⟩ := hp2
  refine J_callSi C (As := [.int (nI (sit a q))]) (c_J6_bitCount_0f7a4 l Z _ _ (sit64 ok q)) cw_RX4_81 wd_11_21 rfl rfl (Nat.le_of_ble_eq_true rfl) rfl rfl (Nat.le_of_ble_eq_true rfl) (Nat.le_of_ble_eq_true rfl) dX4_sittersIn_5 (fun r5 x5 hp5 => ?_)
  obtain ⟨rfl, rfl⟩ := hp5
  exact E dX4_sittersIn_8 (⟨rfl, rfl⟩)
def rm_X4_spanOf : Room := ({ frames := 2, cells := 0, slots := 0, locals := 44 })
set_option maxRecDepth 20000 in
theorem c_X4_spanOf (l : Launch) (Z : EC) (x : St) {w : Nat} (hw : w < 2) {a : SA} (hr : ShR x w a) (ok : SOK a) (q : Nat) (hq : q < a.1 3) : MIi l Z (wC Z) yX4_spanOf cX4_spanOf 2 rm_X4_spanOf [.ref (Z.2.1 (25 + 6 * w)), .int (nI q)] x (fun r x1 => r = nI (a.2 1 q * 6 / (pop (sit a q) + 1)) ∧ x = x1) := by
  obtain ⟨ok0, ok1, ok2, ok3, ok4, ok5, ok6, ok7⟩ := id ok
  have hd := (ok5 q hq).2
  have hp := pop_le (sit a q)
  refine MIi_of (own := RX4) (L0 := [some (.ref (Z.2.1 (25 + 6 * w))), some (.int (nI q))]) (by decide) rfl (Nat.le_of_ble_eq_true rfl) ⟨rfl, rfl, trivial⟩ ?_
  intro Γ C E
  refine J_aload_n C dX4_spanOf_0 rfl rfl ?_
  refine G4_depths hw C wd_3_10 dX4_spanOf_1 ?_
  refine J_iload_n C dX4_spanOf_4 rfl rfl ?_
  refine L4n_depths hw hr ok C (by omega) dX4_spanOf_5 ?_
  refine J_bipush C (v := nI 6) dX4_spanOf_6 (by decide) ?_
  refine J_imul C (v := nI ((a.2 1 q) * 6)) dX4_spanOf_8 (pk_mul _ _) ?_
  refine J_aload_n C dX4_spanOf_9 rfl rfl ?_
  refine J_iload_n C dX4_spanOf_10 rfl rfl ?_
  refine J_callVi C (N := 10) (As := [.int (nI q)]) (c_X4_sittersIn l Z _ hw hr ok _ (by omega)) cw_RX4_86 wd_11_16 wd_11_17 (at_shore hw) rfl rfl rfl (Nat.le_of_ble_eq_true rfl) rfl rfl (Nat.le_of_ble_eq_true rfl) (Nat.le_of_ble_eq_true rfl) dX4_spanOf_11 (fun r11 x11 hp11 => ?_)
  obtain ⟨rfl, rfl⟩ := hp11
  refine J_iconst C (v := nI 1) dX4_spanOf_14 (by decide) ?_
  refine J_iadd C (v := nI ((pop (sit a q)) + 1)) dX4_spanOf_15 (nI_add _ _) ?_
  refine J_idiv C (v := nI (((a.2 1 q) * 6) / ((pop (sit a q)) + 1))) dX4_spanOf_16 (nI_ne0 (by omega) (by omega)) (pk_div (by omega) (by omega) (by omega)) ?_
  exact E dX4_spanOf_17 (⟨rfl, rfl⟩)
def rm_X4_poolsSatIn : Room := ({ frames := 1, cells := 0, slots := 0, locals := 23 })
set_option maxRecDepth 20000 in
theorem c_X4_poolsSatIn (l : Launch) (Z : EC) (x : St) {w : Nat} (hw : w < 2) {a : SA} (hr : ShR x w a) (ok : SOK a)  : MIi l Z (wC Z) yX4_poolsSatIn cX4_poolsSatIn 3 rm_X4_poolsSatIn [.ref (Z.2.1 (25 + 6 * w))] x (fun r x1 => r = nI (satIn a) ∧ x = x1) := by
  obtain ⟨ok0, ok1, ok2, ok3, ok4, ok5, ok6, ok7⟩ := id ok
  refine MIi_of (own := RX4) (L0 := [some (.ref (Z.2.1 (25 + 6 * w))), none, none]) (by decide) rfl (Nat.le_of_ble_eq_true rfl) ⟨rfl, trivial⟩ ?_
  intro Γ C E
  refine J_iconst C (v := nI 0) dX4_poolsSatIn_0 (by decide) ?_
  refine J_istore_n C (L' := [some (.ref (Z.2.1 (25 + 6 * w))), some (.int (nI 0)), none]) dX4_poolsSatIn_1 rfl (by decide) rfl rfl ?_
  refine J_iconst C (v := nI 0) dX4_poolsSatIn_2 (by decide) ?_
  refine J_istore_n C (L' := [some (.ref (Z.2.1 (25 + 6 * w))), some (.int (nI 0)), some (.int (nI 0))]) dX4_poolsSatIn_3 rfl (by decide) rfl rfl ?_
  have lp4 : ∀ (f : Nat) (i : Nat), (i ≤ a.1 3) → (a.1 3 - i < f) →  J Γ x 4 [some (.ref (Z.2.1 (25 + 6 * w))), some (.int (nI (cnt (fun q => decide (sit a q ≠ 0)) i))), some (.int (nI i))] [] := by
    intro f
    induction f with
    | zero =>
      intro i hi hf
      omega
    | succ f ih4 =>
      intro i hi hf
      have hsit := sit64 ok i
      have hcn := cnt_le (fun q => decide (sit a q ≠ 0)) i
      refine J_iload_n C dX4_poolsSatIn_4 rfl rfl ?_
      refine J_aload_n C dX4_poolsSatIn_5 rfl rfl ?_
      refine G4n_pools hw hr C wd_7_6 dX4_poolsSatIn_6 ?_
      refine J_icmp_ge_n C (tgt := 37) dX4_poolsSatIn_9 (by decide) (by omega) (by omega) (fun c9 => ?_) (fun c9 => ?_)
      · skip
        refine J_iload_n C dX4_poolsSatIn_37 rfl rfl ?_
        exact E dX4_poolsSatIn_38 (⟨by rw [show i = a.1 3 by omega]; rfl, rfl⟩)
      · skip
        refine J_iload_n C dX4_poolsSatIn_12 rfl rfl ?_
        refine J_aload_n C dX4_poolsSatIn_13 rfl rfl ?_
        refine J_iload_n C dX4_poolsSatIn_14 rfl rfl ?_
        refine J_callVi C (N := 10) (As := [.int (nI i)]) (c_X4_sittersOf l Z _ hw hr ok _ (by omega)) cw_RX4_77 wd_11_8 wd_11_9 (at_shore hw) rfl rfl rfl (Nat.le_of_ble_eq_true rfl) rfl rfl (Nat.le_of_ble_eq_true rfl) (Nat.le_of_ble_eq_true rfl) dX4_poolsSatIn_15 (fun r15 x15 hp15 => ?_)
        obtain ⟨rfl, rfl⟩ := hp15
        refine J_if_eq_n C (tgt := 25) dX4_poolsSatIn_18 (by decide) (by omega) (fun c18 => ?_) (fun c18 => ?_)
        · skip
          refine J_iconst C (v := nI 0) dX4_poolsSatIn_25 (by decide) ?_
          refine J_callNi C (As := [.int (nI 0)]) (c_X5_oneIf l Z _ _ (by decide)) cw_RX4_89 wd_18_20 rfl rfl (Nat.le_of_ble_eq_true rfl) rfl rfl (Nat.le_of_ble_eq_true rfl) (Nat.le_of_ble_eq_true rfl) dX4_poolsSatIn_26 (fun r26 x26 hp26 => ?_)
          obtain ⟨rfl, rfl⟩ := hp26
          refine J_iadd C (v := nI (cnt (fun q => decide (sit a q ≠ 0)) (i + 1))) dX4_poolsSatIn_29 (by rw [cnt_no (by simpa using c18)]; exact nI_add _ 0) ?_
          refine J_istore_n C (L' := [some (.ref (Z.2.1 (25 + 6 * w))), some (.int (nI (cnt (fun q => decide (sit a q ≠ 0)) (i + 1)))), some (.int (nI i))]) dX4_poolsSatIn_30 rfl (by decide) rfl rfl ?_
          refine J_iinc C (v := nI (i + 1)) (L' := [some (.ref (Z.2.1 (25 + 6 * w))), some (.int (nI (cnt (fun q => decide (sit a q ≠ 0)) (i + 1)))), some (.int (nI (i + 1)))]) dX4_poolsSatIn_31 rfl (nI_1 _) (by decide) rfl rfl ?_
          refine J_goto (tgt := 4) C dX4_poolsSatIn_34 (by decide) ?_
          refine J_drop ?_ (ih4 (i + 1) (by omega) (by omega))
          exact ⟨rfl, rfl, rfl, trivial⟩
        · skip
          refine J_iconst C (v := nI 1) dX4_poolsSatIn_21 (by decide) ?_
          refine J_goto (tgt := 26) C dX4_poolsSatIn_22 (by decide) ?_
          refine J_callNi C (As := [.int (nI 1)]) (c_X5_oneIf l Z _ _ (by decide)) cw_RX4_89 wd_18_20 rfl rfl (Nat.le_of_ble_eq_true rfl) rfl rfl (Nat.le_of_ble_eq_true rfl) (Nat.le_of_ble_eq_true rfl) dX4_poolsSatIn_26 (fun r26 x26 hp26 => ?_)
          obtain ⟨rfl, rfl⟩ := hp26
          refine J_iadd C (v := nI (cnt (fun q => decide (sit a q ≠ 0)) (i + 1))) dX4_poolsSatIn_29 (by rw [cnt_yes (by simpa using c18)]; exact nI_add _ 1) ?_
          refine J_istore_n C (L' := [some (.ref (Z.2.1 (25 + 6 * w))), some (.int (nI (cnt (fun q => decide (sit a q ≠ 0)) (i + 1)))), some (.int (nI i))]) dX4_poolsSatIn_30 rfl (by decide) rfl rfl ?_
          refine J_iinc C (v := nI (i + 1)) (L' := [some (.ref (Z.2.1 (25 + 6 * w))), some (.int (nI (cnt (fun q => decide (sit a q ≠ 0)) (i + 1)))), some (.int (nI (i + 1)))]) dX4_poolsSatIn_31 rfl (nI_1 _) (by decide) rfl rfl ?_
          refine J_goto (tgt := 4) C dX4_poolsSatIn_34 (by decide) ?_
          refine J_drop ?_ (ih4 (i + 1) (by omega) (by omega))
          exact ⟨rfl, rfl, rfl, trivial⟩
  refine J_drop ?_ (lp4 (a.1 3 + 1) 0 (by omega) (by omega))
  exact ⟨rfl, rfl, rfl, trivial⟩
def rm_X4_fullestPool : Room := ({ frames := 2, cells := 0, slots := 0, locals := 44 })
set_option maxRecDepth 20000 in
theorem c_X4_fullestPool (l : Launch) (Z : EC) (x : St) {w : Nat} (hw : w < 2) {a : SA} (hr : ShR x w a) (ok : SOK a) (hP : 0 < a.1 3) : MIi l Z (wC Z) yX4_fullestPool cX4_fullestPool 3 rm_X4_fullestPool [.ref (Z.2.1 (25 + 6 * w))] x (fun r x1 => r = nI (full a (a.1 3)) ∧ x = x1) := by
  obtain ⟨ok0, ok1, ok2, ok3, ok4, ok5, ok6, ok7⟩ := id ok
  refine MIi_of (own := RX4) (L0 := [some (.ref (Z.2.1 (25 + 6 * w))), none, none]) (by decide) rfl (Nat.le_of_ble_eq_true rfl) ⟨rfl, trivial⟩ ?_
  intro Γ C E
  refine J_iconst C (v := nI 0) dX4_fullestPool_0 (by decide) ?_
  refine J_istore_n C (L' := [some (.ref (Z.2.1 (25 + 6 * w))), some (.int (nI 0)), none]) dX4_fullestPool_1 rfl (by decide) rfl rfl ?_
  refine J_iconst C (v := nI 1) dX4_fullestPool_2 (by decide) ?_
  refine J_istore_n C (L' := [some (.ref (Z.2.1 (25 + 6 * w))), some (.int (nI 0)), some (.int (nI 1))]) dX4_fullestPool_3 rfl (by decide) rfl rfl ?_
  have lp4 : ∀ (f : Nat) (i : Nat), (i ≤ a.1 3) → (1 ≤ i) → (a.1 3 - i < f) →  J Γ x 4 [some (.ref (Z.2.1 (25 + 6 * w))), some (.int (nI (full a i))), some (.int (nI i))] [] := by
    intro f
    induction f with
    | zero =>
      intro i hi hi1 hf
      omega
    | succ f ih4 =>
      intro i hi hi1 hf
      have hfl := full_lt a hi1
      have hp1 := pop_le (sit a i)
      have hp2 := pop_le (sit a (full a i))
      refine J_iload_n C dX4_fullestPool_4 rfl rfl ?_
      refine J_aload_n C dX4_fullestPool_5 rfl rfl ?_
      refine G4n_pools hw hr C wd_7_6 dX4_fullestPool_6 ?_
      refine J_icmp_ge_n C (tgt := 33) dX4_fullestPool_9 (by decide) (by omega) (by omega) (fun c9 => ?_) (fun c9 => ?_)
      · skip
        refine J_iload_n C dX4_fullestPool_33 rfl rfl ?_
        exact E dX4_fullestPool_34 (⟨by rw [show i = a.1 3 by omega], rfl⟩)
      · skip
        refine J_aload_n C dX4_fullestPool_12 rfl rfl ?_
        refine J_iload_n C dX4_fullestPool_13 rfl rfl ?_
        refine J_callVi C (N := 10) (As := [.int (nI i)]) (c_X4_sittersIn l Z _ hw hr ok _ (by omega)) cw_RX4_86 wd_11_16 wd_11_17 (at_shore hw) rfl rfl rfl (Nat.le_of_ble_eq_true rfl) rfl rfl (Nat.le_of_ble_eq_true rfl) (Nat.le_of_ble_eq_true rfl) dX4_fullestPool_14 (fun r14 x14 hp14 => ?_)
        obtain ⟨rfl, rfl⟩ := hp14
        refine J_aload_n C dX4_fullestPool_17 rfl rfl ?_
        refine J_iload_n C dX4_fullestPool_18 rfl rfl ?_
        refine J_callVi C (N := 10) (As := [.int (nI (full a i))]) (c_X4_sittersIn l Z _ hw hr ok _ (by omega)) cw_RX4_86 wd_11_16 wd_11_17 (at_shore hw) rfl rfl rfl (Nat.le_of_ble_eq_true rfl) rfl rfl (Nat.le_of_ble_eq_true rfl) (Nat.le_of_ble_eq_true rfl) dX4_fullestPool_19 (fun r19 x19 hp19 => ?_)
        obtain ⟨rfl, rfl⟩ := hp19
        refine J_icmp_le_n C (tgt := 27) dX4_fullestPool_22 (by decide) (by omega) (by omega) (fun c22 => ?_) (fun c22 => ?_)
        · skip
          refine J_iinc C (v := nI (i + 1)) (L' := [some (.ref (Z.2.1 (25 + 6 * w))), some (.int (nI (full a i))), some (.int (nI (i + 1)))]) dX4_fullestPool_27 rfl (nI_1 _) (by decide) rfl rfl ?_
          refine J_goto (tgt := 4) C dX4_fullestPool_30 (by decide) ?_
          refine J_drop ?_ (ih4 (i + 1) (by omega) (by omega) (by omega))
          exact ⟨rfl, full_noV (by omega), rfl, trivial⟩
        · skip
          refine J_iload_n C dX4_fullestPool_25 rfl rfl ?_
          refine J_istore_n C (L' := [some (.ref (Z.2.1 (25 + 6 * w))), some (.int (nI i)), some (.int (nI i))]) dX4_fullestPool_26 rfl (by decide) rfl rfl ?_
          refine J_iinc C (v := nI (i + 1)) (L' := [some (.ref (Z.2.1 (25 + 6 * w))), some (.int (nI i)), some (.int (nI (i + 1)))]) dX4_fullestPool_27 rfl (nI_1 _) (by decide) rfl rfl ?_
          refine J_goto (tgt := 4) C dX4_fullestPool_30 (by decide) ?_
          refine J_drop ?_ (ih4 (i + 1) (by omega) (by omega) (by omega))
          exact ⟨rfl, full_yesV (by omega), rfl, trivial⟩
  refine J_drop ?_ (lp4 (a.1 3 + 1) 1 (by omega) (by omega) (by omega))
  exact ⟨rfl, full_1V a, rfl, trivial⟩
def rm_X4_stepsOf : Room := ({ frames := 0, cells := 0, slots := 0, locals := 0 })
set_option maxRecDepth 20000 in
theorem c_X4_stepsOf (l : Launch) (Z : EC) (x : St) {w : Nat} (hw : w < 2) {a : SA} (hr : ShR x w a) (ok : SOK a) (k : Nat) (hk : k ≤ 2) (hs : 1 ≤ a.1 0) : MIi l Z (wC Z) yX4_stepsOf cX4_stepsOf 2 rm_X4_stepsOf [.ref (Z.2.1 (25 + 6 * w)), .int (nI k)] x (fun r x1 => r = nI (stp (a.1 0) k) ∧ x = x1) := by
  obtain ⟨ok0, ok1, ok2, ok3, ok4, ok5, ok6, ok7⟩ := id ok
  refine MIi_of (own := RX4) (L0 := [some (.ref (Z.2.1 (25 + 6 * w))), some (.int (nI k))]) (by decide) rfl (Nat.le_of_ble_eq_true rfl) ⟨rfl, rfl, trivial⟩ ?_
  intro Γ C E
  refine J_iload_n C dX4_stepsOf_0 rfl rfl ?_
  by_cases s1_0 : k = 0
  · skip
    refine J_lookup C (tgt := 28) dX4_stepsOf_1 rfl (off := 27) (by rw [s1_0]; decide) (by decide) ?_
    refine J_aload_n C dX4_stepsOf_28 rfl rfl ?_
    refine G4n_stream hw hr C wd_6_10 dX4_stepsOf_29 ?_
    exact E dX4_stepsOf_32 (⟨by rw [s1_0]; rfl, rfl⟩)
  by_cases s1_1 : k = 1
  · skip
    refine J_lookup C (tgt := 33) dX4_stepsOf_1 rfl (off := 32) (by rw [s1_1]; decide) (by decide) ?_
    refine J_aload_n C dX4_stepsOf_33 rfl rfl ?_
    refine G4n_stream hw hr C wd_6_10 dX4_stepsOf_34 ?_
    refine J_iconst C (v := nI 1) dX4_stepsOf_37 (by decide) ?_
    refine J_isub C (v := nI ((a.1 0) - 1)) dX4_stepsOf_38 (pk_sub (a := a.1 0) (b := 1) (by omega)) ?_
    exact E dX4_stepsOf_39 (⟨by rw [s1_1]; rfl, rfl⟩)
  refine J_lookup C (tgt := 40) dX4_stepsOf_1 rfl (off := 39) (by show Op.lookupswitch.offset [((0 : Int), (27 : Int)), ((1 : Int), (32 : Int))] _ _ = _; rw [lv_osw (k := nI 0) (fun e => s1_0 ((nI_eq (by omega) (by decide)).mp e)) (by decide), lv_osw (k := nI 1) (fun e => s1_1 ((nI_eq (by omega) (by decide)).mp e)) (by decide)]; rfl) (by decide) ?_
  refine J_aload_n C dX4_stepsOf_40 rfl rfl ?_
  refine G4n_stream hw hr C wd_6_10 dX4_stepsOf_41 ?_
  refine J_iconst C (v := nI 2) dX4_stepsOf_44 (by decide) ?_
  refine J_idiv C (v := nI ((a.1 0) / 2)) dX4_stepsOf_45 (nI_ne0 (by omega) (by omega)) (pk_div (by omega) (by omega) (by omega)) ?_
  exact E dX4_stepsOf_46 (⟨by unfold stp; rw [if_neg s1_0, if_neg s1_1], rfl⟩)
def rm_X4_isWashed : Room := ({ frames := 0, cells := 0, slots := 0, locals := 0 })
set_option maxRecDepth 20000 in
theorem c_X4_isWashed (l : Launch) (Z : EC) (x : St) {w : Nat} (hw : w < 2) {a : SA} (hr : ShR x w a) (ok : SOK a) (q h : Nat) (hq : q < a.1 3) (hh : h < 100) : MIz l Z (wC Z) yX4_isWashed cX4_isWashed 3 rm_X4_isWashed [.ref (Z.2.1 (25 + 6 * w)), .int (nI q), .int (nI h)] x (fun b x1 => b = decide (a.2 0 q < h) ∧ x = x1) := by
  obtain ⟨ok0, ok1, ok2, ok3, ok4, ok5, ok6, ok7⟩ := id ok
  have hg := (ok5 q hq).1
  refine MIz_of (own := RX4) (L0 := [some (.ref (Z.2.1 (25 + 6 * w))), some (.int (nI q)), some (.int (nI h))]) (by decide) rfl (Nat.le_of_ble_eq_true rfl) ⟨rfl, rfl, rfl, trivial⟩ ?_
  intro Γ C E
  refine J_aload_n C dX4_isWashed_0 rfl rfl ?_
  refine G4_heights hw C wd_3_9 dX4_isWashed_1 ?_
  refine J_iload_n C dX4_isWashed_4 rfl rfl ?_
  refine L4n_heights hw hr ok C (by omega) dX4_isWashed_5 ?_
  refine J_iload_n C dX4_isWashed_6 rfl rfl ?_
  refine J_icmp_ge_n C (tgt := 14) dX4_isWashed_7 (by decide) (by omega) (by omega) (fun c7 => ?_) (fun c7 => ?_)
  · skip
    refine J_iconst C (v := nI 0) dX4_isWashed_14 (by decide) ?_
    exact E (b := false) dX4_isWashed_15 (⟨(decide_eq_false (by omega)).symm, rfl⟩)
  · skip
    refine J_iconst C (v := nI 1) dX4_isWashed_10 (by decide) ?_
    refine J_goto (tgt := 15) C dX4_isWashed_11 (by decide) ?_
    exact E (b := true) dX4_isWashed_15 (⟨(decide_eq_true c7).symm, rfl⟩)
def rm_X4_washedBy : Room := ({ frames := 1, cells := 0, slots := 0, locals := 22 })
set_option maxRecDepth 20000 in
theorem c_X4_washedBy (l : Launch) (Z : EC) (x : St) {w : Nat} (hw : w < 2) {a : SA} (hr : ShR x w a) (ok : SOK a) (h : Nat) (hh : h < 100) : MIi l Z (wC Z) yX4_washedBy cX4_washedBy 4 rm_X4_washedBy [.ref (Z.2.1 (25 + 6 * w)), .int (nI h)] x (fun r x1 => r = nI (wet a h) ∧ x = x1) := by
  obtain ⟨ok0, ok1, ok2, ok3, ok4, ok5, ok6, ok7⟩ := id ok
  refine MIi_of (own := RX4) (L0 := [some (.ref (Z.2.1 (25 + 6 * w))), some (.int (nI h)), none, none]) (by decide) rfl (Nat.le_of_ble_eq_true rfl) ⟨rfl, rfl, trivial⟩ ?_
  intro Γ C E
  refine J_iconst C (v := nI 0) dX4_washedBy_0 (by decide) ?_
  refine J_istore_n C (L' := [some (.ref (Z.2.1 (25 + 6 * w))), some (.int (nI h)), some (.int (nI 0)), none]) dX4_washedBy_1 rfl (by decide) rfl rfl ?_
  refine J_iconst C (v := nI 0) dX4_washedBy_2 (by decide) ?_
  refine J_istore_n C (L' := [some (.ref (Z.2.1 (25 + 6 * w))), some (.int (nI h)), some (.int (nI 0)), some (.int (nI 0))]) dX4_washedBy_3 rfl (by decide) rfl rfl ?_
  have lp4 : ∀ (f : Nat) (i : Nat), (i ≤ a.1 3) → (a.1 3 - i < f) →  J Γ x 4 [some (.ref (Z.2.1 (25 + 6 * w))), some (.int (nI h)), some (.int (nI (bits (fun q => decide (a.2 0 q < h)) i))), some (.int (nI i))] [] := by
    intro f
    induction f with
    | zero =>
      intro i hi hf
      omega
    | succ f ih4 =>
      intro i hi hf
      refine J_iload_n C dX4_washedBy_4 rfl rfl ?_
      refine J_aload_n C dX4_washedBy_5 rfl rfl ?_
      refine G4n_pools hw hr C wd_7_6 dX4_washedBy_6 ?_
      refine J_icmp_ge_n C (tgt := 33) dX4_washedBy_9 (by decide) (by omega) (by omega) (fun c9 => ?_) (fun c9 => ?_)
      · skip
        refine J_iload_n C dX4_washedBy_33 rfl rfl ?_
        exact E dX4_washedBy_34 (⟨by rw [show i = a.1 3 by omega]; rfl, rfl⟩)
      · skip
        refine J_aload_n C dX4_washedBy_12 rfl rfl ?_
        refine J_iload_n C dX4_washedBy_13 rfl rfl ?_
        refine J_iload_n C dX4_washedBy_14 rfl rfl ?_
        refine J_callVz C (N := 10) (As := [.int (nI i), .int (nI h)]) (c_X4_isWashed l Z _ hw hr ok _ _ (by omega) (by omega)) cw_RX4_93 wd_16_23 wd_17_0 (at_shore hw) rfl rfl rfl (Nat.le_of_ble_eq_true rfl) rfl rfl (Nat.le_of_ble_eq_true rfl) (Nat.le_of_ble_eq_true rfl) dX4_washedBy_15 (fun b15 x15 hp15 => ?_)
        obtain ⟨rfl, rfl⟩ := hp15
        refine J_if_eq_b C (tgt := 27) dX4_washedBy_18 (by decide) (fun c18 => ?_) (fun c18 => ?_)
        · skip
          refine J_iinc C (v := nI (i + 1)) (L' := [some (.ref (Z.2.1 (25 + 6 * w))), some (.int (nI h)), some (.int (nI (bits (fun q => decide (a.2 0 q < h)) i))), some (.int (nI (i + 1)))]) dX4_washedBy_27 rfl (nI_1 _) (by decide) rfl rfl ?_
          refine J_goto (tgt := 4) C dX4_washedBy_30 (by decide) ?_
          refine J_drop ?_ (ih4 (i + 1) (by omega) (by omega))
          exact ⟨rfl, rfl, bits_noV (by simpa using c18), rfl, trivial⟩
        · skip
          refine J_iload_n C dX4_washedBy_21 rfl rfl ?_
          refine J_iconst C (v := nI 1) dX4_washedBy_22 (by decide) ?_
          refine J_iload_n C dX4_washedBy_23 rfl rfl ?_
          refine J_ishl C (v := nI (2 ^ i)) dX4_washedBy_24 (sh1 _ (by omega)) ?_
          refine J_ior C (v := nI (bits (fun q => decide (a.2 0 q < h)) (i + 1))) dX4_washedBy_25 (bits_or c18) ?_
          refine J_istore_n C (L' := [some (.ref (Z.2.1 (25 + 6 * w))), some (.int (nI h)), some (.int (nI (bits (fun q => decide (a.2 0 q < h)) (i + 1)))), some (.int (nI i))]) dX4_washedBy_26 rfl (by decide) rfl rfl ?_
          refine J_iinc C (v := nI (i + 1)) (L' := [some (.ref (Z.2.1 (25 + 6 * w))), some (.int (nI h)), some (.int (nI (bits (fun q => decide (a.2 0 q < h)) (i + 1)))), some (.int (nI (i + 1)))]) dX4_washedBy_27 rfl (nI_1 _) (by decide) rfl rfl ?_
          refine J_goto (tgt := 4) C dX4_washedBy_30 (by decide) ?_
          refine J_drop ?_ (ih4 (i + 1) (by omega) (by omega))
          exact ⟨rfl, rfl, rfl, rfl, trivial⟩
  refine J_drop ?_ (lp4 (a.1 3 + 1) 0 (by omega) (by omega))
  exact ⟨rfl, rfl, rfl, rfl, trivial⟩
def rm_X4_nextWashed : Room := ({ frames := 1, cells := 0, slots := 0, locals := 22 })
set_option maxRecDepth 20000 in
theorem c_X4_nextWashed (l : Launch) (Z : EC) (x : St) {w : Nat} (hw : w < 2) {a : SA} (hr : ShR x w a) (ok : SOK a) (q h : Nat) (hq : q < a.1 3) (hh : h < 100) : MIi l Z (wC Z) yX4_nextWashed cX4_nextWashed 5 rm_X4_nextWashed [.ref (Z.2.1 (25 + 6 * w)), .int (nI q), .int (nI h)] x (fun r x1 => r = nI (nxt (a.1 3) (a.2 0) h q) ∧ x = x1) := by
  obtain ⟨ok0, ok1, ok2, ok3, ok4, ok5, ok6, ok7⟩ := id ok
  refine MIi_of (own := RX4) (L0 := [some (.ref (Z.2.1 (25 + 6 * w))), some (.int (nI q)), some (.int (nI h)), none, none]) (by decide) rfl (Nat.le_of_ble_eq_true rfl) ⟨rfl, rfl, rfl, trivial⟩ ?_
  intro Γ C E
  refine J_iconst C (v := nI 1) dX4_nextWashed_0 (by decide) ?_
  refine J_istore_n C (L' := [some (.ref (Z.2.1 (25 + 6 * w))), some (.int (nI q)), some (.int (nI h)), some (.int (nI 1)), none]) dX4_nextWashed_1 rfl (by decide) rfl rfl ?_
  have lp2 : ∀ (f : Nat) (s : Nat), (s ≤ a.1 3) → (1 ≤ s) → (nw (a.1 3) (a.2 0) h q (a.1 3 - s) s = nxt (a.1 3) (a.2 0) h q) → (a.1 3 - s < f) →  J Γ x 2 [some (.ref (Z.2.1 (25 + 6 * w))), some (.int (nI q)), some (.int (nI h)), some (.int (nI s)), none] [] := by
    intro f
    induction f with
    | zero =>
      intro s hs hs1 hv hf
      omega
    | succ f ih2 =>
      intro s hs hs1 hv hf
      refine J_iload_n C dX4_nextWashed_2 rfl rfl ?_
      refine J_aload_n C dX4_nextWashed_3 rfl rfl ?_
      refine G4n_pools hw hr C wd_7_6 dX4_nextWashed_4 ?_
      refine J_icmp_ge_n C (tgt := 55) dX4_nextWashed_7 (by decide) (by omega) (by omega) (fun c7 => ?_) (fun c7 => ?_)
      · skip
        refine J_iload_n C dX4_nextWashed_55 rfl rfl ?_
        exact E dX4_nextWashed_56 (⟨by rw [← hv, show a.1 3 - s = 0 by omega]; rfl, rfl⟩)
      · skip
        refine J_iload_n C dX4_nextWashed_10 rfl rfl ?_
        refine J_iload_n C dX4_nextWashed_11 rfl rfl ?_
        refine J_iadd C (v := nI (q + s)) dX4_nextWashed_12 (nI_add _ _) ?_
        refine J_aload_n C dX4_nextWashed_13 rfl rfl ?_
        refine G4n_pools hw hr C wd_7_6 dX4_nextWashed_14 ?_
        refine J_icmp_ge_n C (tgt := 26) dX4_nextWashed_17 (by decide) (by omega) (by omega) (fun c17 => ?_) (fun c17 => ?_)
        · skip
          refine J_iload_n C dX4_nextWashed_26 rfl rfl ?_
          refine J_iload_n C dX4_nextWashed_27 rfl rfl ?_
          refine J_iadd C (v := nI (q + s)) dX4_nextWashed_28 (nI_add _ _) ?_
          refine J_aload_n C dX4_nextWashed_29 rfl rfl ?_
          refine G4n_pools hw hr C wd_7_6 dX4_nextWashed_30 ?_
          refine J_isub C (v := nI ((q + s) - (a.1 3))) dX4_nextWashed_33 (pk_sub (a := q + s) (b := a.1 3) (by omega)) ?_
          refine J_istore C (L' := [some (.ref (Z.2.1 (25 + 6 * w))), some (.int (nI q)), some (.int (nI h)), some (.int (nI s)), some (.int (nI ((q + s) - (a.1 3))))]) dX4_nextWashed_34 (by decide) rfl rfl ?_
          refine J_aload_n C dX4_nextWashed_36 rfl rfl ?_
          refine J_iload C dX4_nextWashed_37 rfl ?_
          refine J_iload_n C dX4_nextWashed_39 rfl rfl ?_
          refine J_callVz C (N := 10) (As := [.int (nI ((q + s) - (a.1 3))), .int (nI h)]) (c_X4_isWashed l Z _ hw hr ok _ _ (by omega) (by omega)) cw_RX4_93 wd_16_23 wd_17_0 (at_shore hw) rfl rfl rfl (Nat.le_of_ble_eq_true rfl) rfl rfl (Nat.le_of_ble_eq_true rfl) (Nat.le_of_ble_eq_true rfl) dX4_nextWashed_40 (fun b40 x40 hp40 => ?_)
          obtain ⟨rfl, rfl⟩ := hp40
          refine J_if_eq_b C (tgt := 49) dX4_nextWashed_43 (by decide) (fun c43 => ?_) (fun c43 => ?_)
          · skip
            refine J_iinc C (v := nI (s + 1)) (L' := [some (.ref (Z.2.1 (25 + 6 * w))), some (.int (nI q)), some (.int (nI h)), some (.int (nI (s + 1))), some (.int (nI ((q + s) - (a.1 3))))]) dX4_nextWashed_49 rfl (nI_1 _) (by decide) rfl rfl ?_
            refine J_goto (tgt := 2) C dX4_nextWashed_52 (by decide) ?_
            refine J_drop ?_ (ih2 (s + 1) (by omega) (by omega) (by rw [← hv, show a.1 3 - s = (a.1 3 - (s + 1)) + 1 by omega, nw_miss (by rw [rng_ge (by omega)]; simpa using c43)]) (by omega))
            exact ⟨rfl, rfl, rfl, rfl, trivial⟩
          · skip
            refine J_iload C dX4_nextWashed_46 rfl ?_
            exact E dX4_nextWashed_48 (⟨by rw [← hv, show a.1 3 - s = (a.1 3 - (s + 1)) + 1 by omega, nw_hit (by rw [rng_ge (by omega)]; simpa using c43), rng_ge (by omega)], rfl⟩)
        · skip
          refine J_iload_n C dX4_nextWashed_20 rfl rfl ?_
          refine J_iload_n C dX4_nextWashed_21 rfl rfl ?_
          refine J_iadd C (v := nI (q + s)) dX4_nextWashed_22 (nI_add _ _) ?_
          refine J_goto (tgt := 34) C dX4_nextWashed_23 (by decide) ?_
          refine J_istore C (L' := [some (.ref (Z.2.1 (25 + 6 * w))), some (.int (nI q)), some (.int (nI h)), some (.int (nI s)), some (.int (nI (q + s)))]) dX4_nextWashed_34 (by decide) rfl rfl ?_
          refine J_aload_n C dX4_nextWashed_36 rfl rfl ?_
          refine J_iload C dX4_nextWashed_37 rfl ?_
          refine J_iload_n C dX4_nextWashed_39 rfl rfl ?_
          refine J_callVz C (N := 10) (As := [.int (nI (q + s)), .int (nI h)]) (c_X4_isWashed l Z _ hw hr ok _ _ (by omega) (by omega)) cw_RX4_93 wd_16_23 wd_17_0 (at_shore hw) rfl rfl rfl (Nat.le_of_ble_eq_true rfl) rfl rfl (Nat.le_of_ble_eq_true rfl) (Nat.le_of_ble_eq_true rfl) dX4_nextWashed_40 (fun b40 x40 hp40 => ?_)
          obtain ⟨rfl, rfl⟩ := hp40
          refine J_if_eq_b C (tgt := 49) dX4_nextWashed_43 (by decide) (fun c43 => ?_) (fun c43 => ?_)
          · skip
            refine J_iinc C (v := nI (s + 1)) (L' := [some (.ref (Z.2.1 (25 + 6 * w))), some (.int (nI q)), some (.int (nI h)), some (.int (nI (s + 1))), some (.int (nI (q + s)))]) dX4_nextWashed_49 rfl (nI_1 _) (by decide) rfl rfl ?_
            refine J_goto (tgt := 2) C dX4_nextWashed_52 (by decide) ?_
            refine J_drop ?_ (ih2 (s + 1) (by omega) (by omega) (by rw [← hv, show a.1 3 - s = (a.1 3 - (s + 1)) + 1 by omega, nw_miss (by rw [rng_lt (by omega)]; simpa using c43)]) (by omega))
            exact ⟨rfl, rfl, rfl, rfl, trivial⟩
          · skip
            refine J_iload C dX4_nextWashed_46 rfl ?_
            exact E dX4_nextWashed_48 (⟨by rw [← hv, show a.1 3 - s = (a.1 3 - (s + 1)) + 1 by omega, nw_hit (by rw [rng_lt (by omega)]; simpa using c43), rng_lt (by omega)], rfl⟩)
  refine J_drop ?_ (lp2 (a.1 3 + 1) 1 (by omega) (by omega) rfl (by omega))
  exact ⟨rfl, rfl, rfl, rfl, trivial⟩
def rm_X4_poolBehind : Room := ({ frames := 2, cells := 0, slots := 0, locals := 46 })
set_option maxRecDepth 20000 in
theorem c_X4_poolBehind (l : Launch) (Z : EC) (x : St) {w : Nat} (hw : w < 2) {a : SA} (hr : ShR x w a) (ok : SOK a) (q k h : Nat) (hq : q < a.1 3) (hk : k ≤ 2) (hh : h < 100) : MIi l Z (wC Z) yX4_poolBehind cX4_poolBehind 6 rm_X4_poolBehind [.ref (Z.2.1 (25 + 6 * w)), .int (nI q), .int (nI k), .int (nI h)] x (fun r x1 => r = nI (carry a q k h) ∧ x = x1) := by
  obtain ⟨ok0, ok1, ok2, ok3, ok4, ok5, ok6, ok7⟩ := id ok
  have hs1 := ok7 (by omega)
  have hst := stp_le (k := k) ok0
  refine MIi_of (own := RX4) (L0 := [some (.ref (Z.2.1 (25 + 6 * w))), some (.int (nI q)), some (.int (nI k)), some (.int (nI h)), none, none]) (by decide) rfl (Nat.le_of_ble_eq_true rfl) ⟨rfl, rfl, rfl, rfl, trivial⟩ ?_
  intro Γ C E
  refine J_aload_n C dX4_poolBehind_0 rfl rfl ?_
  refine J_iload_n C dX4_poolBehind_1 rfl rfl ?_
  refine J_iload_n C dX4_poolBehind_2 rfl rfl ?_
  refine J_callVz C (N := 10) (As := [.int (nI q), .int (nI h)]) (c_X4_isWashed l Z _ hw hr ok _ _ (by omega) (by omega)) cw_RX4_93 wd_16_23 wd_17_0 (at_shore hw) rfl rfl rfl (Nat.le_of_ble_eq_true rfl) rfl rfl (Nat.le_of_ble_eq_true rfl) (Nat.le_of_ble_eq_true rfl) dX4_poolBehind_3 (fun b3 x3 hp3 => ?_)
  obtain ⟨rfl, rfl⟩ := hp3
  refine J_if_ne_b C (tgt := 11) dX4_poolBehind_6 (by decide) (fun c6 => ?_) (fun c6 => ?_)
  · skip
    refine J_iload_n C dX4_poolBehind_11 rfl rfl ?_
    refine J_istore C (L' := [some (.ref (Z.2.1 (25 + 6 * w))), some (.int (nI q)), some (.int (nI k)), some (.int (nI h)), some (.int (nI q)), none]) dX4_poolBehind_12 (by decide) rfl rfl ?_
    refine J_aload_n C dX4_poolBehind_14 rfl rfl ?_
    refine J_iload_n C dX4_poolBehind_15 rfl rfl ?_
    refine J_callVi C (N := 10) (As := [.int (nI k)]) (c_X4_stepsOf l Z _ hw hr ok _ (by omega) (by omega)) cw_RX4_97 wd_13_6 wd_13_7 (at_shore hw) rfl rfl rfl (Nat.le_of_ble_eq_true rfl) rfl rfl (Nat.le_of_ble_eq_true rfl) (Nat.le_of_ble_eq_true rfl) dX4_poolBehind_16 (fun r16 x16 hp16 => ?_)
    obtain ⟨rfl, rfl⟩ := hp16
    refine J_istore C (L' := [some (.ref (Z.2.1 (25 + 6 * w))), some (.int (nI q)), some (.int (nI k)), some (.int (nI h)), some (.int (nI q)), some (.int (nI (stp (a.1 0) k)))]) dX4_poolBehind_19 (by decide) rfl rfl ?_
    have lp21 : ∀ (f : Nat) (p n : Nat), (p < a.1 3) → (n ≤ 3) → (itn (nxt (a.1 3) (a.2 0) h) n p = itn (nxt (a.1 3) (a.2 0) h) (stp (a.1 0) k) q) → (n < f) →  J Γ x 21 [some (.ref (Z.2.1 (25 + 6 * w))), some (.int (nI q)), some (.int (nI k)), some (.int (nI h)), some (.int (nI p)), some (.int (nI n))] [] := by
      intro f
      induction f with
      | zero =>
        intro p n hp hn hv hf
        omega
      | succ f ih21 =>
        intro p n hp hn hv hf
        refine J_iload C dX4_poolBehind_21 rfl ?_
        refine J_if_le_n C (tgt := 41) dX4_poolBehind_23 (by decide) (by omega) (fun c23 => ?_) (fun c23 => ?_)
        · skip
          refine J_iload C dX4_poolBehind_41 rfl ?_
          exact E dX4_poolBehind_43 (⟨by unfold carry carryP; rw [if_pos (by simpa using c6), ← hv, c23]; rfl, rfl⟩)
        · skip
          refine J_aload_n C dX4_poolBehind_26 rfl rfl ?_
          refine J_iload C dX4_poolBehind_27 rfl ?_
          refine J_iload_n C dX4_poolBehind_29 rfl rfl ?_
          refine J_callVi C (N := 10) (As := [.int (nI p), .int (nI h)]) (c_X4_nextWashed l Z _ hw hr ok _ _ (by omega) (by omega)) cw_RX4_100 wd_18_0 wd_18_1 (at_shore hw) rfl rfl rfl (Nat.le_of_ble_eq_true rfl) rfl rfl (Nat.le_of_ble_eq_true rfl) (Nat.le_of_ble_eq_true rfl) dX4_poolBehind_30 (fun r30 x30 hp30 => ?_)
          obtain ⟨rfl, rfl⟩ := hp30
          refine J_istore C (L' := [some (.ref (Z.2.1 (25 + 6 * w))), some (.int (nI q)), some (.int (nI k)), some (.int (nI h)), some (.int (nI (nxt (a.1 3) (a.2 0) h p))), some (.int (nI n))]) dX4_poolBehind_33 (by decide) rfl rfl ?_
          refine J_iinc C (v := nI (n - 1)) (L' := [some (.ref (Z.2.1 (25 + 6 * w))), some (.int (nI q)), some (.int (nI k)), some (.int (nI h)), some (.int (nI (nxt (a.1 3) (a.2 0) h p))), some (.int (nI (n - 1)))]) dX4_poolBehind_35 rfl (nI_dec (by omega)) (by decide) rfl rfl ?_
          refine J_goto (tgt := 21) C dX4_poolBehind_38 (by decide) ?_
          refine J_drop ?_ (ih21 (nxt (a.1 3) (a.2 0) h p) (n - 1) (nxt_lt hp) (by omega) (by rw [← hv]; obtain ⟨n2, rfl⟩ : ∃ n2, n = n2 + 1 := ⟨n - 1, by omega⟩; rfl) (by omega))
          exact ⟨rfl, rfl, rfl, rfl, rfl, rfl, trivial⟩
    refine J_drop ?_ (lp21 (stp (a.1 0) k + 1) q (stp (a.1 0) k) hq (by omega) rfl (by omega))
    exact ⟨rfl, rfl, rfl, rfl, rfl, rfl, trivial⟩
  · skip
    refine J_iload_n C dX4_poolBehind_9 rfl rfl ?_
    exact E dX4_poolBehind_10 (⟨by unfold carry carryP; rw [if_neg (by simpa using c6)], rfl⟩)
def rm_X4_seatBehind : Room := ({ frames := 3, cells := 0, slots := 0, locals := 71 })
set_option maxRecDepth 20000 in
theorem c_X4_seatBehind (l : Launch) (Z : EC) (x : St) {w : Nat} (hw : w < 2) {a : SA} (hr : ShR x w a) (ok : SOK a) (m h : Nat) (hm : m < a.1 4) (hh : h < 100) : MIi l Z (wC Z) yX4_seatBehind cX4_seatBehind 3 rm_X4_seatBehind [.ref (Z.2.1 (25 + 6 * w)), .int (nI m), .int (nI h)] x (fun r x1 => r = nI (carry a (a.2 3 m) (a.2 2 m) h) ∧ x = x1) := by
  obtain ⟨ok0, ok1, ok2, ok3, ok4, ok5, ok6, ok7⟩ := id ok
  obtain ⟨hm1, hm2, hm3⟩ := ok6 m hm
  refine MIi_of (own := RX4) (L0 := [some (.ref (Z.2.1 (25 + 6 * w))), some (.int (nI m)), some (.int (nI h))]) (by decide) rfl (Nat.le_of_ble_eq_true rfl) ⟨rfl, rfl, rfl, trivial⟩ ?_
  intro Γ C E
  refine J_aload_n C dX4_seatBehind_0 rfl rfl ?_
  refine J_aload_n C dX4_seatBehind_1 rfl rfl ?_
  refine G4_seats hw C wd_3_12 dX4_seatBehind_2 ?_
  refine J_iload_n C dX4_seatBehind_5 rfl rfl ?_
  refine L4n_seats hw hr ok C (by omega) dX4_seatBehind_6 ?_
  refine J_aload_n C dX4_seatBehind_7 rfl rfl ?_
  refine G4_kindOf hw C wd_3_11 dX4_seatBehind_8 ?_
  refine J_iload_n C dX4_seatBehind_11 rfl rfl ?_
  refine L4n_kindOf hw hr ok C (by omega) dX4_seatBehind_12 ?_
  refine J_iload_n C dX4_seatBehind_13 rfl rfl ?_
  refine J_callVi C (N := 10) (As := [.int (nI (a.2 3 m)), .int (nI (a.2 2 m)), .int (nI h)]) (c_X4_poolBehind l Z _ hw hr ok _ _ _ hm2 hm1 (by omega)) cw_RX4_103 wd_17_19 wd_17_20 (at_shore hw) rfl rfl rfl (Nat.le_of_ble_eq_true rfl) rfl rfl (Nat.le_of_ble_eq_true rfl) (Nat.le_of_ble_eq_true rfl) dX4_seatBehind_14 (fun r14 x14 hp14 => ?_)
  obtain ⟨rfl, rfl⟩ := hp14
  exact E dX4_seatBehind_17 (⟨rfl, rfl⟩)
def rm_X4_friendsOf : Room := ({ frames := 1, cells := 0, slots := 0, locals := 21 })
set_option maxRecDepth 20000 in
theorem c_X4_friendsOf (l : Launch) (Z : EC) (x : St) {w : Nat} (hw : w < 2) {a : SA} (hr : ShR x w a) (ok : SOK a) (v : Nat) (hv : v ≤ 9) : MIi l Z (wC Z) yX4_friendsOf cX4_friendsOf 4 rm_X4_friendsOf [.ref (Z.2.1 (25 + 6 * w)), .int (nI v)] x (fun r x1 => r = nI (fri a v) ∧ x = x1) := by
  obtain ⟨ok0, ok1, ok2, ok3, ok4, ok5, ok6, ok7⟩ := id ok
  refine MIi_of (own := RX4) (L0 := [some (.ref (Z.2.1 (25 + 6 * w))), some (.int (nI v)), none, none]) (by decide) rfl (Nat.le_of_ble_eq_true rfl) ⟨rfl, rfl, trivial⟩ ?_
  intro Γ C E
  refine J_iconst C (v := nI 0) dX4_friendsOf_0 (by decide) ?_
  refine J_istore_n C (L' := [some (.ref (Z.2.1 (25 + 6 * w))), some (.int (nI v)), some (.int (nI 0)), none]) dX4_friendsOf_1 rfl (by decide) rfl rfl ?_
  refine J_iconst C (v := nI 0) dX4_friendsOf_2 (by decide) ?_
  refine J_istore_n C (L' := [some (.ref (Z.2.1 (25 + 6 * w))), some (.int (nI v)), some (.int (nI 0)), some (.int (nI 0))]) dX4_friendsOf_3 rfl (by decide) rfl rfl ?_
  have lp4 : ∀ (f : Nat) (i : Nat), (i ≤ a.1 4) → (a.1 4 - i < f) →  J Γ x 4 [some (.ref (Z.2.1 (25 + 6 * w))), some (.int (nI v)), some (.int (nI (bits (fun m => decide (adf (a.2 4 m) v ≤ a.1 1)) i))), some (.int (nI i))] [] := by
    intro f
    induction f with
    | zero =>
      intro i hi hf
      omega
    | succ f ih4 =>
      intro i hi hf
      refine J_iload_n C dX4_friendsOf_4 rfl rfl ?_
      refine J_aload_n C dX4_friendsOf_5 rfl rfl ?_
      refine G4n_members hw hr C wd_7_15 dX4_friendsOf_6 ?_
      refine J_icmp_ge_n C (tgt := 42) dX4_friendsOf_9 (by decide) (by omega) (by omega) (fun c9 => ?_) (fun c9 => ?_)
      · skip
        refine J_iload_n C dX4_friendsOf_42 rfl rfl ?_
        exact E dX4_friendsOf_43 (⟨by rw [show i = a.1 4 by omega]; rfl, rfl⟩)
      · skip
        refine J_aload_n C dX4_friendsOf_12 rfl rfl ?_
        have hvw := (ok6 i (by omega)).2.2
        have hadf : adf (a.2 4 i) v ≤ 18 := by unfold adf; omega
        refine G4_views hw C wd_3_13 dX4_friendsOf_13 ?_
        refine J_iload_n C dX4_friendsOf_16 rfl rfl ?_
        refine L4n_views hw hr ok C (by omega) dX4_friendsOf_17 ?_
        refine J_iload_n C dX4_friendsOf_18 rfl rfl ?_
        refine J_isub C (v := nI (a.2 4 i) - nI v) dX4_friendsOf_19 (rfl) ?_
        refine J_abs C (v := nI (adf (a.2 4 i) v)) wd_19_14 wd_19_15 wd_19_16 wd_19_17 (Nat.le_of_ble_eq_true rfl) (Nat.le_of_ble_eq_true rfl) dX4_friendsOf_20 (abs_sub (by omega) (by omega)) ?_
        refine J_aload_n C dX4_friendsOf_23 rfl rfl ?_
        refine G4n_mild hw hr C wd_6_11 dX4_friendsOf_24 ?_
        refine J_icmp_gt_n C (tgt := 36) dX4_friendsOf_27 (by decide) (by omega) (by omega) (fun c27 => ?_) (fun c27 => ?_)
        · skip
          refine J_iinc C (v := nI (i + 1)) (L' := [some (.ref (Z.2.1 (25 + 6 * w))), some (.int (nI v)), some (.int (nI (bits (fun m => decide (adf (a.2 4 m) v ≤ a.1 1)) i))), some (.int (nI (i + 1)))]) dX4_friendsOf_36 rfl (nI_1 _) (by decide) rfl rfl ?_
          refine J_goto (tgt := 4) C dX4_friendsOf_39 (by decide) ?_
          refine J_drop ?_ (ih4 (i + 1) (by omega) (by omega))
          exact ⟨rfl, rfl, bits_noV (by simp; omega), rfl, trivial⟩
        · skip
          refine J_iload_n C dX4_friendsOf_30 rfl rfl ?_
          refine J_iconst C (v := nI 1) dX4_friendsOf_31 (by decide) ?_
          refine J_iload_n C dX4_friendsOf_32 rfl rfl ?_
          refine J_ishl C (v := nI (2 ^ i)) dX4_friendsOf_33 (sh1 _ (by omega)) ?_
          refine J_ior C (v := nI (bits (fun m => decide (adf (a.2 4 m) v ≤ a.1 1)) (i + 1))) dX4_friendsOf_34 (bits_or (decide_eq_true (by omega))) ?_
          refine J_istore_n C (L' := [some (.ref (Z.2.1 (25 + 6 * w))), some (.int (nI v)), some (.int (nI (bits (fun m => decide (adf (a.2 4 m) v ≤ a.1 1)) (i + 1)))), some (.int (nI i))]) dX4_friendsOf_35 rfl (by decide) rfl rfl ?_
          refine J_iinc C (v := nI (i + 1)) (L' := [some (.ref (Z.2.1 (25 + 6 * w))), some (.int (nI v)), some (.int (nI (bits (fun m => decide (adf (a.2 4 m) v ≤ a.1 1)) (i + 1)))), some (.int (nI (i + 1)))]) dX4_friendsOf_36 rfl (nI_1 _) (by decide) rfl rfl ?_
          refine J_goto (tgt := 4) C dX4_friendsOf_39 (by decide) ?_
          refine J_drop ?_ (ih4 (i + 1) (by omega) (by omega))
          exact ⟨rfl, rfl, rfl, rfl, trivial⟩
  refine J_drop ?_ (lp4 (a.1 4 + 1) 0 (by omega) (by omega))
  exact ⟨rfl, rfl, rfl, rfl, trivial⟩
def rm_X4_poolsWon : Room := ({ frames := 1, cells := 0, slots := 0, locals := 23 })
set_option maxRecDepth 20000 in
theorem c_X4_poolsWon (l : Launch) (Z : EC) (x : St) {w : Nat} (hw : w < 2) {a : SA} (hr : ShR x w a) (ok : SOK a) (f0 : Nat) (hf0 : f0 < 64) : MIi l Z (wC Z) yX4_poolsWon cX4_poolsWon 5 rm_X4_poolsWon [.ref (Z.2.1 (25 + 6 * w)), .int (nI f0)] x (fun r x1 => r = nI (won a f0) ∧ x = x1) := by
  obtain ⟨ok0, ok1, ok2, ok3, ok4, ok5, ok6, ok7⟩ := id ok
  refine MIi_of (own := RX4) (L0 := [some (.ref (Z.2.1 (25 + 6 * w))), some (.int (nI f0)), none, none, none]) (by decide) rfl (Nat.le_of_ble_eq_true rfl) ⟨rfl, rfl, trivial⟩ ?_
  intro Γ C E
  refine J_iconst C (v := nI 0) dX4_poolsWon_0 (by decide) ?_
  refine J_istore_n C (L' := [some (.ref (Z.2.1 (25 + 6 * w))), some (.int (nI f0)), some (.int (nI 0)), none, none]) dX4_poolsWon_1 rfl (by decide) rfl rfl ?_
  refine J_iconst C (v := nI 0) dX4_poolsWon_2 (by decide) ?_
  refine J_istore_n C (L' := [some (.ref (Z.2.1 (25 + 6 * w))), some (.int (nI f0)), some (.int (nI 0)), some (.int (nI 0)), none]) dX4_poolsWon_3 rfl (by decide) rfl rfl ?_
  have lp4 : ∀ (f : Nat) (i : Nat), (i ≤ a.1 3) → (a.1 3 - i < f) →  J Γ x 4 [some (.ref (Z.2.1 (25 + 6 * w))), some (.int (nI f0)), some (.int (nI (bits (fun q => decide (pop (sit a q) < 2 * pop (sit a q &&& f0))) i))), some (.int (nI i)), none] [] := by
    intro f
    induction f with
    | zero =>
      intro i hi hf
      omega
    | succ f ih4 =>
      intro i hi hf
      have hsit := sit64 ok i
      have hspl := pop_split _ hsit f0 hf0
      have hp1 := pop_le (sit a i &&& f0)
      have hp2 := pop_le (sit a i &&& (63 - f0))
      refine J_iload_n C dX4_poolsWon_4 rfl rfl ?_
      refine J_aload_n C dX4_poolsWon_5 rfl rfl ?_
      refine G4n_pools hw hr C wd_7_6 dX4_poolsWon_6 ?_
      refine J_icmp_ge_n C (tgt := 50) dX4_poolsWon_9 (by decide) (by omega) (by omega) (fun c9 => ?_) (fun c9 => ?_)
      · skip
        refine J_iload_n C dX4_poolsWon_50 rfl rfl ?_
        exact E dX4_poolsWon_51 (⟨by rw [show i = a.1 3 by omega]; rfl, rfl⟩)
      · skip
        refine J_aload_n C dX4_poolsWon_12 rfl rfl ?_
        refine J_iload_n C dX4_poolsWon_13 rfl rfl ?_
        refine J_callVi C (N := 10) (As := [.int (nI i)]) (c_X4_sittersOf l Z _ hw hr ok _ (by omega)) cw_RX4_77 wd_11_8 wd_11_9 (at_shore hw) rfl rfl rfl (Nat.le_of_ble_eq_true rfl) rfl rfl (Nat.le_of_ble_eq_true rfl) (Nat.le_of_ble_eq_true rfl) dX4_poolsWon_14 (fun r14 x14 hp14 => ?_)
        obtain ⟨rfl, rfl⟩ := hp14
        refine J_istore C (L' := [some (.ref (Z.2.1 (25 + 6 * w))), some (.int (nI f0)), some (.int (nI (bits (fun q => decide (pop (sit a q) < 2 * pop (sit a q &&& f0))) i))), some (.int (nI i)), some (.int (nI (sit a i)))]) dX4_poolsWon_17 (by decide) rfl rfl ?_
        refine J_iload C dX4_poolsWon_19 rfl ?_
        refine J_iload_n C dX4_poolsWon_21 rfl rfl ?_
        refine J_iand C (v := nI ((sit a i) &&& f0)) dX4_poolsWon_22 (fa_and _ _) ?_
        refine J_callSi C (As := [.int (nI ((sit a i) &&& f0))]) (c_J6_bitCount_0f7a4 l Z _ _ (and64 hsit)) cw_RX4_81 wd_11_21 rfl rfl (Nat.le_of_ble_eq_true rfl) rfl rfl (Nat.le_of_ble_eq_true rfl) (Nat.le_of_ble_eq_true rfl) dX4_poolsWon_23 (fun r23 x23 hp23 => ?_)
        obtain ⟨rfl, rfl⟩ := hp23
        refine J_iload C dX4_poolsWon_26 rfl ?_
        refine J_iload_n C dX4_poolsWon_28 rfl rfl ?_
        refine J_iconst C (v := (-1)) dX4_poolsWon_29 (by decide) ?_
        refine J_ixor C (v := nI f0 ^^^ (-1)) dX4_poolsWon_30 (rfl) ?_
        refine J_iand C (v := nI (sit a i &&& (63 - f0))) dX4_poolsWon_31 (notand _ hsit _ hf0) ?_
        refine J_callSi C (As := [.int (nI (sit a i &&& (63 - f0)))]) (c_J6_bitCount_0f7a4 l Z _ _ (and64 hsit)) cw_RX4_81 wd_11_21 rfl rfl (Nat.le_of_ble_eq_true rfl) rfl rfl (Nat.le_of_ble_eq_true rfl) (Nat.le_of_ble_eq_true rfl) dX4_poolsWon_32 (fun r32 x32 hp32 => ?_)
        obtain ⟨rfl, rfl⟩ := hp32
        refine J_icmp_le_n C (tgt := 44) dX4_poolsWon_35 (by decide) (by omega) (by omega) (fun c35 => ?_) (fun c35 => ?_)
        · skip
          refine J_iinc C (v := nI (i + 1)) (L' := [some (.ref (Z.2.1 (25 + 6 * w))), some (.int (nI f0)), some (.int (nI (bits (fun q => decide (pop (sit a q) < 2 * pop (sit a q &&& f0))) i))), some (.int (nI (i + 1))), some (.int (nI (sit a i)))]) dX4_poolsWon_44 rfl (nI_1 _) (by decide) rfl rfl ?_
          refine J_goto (tgt := 4) C dX4_poolsWon_47 (by decide) ?_
          refine J_drop ?_ (ih4 (i + 1) (by omega) (by omega))
          exact ⟨rfl, rfl, bits_noV (by simp; omega), rfl, trivial⟩
        · skip
          refine J_iload_n C dX4_poolsWon_38 rfl rfl ?_
          refine J_iconst C (v := nI 1) dX4_poolsWon_39 (by decide) ?_
          refine J_iload_n C dX4_poolsWon_40 rfl rfl ?_
          refine J_ishl C (v := nI (2 ^ i)) dX4_poolsWon_41 (sh1 _ (by omega)) ?_
          refine J_ior C (v := nI (bits (fun q => decide (pop (sit a q) < 2 * pop (sit a q &&& f0))) (i + 1))) dX4_poolsWon_42 (bits_or (decide_eq_true (by omega))) ?_
          refine J_istore_n C (L' := [some (.ref (Z.2.1 (25 + 6 * w))), some (.int (nI f0)), some (.int (nI (bits (fun q => decide (pop (sit a q) < 2 * pop (sit a q &&& f0))) (i + 1)))), some (.int (nI i)), some (.int (nI (sit a i)))]) dX4_poolsWon_43 rfl (by decide) rfl rfl ?_
          refine J_iinc C (v := nI (i + 1)) (L' := [some (.ref (Z.2.1 (25 + 6 * w))), some (.int (nI f0)), some (.int (nI (bits (fun q => decide (pop (sit a q) < 2 * pop (sit a q &&& f0))) (i + 1)))), some (.int (nI (i + 1))), some (.int (nI (sit a i)))]) dX4_poolsWon_44 rfl (nI_1 _) (by decide) rfl rfl ?_
          refine J_goto (tgt := 4) C dX4_poolsWon_47 (by decide) ?_
          refine J_drop ?_ (ih4 (i + 1) (by omega) (by omega))
          exact ⟨rfl, rfl, rfl, rfl, trivial⟩
  refine J_drop ?_ (lp4 (a.1 3 + 1) 0 (by omega) (by omega))
  exact ⟨rfl, rfl, rfl, rfl, trivial⟩
def rm_X4_isLawBy : Room := ({ frames := 2, cells := 0, slots := 0, locals := 47 })
set_option maxRecDepth 20000 in
theorem c_X4_isLawBy (l : Launch) (Z : EC) (x : St) {w : Nat} (hw : w < 2) {a : SA} (hr : ShR x w a) (ok : SOK a) (f0 : Nat) (hf0 : f0 < 64) : MIz l Z (wC Z) yX4_isLawBy cX4_isLawBy 2 rm_X4_isLawBy [.ref (Z.2.1 (25 + 6 * w)), .int (nI f0)] x (fun b x1 => b = isLaw a f0 ∧ x = x1) := by
  obtain ⟨ok0, ok1, ok2, ok3, ok4, ok5, ok6, ok7⟩ := id ok
  have hp1 := pop_le (won a f0)
  have hsi : satIn a ≤ a.1 3 := cnt_le _ _
  refine MIz_of (own := RX4) (L0 := [some (.ref (Z.2.1 (25 + 6 * w))), some (.int (nI f0))]) (by decide) rfl (Nat.le_of_ble_eq_true rfl) ⟨rfl, rfl, trivial⟩ ?_
  intro Γ C E
  refine J_iconst C (v := nI 2) dX4_isLawBy_0 (by decide) ?_
  refine J_aload_n C dX4_isLawBy_1 rfl rfl ?_
  refine J_iload_n C dX4_isLawBy_2 rfl rfl ?_
  refine J_callVi C (N := 10) (As := [.int (nI f0)]) (c_X4_poolsWon l Z _ hw hr ok _ hf0) cw_RX4_115 wd_20_7 wd_20_8 (at_shore hw) rfl rfl rfl (Nat.le_of_ble_eq_true rfl) rfl rfl (Nat.le_of_ble_eq_true rfl) (Nat.le_of_ble_eq_true rfl) dX4_isLawBy_3 (fun r3 x3 hp3 => ?_)
  obtain ⟨rfl, rfl⟩ := hp3
  refine J_callSi C (As := [.int (nI (won a f0))]) (c_J6_bitCount_0f7a4 l Z _ _ (won64 ok f0)) cw_RX4_81 wd_11_21 rfl rfl (Nat.le_of_ble_eq_true rfl) rfl rfl (Nat.le_of_ble_eq_true rfl) (Nat.le_of_ble_eq_true rfl) dX4_isLawBy_6 (fun r6 x6 hp6 => ?_)
  obtain ⟨rfl, rfl⟩ := hp6
  refine J_imul C (v := nI (2 * (pop (won a f0)))) dX4_isLawBy_9 (pk_mul _ _) ?_
  refine J_aload_n C dX4_isLawBy_10 rfl rfl ?_
  refine J_callVi C (N := 10) (As := []) (c_X4_poolsSatIn l Z _ hw hr ok) cw_RX4_118 wd_21_4 wd_21_5 (at_shore hw) rfl rfl rfl (Nat.le_of_ble_eq_true rfl) rfl rfl (Nat.le_of_ble_eq_true rfl) (Nat.le_of_ble_eq_true rfl) dX4_isLawBy_11 (fun r11 x11 hp11 => ?_)
  obtain ⟨rfl, rfl⟩ := hp11
  refine J_icmp_le_n C (tgt := 21) dX4_isLawBy_14 (by decide) (by omega) (by omega) (fun c14 => ?_) (fun c14 => ?_)
  · skip
    refine J_iconst C (v := nI 0) dX4_isLawBy_21 (by decide) ?_
    exact E (b := false) dX4_isLawBy_22 (⟨(decide_eq_false (by omega)).symm, rfl⟩)
  · skip
    refine J_iconst C (v := nI 1) dX4_isLawBy_17 (by decide) ?_
    refine J_goto (tgt := 22) C dX4_isLawBy_18 (by decide) ?_
    exact E (b := true) dX4_isLawBy_22 (⟨(decide_eq_true (by omega)).symm, rfl⟩)
def rm_X4_driftIn : Room := ({ frames := 2, cells := 0, slots := 0, locals := 44 })
set_option maxRecDepth 20000 in
theorem c_X4_driftIn (l : Launch) (Z : EC) (x : St) {w : Nat} (hw : w < 2) {a : SA} (hr : ShR x w a) (ok : SOK a) (q b : Nat) (hq : q < 10) (hb : b ≤ 9) : MIi l Z (wC Z) yX4_driftIn cX4_driftIn 5 rm_X4_driftIn [.ref (Z.2.1 (25 + 6 * w)), .int (nI q), .int (nI b)] x (fun r x1 => r = nI (dri a q b) ∧ x = x1) := by
  obtain ⟨ok0, ok1, ok2, ok3, ok4, ok5, ok6, ok7⟩ := id ok
  refine MIi_of (own := RX4) (L0 := [some (.ref (Z.2.1 (25 + 6 * w))), some (.int (nI q)), some (.int (nI b)), none, none]) (by decide) rfl (Nat.le_of_ble_eq_true rfl) ⟨rfl, rfl, rfl, trivial⟩ ?_
  intro Γ C E
  refine J_iload_n C dX4_driftIn_0 rfl rfl ?_
  refine J_istore_n C (L' := [some (.ref (Z.2.1 (25 + 6 * w))), some (.int (nI q)), some (.int (nI b)), some (.int (nI b)), none]) dX4_driftIn_1 rfl (by decide) rfl rfl ?_
  refine J_iconst C (v := nI 0) dX4_driftIn_2 (by decide) ?_
  refine J_istore C (L' := [some (.ref (Z.2.1 (25 + 6 * w))), some (.int (nI q)), some (.int (nI b)), some (.int (nI b)), some (.int (nI 0))]) dX4_driftIn_3 (by decide) rfl rfl ?_
  have lp5 : ∀ (f : Nat) (i : Nat), (i ≤ a.1 4) → (dsum a q i ≤ 9 * i) → (a.1 4 - i < f) →  J Γ x 5 [some (.ref (Z.2.1 (25 + 6 * w))), some (.int (nI q)), some (.int (nI b)), some (.int (nI (b + dsum a q i))), some (.int (nI i))] [] := by
    intro f
    induction f with
    | zero =>
      intro i hi hds hf
      omega
    | succ f ih5 =>
      intro i hi hds hf
      refine J_iload C dX4_driftIn_5 rfl ?_
      refine J_aload_n C dX4_driftIn_7 rfl rfl ?_
      refine G4n_members hw hr C wd_7_15 dX4_driftIn_8 ?_
      refine J_icmp_ge_n C (tgt := 45) dX4_driftIn_11 (by decide) (by omega) (by omega) (fun c11 => ?_) (fun c11 => ?_)
      · skip
        have hp := pop_le (sit a q)
        refine J_iload_n C dX4_driftIn_45 rfl rfl ?_
        refine J_aload_n C dX4_driftIn_46 rfl rfl ?_
        refine J_iload_n C dX4_driftIn_47 rfl rfl ?_
        refine J_callVi C (N := 10) (As := [.int (nI q)]) (c_X4_sittersIn l Z _ hw hr ok _ (by omega)) cw_RX4_86 wd_11_16 wd_11_17 (at_shore hw) rfl rfl rfl (Nat.le_of_ble_eq_true rfl) rfl rfl (Nat.le_of_ble_eq_true rfl) (Nat.le_of_ble_eq_true rfl) dX4_driftIn_48 (fun r48 x48 hp48 => ?_)
        obtain ⟨rfl, rfl⟩ := hp48
        refine J_iconst C (v := nI 1) dX4_driftIn_51 (by decide) ?_
        refine J_iadd C (v := nI ((pop (sit a q)) + 1)) dX4_driftIn_52 (nI_add _ _) ?_
        refine J_idiv C (v := nI ((b + dsum a q i) / ((pop (sit a q)) + 1))) dX4_driftIn_53 (nI_ne0 (by omega) (by omega)) (pk_div (by omega) (by omega) (by omega)) ?_
        exact E dX4_driftIn_54 (⟨by rw [show i = a.1 4 by omega]; rfl, rfl⟩)
      · skip
        refine J_iload_n C dX4_driftIn_14 rfl rfl ?_
        have hvw := ok6 i (by omega)
        refine J_aload_n C dX4_driftIn_15 rfl rfl ?_
        refine G4_seats hw C wd_3_12 dX4_driftIn_16 ?_
        refine J_iload C dX4_driftIn_19 rfl ?_
        refine L4n_seats hw hr ok C (by omega) dX4_driftIn_21 ?_
        refine J_iload_n C dX4_driftIn_22 rfl rfl ?_
        refine J_icmp_ne_n C (tgt := 36) dX4_driftIn_23 (by decide) (by omega) (by omega) (fun c23 => ?_) (fun c23 => ?_)
        · skip
          refine J_iconst C (v := nI 0) dX4_driftIn_36 (by decide) ?_
          refine J_iadd C (v := nI (b + dsum a q (i + 1))) dX4_driftIn_37 (by rw [dsum_no c23]; exact nI_add _ 0) ?_
          refine J_istore_n C (L' := [some (.ref (Z.2.1 (25 + 6 * w))), some (.int (nI q)), some (.int (nI b)), some (.int (nI (b + dsum a q (i + 1)))), some (.int (nI i))]) dX4_driftIn_38 rfl (by decide) rfl rfl ?_
          refine J_iinc C (v := nI (i + 1)) (L' := [some (.ref (Z.2.1 (25 + 6 * w))), some (.int (nI q)), some (.int (nI b)), some (.int (nI (b + dsum a q (i + 1)))), some (.int (nI (i + 1)))]) dX4_driftIn_39 rfl (nI_1 _) (by decide) rfl rfl ?_
          refine J_goto (tgt := 5) C dX4_driftIn_42 (by decide) ?_
          refine J_drop ?_ (ih5 (i + 1) (by omega) (by rw [dsum_no c23]; omega) (by omega))
          exact ⟨rfl, rfl, rfl, rfl, rfl, trivial⟩
        · skip
          refine J_aload_n C dX4_driftIn_26 rfl rfl ?_
          refine G4_views hw C wd_3_13 dX4_driftIn_27 ?_
          refine J_iload C dX4_driftIn_30 rfl ?_
          refine L4n_views hw hr ok C (by omega) dX4_driftIn_32 ?_
          refine J_goto (tgt := 37) C dX4_driftIn_33 (by decide) ?_
          refine J_iadd C (v := nI (b + dsum a q (i + 1))) dX4_driftIn_37 (by rw [dsum_yes c23, ← Nat.add_assoc]; exact nI_add _ _) ?_
          refine J_istore_n C (L' := [some (.ref (Z.2.1 (25 + 6 * w))), some (.int (nI q)), some (.int (nI b)), some (.int (nI (b + dsum a q (i + 1)))), some (.int (nI i))]) dX4_driftIn_38 rfl (by decide) rfl rfl ?_
          refine J_iinc C (v := nI (i + 1)) (L' := [some (.ref (Z.2.1 (25 + 6 * w))), some (.int (nI q)), some (.int (nI b)), some (.int (nI (b + dsum a q (i + 1)))), some (.int (nI (i + 1)))]) dX4_driftIn_39 rfl (nI_1 _) (by decide) rfl rfl ?_
          refine J_goto (tgt := 5) C dX4_driftIn_42 (by decide) ?_
          refine J_drop ?_ (ih5 (i + 1) (by omega) (by rw [dsum_yes c23]; omega) (by omega))
          exact ⟨rfl, rfl, rfl, rfl, rfl, trivial⟩
  refine J_drop ?_ (lp5 (a.1 4 + 1) 0 (by omega) (by exact Nat.le_refl 0) (by omega))
  exact ⟨rfl, rfl, rfl, rfl, rfl, trivial⟩
def rm_X4_isInReach : Room := ({ frames := 1, cells := 0, slots := 0, locals := 21 })
set_option maxRecDepth 20000 in
theorem c_X4_isInReach (l : Launch) (Z : EC) (x : St) {w : Nat} (hw : w < 2) {a : SA} (hr : ShR x w a) (ok : SOK a) (q t : Nat) (hq : q < a.1 3) (ht : t < a.1 3) : MIz l Z (wC Z) yX4_isInReach cX4_isInReach 3 rm_X4_isInReach [.ref (Z.2.1 (25 + 6 * w)), .int (nI q), .int (nI t)] x (fun b x1 => b = decide (adf (a.2 0 q) (a.2 0 t) ≤ a.1 2) ∧ x = x1) := by
  obtain ⟨ok0, ok1, ok2, ok3, ok4, ok5, ok6, ok7⟩ := id ok
  have h1 := (ok5 q hq).1
  have h2 := (ok5 t ht).1
  have hadf : adf (a.2 0 q) (a.2 0 t) ≤ 18 := by unfold adf; omega
  refine MIz_of (own := RX4) (L0 := [some (.ref (Z.2.1 (25 + 6 * w))), some (.int (nI q)), some (.int (nI t))]) (by decide) rfl (Nat.le_of_ble_eq_true rfl) ⟨rfl, rfl, rfl, trivial⟩ ?_
  intro Γ C E
  refine J_aload_n C dX4_isInReach_0 rfl rfl ?_
  refine G4_heights hw C wd_3_9 dX4_isInReach_1 ?_
  refine J_iload_n C dX4_isInReach_4 rfl rfl ?_
  refine L4n_heights hw hr ok C (by omega) dX4_isInReach_5 ?_
  refine J_aload_n C dX4_isInReach_6 rfl rfl ?_
  refine G4_heights hw C wd_3_9 dX4_isInReach_7 ?_
  refine J_iload_n C dX4_isInReach_10 rfl rfl ?_
  refine L4n_heights hw hr ok C (by omega) dX4_isInReach_11 ?_
  refine J_isub C (v := nI (a.2 0 q) - nI (a.2 0 t)) dX4_isInReach_12 (rfl) ?_
  refine J_abs C (v := nI (adf (a.2 0 q) (a.2 0 t))) wd_19_14 wd_19_15 wd_19_16 wd_19_17 (Nat.le_of_ble_eq_true rfl) (Nat.le_of_ble_eq_true rfl) dX4_isInReach_13 (abs_sub (by omega) (by omega)) ?_
  refine J_aload_n C dX4_isInReach_16 rfl rfl ?_
  refine G4n_reach hw hr C wd_6_12 dX4_isInReach_17 ?_
  refine J_icmp_gt_n C (tgt := 27) dX4_isInReach_20 (by decide) (by omega) (by omega) (fun c20 => ?_) (fun c20 => ?_)
  · skip
    refine J_iconst C (v := nI 0) dX4_isInReach_27 (by decide) ?_
    exact E (b := false) dX4_isInReach_28 (⟨(decide_eq_false (by omega)).symm, rfl⟩)
  · skip
    refine J_iconst C (v := nI 1) dX4_isInReach_23 (by decide) ?_
    refine J_goto (tgt := 28) C dX4_isInReach_24 (by decide) ?_
    exact E (b := true) dX4_isInReach_28 (⟨(decide_eq_true (by omega)).symm, rfl⟩)
