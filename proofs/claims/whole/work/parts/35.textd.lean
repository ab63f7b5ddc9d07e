section RDF
variable {c : Nat → Int32} {n : Nat}
theorem rdF_1 (h : hdF c n ≠ 0) : rdF c n = hdF c n := if_pos h
theorem rdF_2 (h : hdF c n = 0) (h2 : plF c n ≠ 0) : rdF c n = plF c n := by unfold rdF; rw [if_neg (by omega), if_pos h2]
theorem rdF_3 (h : hdF c n = 0) (h2 : plF c n = 0) (h3 : mbF c n (nP c n) ≠ 0) : rdF c n = mbF c n (nP c n) := by unfold rdF; rw [if_neg (by omega), if_neg (by omega), if_pos h3]
theorem rdF_4 (h : hdF c n = 0) (h2 : plF c n = 0) (h3 : mbF c n (nP c n) = 0) (h4 : 4 + 3 * nP c n + 4 * nM c n (nP c n) < n) : rdF c n = 4 + 3 * nP c n + 4 * nM c n (nP c n) + 1 := by unfold rdF; rw [if_neg (by omega), if_neg (by omega), if_neg (by omega), if_pos h4]
theorem rdF_0 (h : hdF c n = 0) (h2 : plF c n = 0) (h3 : mbF c n (nP c n) = 0) (h4 : ¬ 4 + 3 * nP c n + 4 * nM c n (nP c n) < n) : rdF c n = 0 := by unfold rdF; rw [if_neg (by omega), if_neg (by omega), if_neg (by omega), if_neg h4]
theorem nP_2 (h2 : plF c n = 0) : 2 ≤ nP c n := by
  by_cases e : nP c n < 2
  · exfalso
    unfold plF plG at h2
    by_cases s : nP c n < 6 ∧ sgn c n (4 + 3 * nP c n) 44 = true
    · rw [if_pos s] at h2
      by_cases s2 : dgt c n (4 + 3 * nP c n + 1) 1 9 = 0
      · rw [if_pos s2] at h2; omega
      · rw [if_neg s2] at h2; omega
    · rw [if_neg s, if_pos e] at h2; omega
  · omega
end RDF
theorem FB.abs {x y : St} {A : AB} (hf : FB x y) (h : AbsC x A) : AbsC y A := by
  obtain ⟨⟨c1, c2, c3, c4⟩, h2, h3, h4, h5⟩ := h
  obtain ⟨f1, f2, f3, f4⟩ := hf
  refine ⟨⟨by rw [f2]; exact c1, by rw [f3]; exact c2, by rw [f2, f3]; exact c3, ?_⟩, h2.same (fun i _ _ => f4 i (by omega)) (fun i _ _ => by rw [f1]), h3.same (f4 17 (by omega)) (fun i _ _ => by rw [f1]), (f4 0 (by omega)).trans h4, (f4 1 (by omega)).trans h5⟩
  rw [f2]
  exact c4.same (fun i _ _ => f4 i (by omega)) (fun i _ _ => by rw [f1])
theorem FG.abs {x y : St} {A : AB} {w : Nat} (hf : FG (21 + 5 * w) (26 + 5 * w) (26 + 6 * w) (31 + 6 * w) x y) (hne : x.2.2.1 ≠ w) (h : AbsC x A) : AbsC y A := by
  obtain ⟨⟨c1, c2, c3, c4⟩, h2, h3, h4, h5⟩ := h
  obtain ⟨f1, f2, f3⟩ := hf
  refine ⟨⟨by rw [f1]; exact c1, by rw [f1]; exact c2, by rw [f1]; exact c3, ?_⟩, h2.same (fun i _ _ => f2 i (by omega) (by omega)) (fun i _ _ => f3 i (by omega)), h3.same (f2 17 (by omega) (by omega)) (fun i _ _ => f3 i (by omega)), (f2 0 (by omega) (by omega)).trans h4, (f2 1 (by omega) (by omega)).trans h5⟩
  rw [f1]
  exact c4.same (fun i _ _ => f2 i (by omega) (by omega)) (fun i _ _ => f3 i (by omega))
theorem absC_swap {x y : St} {A : AB} {b : SA} {w : Nat} (h : AbsC x A) (hw : x.2.2.2.1 = w) (hf : FG (21 + 5 * w) (26 + 5 * w) (26 + 6 * w) (31 + 6 * w) x y) (hb : ShR y w b) : AbsC (setI (setT (setC y y.2.2.2.1) y.2.2.1) 17 (nI 0)) (AsR (AsS A b) (0, A.2.2.1.2)) := by
  obtain ⟨⟨c1, c2, c3, c4⟩, h2, h3, h4, h5⟩ := h
  obtain ⟨f1, f2, f3⟩ := hf
  have e1 : y.2.2.1 = x.2.2.1 := by rw [f1]
  have e2 : y.2.2.2.1 = w := by rw [f1]; exact hw
  refine ⟨⟨?_, ?_, ?_, ?_⟩, h2.same (fun i _ _ => (sI_ne (by omega)).trans (f2 i (by omega) (by omega))) (fun i _ _ => f3 i (by omega)), ⟨sI_eq, fun j hj => absurd hj (Nat.not_lt_zero j)⟩, ((sI_ne (by decide)).trans (f2 0 (by omega) (by omega))).trans h4, ((sI_ne (by decide)).trans (f2 1 (by omega) (by omega))).trans h5⟩
  · show y.2.2.2.1 < 2; rw [e2, ← hw]; exact c2
  · show y.2.2.1 < 2; rw [e1]; exact c1
  · show y.2.2.2.1 ≠ y.2.2.1; rw [e2, e1, ← hw]; exact Ne.symm c3
  · show ShR _ y.2.2.2.1 b
    rw [e2]
    exact hb.same (fun i g1 g2 => sI_ne (by omega)) (fun i _ _ => rfl)

def rm_X4_readsAll : Room := ({ frames := 5, cells := 0, slots := 0, locals := 103 })
set_option maxRecDepth 20000 in
theorem c_X4_readsAll (l : Launch) (Z : EC) (x : St) {w : Nat} (hw : w < 2) {k i n : Nat} {c : Nat → Int32} (hk : k < 4) (hin : i + n ≤ 60) (hd : Rd x k i n c 0)  : MIz l Z (wC Z) yX4_readsAll cX4_readsAll 2 rm_X4_readsAll [.ref (Z.2.1 (25 + 6 * w)), .ref (Z.2.1 10)] x (fun b x1 => FG (21 + 5 * w) (26 + 5 * w) (26 + 6 * w) (31 + 6 * w) x x1 ∧ ((b = false ∧ rdF c n ≠ 0 ∧ Rd x1 k i n c (rdF c n - 1)) ∨ (b = true ∧ rdF c n = 0 ∧ ShR x1 w (rdS c n)))) := by
  refine MIz_of (own := RX4) (L0 := [some (.ref (Z.2.1 (25 + 6 * w))), some (.ref (Z.2.1 10))]) (by decide) rfl (Nat.le_of_ble_eq_true rfl) ⟨rfl, rfl, trivial⟩ ?_
  intro Γ C E
  refine J_aload_n C dX4_readsAll_0 rfl rfl ?_
  refine J_aload_n C dX4_readsAll_1 rfl rfl ?_
  refine J_callVz C (N := 10) (As := [.ref (Z.2.1 10)]) (c_X4_readsHead l Z _ hw hk hin hd) cw_RX4_43 wd_6_7 wd_6_8 (at_shore hw) rfl rfl rfl (Nat.le_of_ble_eq_true rfl) rfl rfl (Nat.le_of_ble_eq_true rfl) (Nat.le_of_ble_eq_true rfl) dX4_readsAll_2 (fun b2 x2 hp2 => ?_)
  obtain ⟨hg2, hp2⟩ := hp2
  rcases hp2 with ⟨rfl, hz2, hd2⟩ | ⟨rfl, hz2, hd2, hv2a, hv2b, hv2c⟩
  · skip
    refine J_if_eq_b C (tgt := 35) dX4_readsAll_5 (by decide) (fun c5 => ?_) (fun c5 => absurd c5 (by decide))
    refine J_iconst C (v := nI 0) dX4_readsAll_35 (by decide) ?_
    exact E (b := false) dX4_readsAll_36 (⟨(hg2.w (fun u hu => by omega) (fun u hu => by omega)), Or.inl ⟨rfl, by rw [rdF_1 hz2]; first | assumption | omega, by rw [rdF_1 hz2]; exact hd2⟩⟩)
  · skip
    refine J_if_eq_b C (tgt := 35) dX4_readsAll_5 (by decide) (fun c5 => absurd c5 (by decide)) (fun c5 => ?_)
    refine J_aload_n C dX4_readsAll_8 rfl rfl ?_
    refine J_aload_n C dX4_readsAll_9 rfl rfl ?_
    refine J_callVz C (N := 10) (As := [.ref (Z.2.1 10)]) (c_X4_readsPools l Z _ hw hk hin hd2) cw_RX4_47 wd_7_3 wd_7_4 (at_shore hw) rfl rfl rfl (Nat.le_of_ble_eq_true rfl) rfl rfl (Nat.le_of_ble_eq_true rfl) (Nat.le_of_ble_eq_true rfl) dX4_readsAll_10 (fun b10 x10 hp10 => ?_)
    obtain ⟨hg10, hp10⟩ := hp10
    rcases hp10 with ⟨rfl, hz10, hd10⟩ | ⟨rfl, hz10, hd10, hp10, ha10, hb10⟩
    · skip
      refine J_if_eq_b C (tgt := 35) dX4_readsAll_13 (by decide) (fun c13 => ?_) (fun c13 => absurd c13 (by decide))
      refine J_iconst C (v := nI 0) dX4_readsAll_35 (by decide) ?_
      exact E (b := false) dX4_readsAll_36 (⟨((hg2.w (fun u hu => by omega) (fun u hu => by omega)).tr (hg10.w (fun u hu => by omega) (fun u hu => by omega))), Or.inl ⟨rfl, by rw [rdF_2 hz2 hz10]; first | assumption | omega, by rw [rdF_2 hz2 hz10]; exact hd10⟩⟩)
    · skip
      refine J_if_eq_b C (tgt := 35) dX4_readsAll_13 (by decide) (fun c13 => absurd c13 (by decide)) (fun c13 => ?_)
      refine J_aload_n C dX4_readsAll_16 rfl rfl ?_
      refine J_aload_n C dX4_readsAll_17 rfl rfl ?_
      refine J_callVz C (N := 10) (As := [.ref (Z.2.1 10)]) (c_X4_readsMembers l Z _ hw hk hin hd10 (nP_2 hz10) (fst_le _ 6) hp10) cw_RX4_50 wd_7_12 wd_7_13 (at_shore hw) rfl rfl rfl (Nat.le_of_ble_eq_true rfl) rfl rfl (Nat.le_of_ble_eq_true rfl) (Nat.le_of_ble_eq_true rfl) dX4_readsAll_18 (fun b18 x18 hp18 => ?_)
      obtain ⟨hg18, hp18⟩ := hp18
      rcases hp18 with ⟨rfl, hz18, hd18⟩ | ⟨rfl, hz18, hd18, hp18, ha18, hb18, hc18⟩
      · skip
        refine J_if_eq_b C (tgt := 35) dX4_readsAll_21 (by decide) (fun c21 => ?_) (fun c21 => absurd c21 (by decide))
        refine J_iconst C (v := nI 0) dX4_readsAll_35 (by decide) ?_
        exact E (b := false) dX4_readsAll_36 (⟨(((hg2.w (fun u hu => by omega) (fun u hu => by omega)).tr (hg10.w (fun u hu => by omega) (fun u hu => by omega))).tr (hg18.w (fun u hu => by omega) (fun u hu => by omega))), Or.inl ⟨rfl, by rw [rdF_3 hz2 hz10 hz18]; first | assumption | omega, by rw [rdF_3 hz2 hz10 hz18]; exact hd18⟩⟩)
      · skip
        refine J_if_eq_b C (tgt := 35) dX4_readsAll_21 (by decide) (fun c21 => absurd c21 (by decide)) (fun c21 => ?_)
        refine J_aload_n C dX4_readsAll_24 rfl rfl ?_
        refine J_callVz C (q0 := 10) (ci := 0) (N := 4) (As := []) (c_X0_isAtEnd l Z _ hk hin hd18) cw_RX4_53 wd_6_19 wd_6_20 rfl rfl rfl rfl (Nat.le_of_ble_eq_true rfl) rfl rfl (Nat.le_of_ble_eq_true rfl) (Nat.le_of_ble_eq_true rfl) dX4_readsAll_25 (fun b25 x25 hp25 => ?_)
        obtain ⟨rfl, rfl⟩ := hp25
        refine J_if_eq_d C (tgt := 35) dX4_readsAll_28 (by decide) (fun c28 => ?_) (fun c28 => ?_)
        · skip
          refine J_iconst C (v := nI 0) dX4_readsAll_35 (by decide) ?_
          exact E (b := false) dX4_readsAll_36 (⟨(((hg2.w (fun u hu => by omega) (fun u hu => by omega)).tr (hg10.w (fun u hu => by omega) (fun u hu => by omega))).tr (hg18.w (fun u hu => by omega) (fun u hu => by omega))), Or.inl ⟨rfl, by rw [rdF_4 hz2 hz10 hz18 (by omega)]; first | assumption | omega, by rw [rdF_4 hz2 hz10 hz18 (by omega)]; exact hd18⟩⟩)
        · skip
          refine J_iconst C (v := nI 1) dX4_readsAll_31 (by decide) ?_
          refine J_goto (tgt := 36) C dX4_readsAll_32 (by decide) ?_
          exact E (b := true) dX4_readsAll_36 (⟨(((hg2.w (fun u hu => by omega) (fun u hu => by omega)).tr (hg10.w (fun u hu => by omega) (fun u hu => by omega))).tr (hg18.w (fun u hu => by omega) (fun u hu => by omega))), Or.inr ⟨rfl, rdF_0 hz2 hz10 hz18 (by omega), (hg18.2.1 _ (by omega) (by omega)).trans ((hg10.2.1 _ (by omega) (by omega)).trans hv2a), (hg18.2.1 _ (by omega) (by omega)).trans ((hg10.2.1 _ (by omega) (by omega)).trans hv2b), (hg18.2.1 _ (by omega) (by omega)).trans ((hg10.2.1 _ (by omega) (by omega)).trans hv2c), (hg18.2.1 _ (by omega) (by omega)).trans hp10, hp18, fun j hj => ⟨(congrFun (hg18.2.2 _ (by omega)) j).trans (ha10 j hj), (congrFun (hg18.2.2 _ (by omega)) j).trans (hb10 j hj)⟩, fun j hj => ⟨ha18 j hj, hb18 j hj, hc18 j hj⟩⟩⟩)
def rm_X5_swapShores : Room := ({ frames := 0, cells := 0, slots := 0, locals := 0 })
set_option maxRecDepth 20000 in
theorem c_X5_swapShores (l : Launch) (Z : EC) (x : St)  : MIv l Z (wC Z) yX5_swapShores cX5_swapShores 2 rm_X5_swapShores [.ref (Z.2.1 0)] x (fun x1 => x1 = setT (setC x x.2.2.2.1) x.2.2.1) := by
  refine MIv_of (own := RX5) (L0 := [some (.ref (Z.2.1 0)), none]) (by decide) rfl (Nat.le_of_ble_eq_true rfl) ⟨rfl, trivial⟩ ?_
  intro Γ C E
  refine J_aload_n C dX5_swapShores_0 rfl rfl ?_
  refine G5_shore C wd_2_7 dX5_swapShores_1 ?_
  refine J_astore_n C (L' := [some (.ref (Z.2.1 0)), some (.ref (Z.2.1 (25 + 6 * x.2.2.1)))]) dX5_swapShores_4 rfl (by decide) rfl rfl ?_
  refine J_aload_n C dX5_swapShores_5 rfl rfl ?_
  refine J_aload_n C dX5_swapShores_6 rfl rfl ?_
  refine G5_trial C wd_2_8 dX5_swapShores_7 ?_
  refine P5_shore C wd_2_7 dX5_swapShores_10 ?_
  refine J_aload_n C dX5_swapShores_13 rfl rfl ?_
  refine J_aload_n C dX5_swapShores_14 rfl rfl ?_
  refine P5_trial C wd_2_8 dX5_swapShores_15 ?_
  exact E dX5_swapShores_18 rfl
def rm_X5_shore : Room := ({ frames := 6, cells := 0, slots := 0, locals := 124 })
set_option maxRecDepth 20000 in
theorem c_X5_shore (l : Launch) (Z : EC) (x : St) (A : AB) (hA : AbsC x A) (hk : AOK A) (k la i n : Int32) : MIi l Z (wC Z) yX5_shore cX5_shore 6 rm_X5_shore [.ref (Z.2.1 0), .int k, .int la, .int i, .int n] x (fun r x1 => r = R_shore A k la i n ∧ AbsC x1 (N_shore A k la i n)) := by
  obtain ⟨⟨hcur, htr, hne, hr⟩, hH, hR, hT, hF⟩ := id hA
  obtain ⟨ok, hkH, hkR, hkr⟩ := id hk
  obtain ⟨ok0, ok1, ok2, ok3, ok4, ok5, ok6, ok7⟩ := id ok
  refine MIi_of (own := RX5) (L0 := [some (.ref (Z.2.1 0)), some (.int k), some (.int la), some (.int i), some (.int n), none]) (by decide) rfl (Nat.le_of_ble_eq_true rfl) ⟨rfl, rfl, rfl, rfl, rfl, trivial⟩ ?_
  intro Γ C E
  refine J_aload_n C dX5_shore_0 rfl rfl ?_
  refine J_iconst C (v := nI 0) dX5_shore_1 (by decide) ?_
  refine P5_latestFault C wd_4_16 dX5_shore_2 ?_
  have hAz := absC_F (v := nI 0) hA
  generalize setI x 1 (nI 0) = x0 at hAz ⊢
  obtain ⟨⟨hcur2, htr2, hne2, hr2o⟩, hH2o, hR2o, hT2, hF2⟩ := id hAz
  first | have hr2 : ShR x0 x0.2.2.1 A.1 := hr2o | have hr2 := hr2o
  first | have hH2 : CH x0 A.2.1 := hH2o | have hH2 := hH2o
  first | have hR2 : CR x0 A.2.2.1 := hR2o | have hR2 := hR2o
  refine J_iload_n C dX5_shore_5 rfl rfl ?_
  refine J_callSz C (As := [.int k]) (c_X5_isSheet l Z _ _) cw_RX5_53 wd_4_20 rfl rfl (Nat.le_of_ble_eq_true rfl) rfl rfl (Nat.le_of_ble_eq_true rfl) (Nat.le_of_ble_eq_true rfl) dX5_shore_6 (fun b6 x6 hp6 => ?_)
  obtain ⟨rfl, rfl⟩ := hp6
  refine J_if_ne_d C (tgt := 14) dX5_shore_9 (by decide) (fun c9 => ?_) (fun c9 => ?_)
  · skip
    obtain ⟨kn, k0, k3, rfl⟩ := rng_nat2 (A := 0) (B := 3) c9
    have hkn : kn < 4 := by omega
    have tnk := tn_nI (n := kn) (by omega)
    have gk := hkH kn hkn
    refine J_iload_n C dX5_shore_14 rfl rfl ?_
    refine J_callSz C (As := [.int la]) (c_X5_isLane l Z _ _) cw_RX5_57 wd_5_2 rfl rfl (Nat.le_of_ble_eq_true rfl) rfl rfl (Nat.le_of_ble_eq_true rfl) (Nat.le_of_ble_eq_true rfl) dX5_shore_15 (fun b15 x15 hp15 => ?_)
    obtain ⟨rfl, rfl⟩ := hp15
    refine J_if_ne_d C (tgt := 24) dX5_shore_18 (by decide) (fun c18 => ?_) (fun c18 => ?_)
    · skip
      refine J_aload_n C dX5_shore_24 rfl rfl ?_
      refine G5_sheets C wd_1_13 dX5_shore_25 ?_
      refine J_iload_n C dX5_shore_28 rfl rfl ?_
      refine L_sheets C hkn dX5_shore_29 ?_
      refine J_iload_n C dX5_shore_30 rfl rfl ?_
      refine J_iload_n C dX5_shore_31 rfl rfl ?_
      refine J_iload C dX5_shore_32 rfl ?_
      refine J_callSi C (As := [.ref (Z.2.1 (2 + kn)), .int la, .int i, .int n]) (c_X5_rowFault l Z _ hkn A.2.1 hH2 gk.2 _ _ _) cw_RX5_60 wd_5_5 rfl rfl (Nat.le_of_ble_eq_true rfl) rfl rfl (Nat.le_of_ble_eq_true rfl) (Nat.le_of_ble_eq_true rfl) dX5_shore_34 (fun r34 x34 hp34 => ?_)
      obtain ⟨rfl, rfl⟩ := hp34
      refine J_istore C (L' := [some (.ref (Z.2.1 0)), some (.int (nI kn)), some (.int la), some (.int i), some (.int n), some (.int (nI (rowF A.2.1 kn la i n)))]) dX5_shore_37 (by decide) rfl rfl ?_
      refine J_iload C dX5_shore_39 rfl ?_
      have hrl := rowF_le A.2.1 kn la i n
      refine J_if_eq_n C (tgt := 51) dX5_shore_41 (by decide) (by omega) (fun c41 => ?_) (fun c41 => ?_)
      · skip
        rw [c41]
        obtain ⟨q1, q2, q3, q4, q5⟩ := rowF0 c41
        obtain ⟨im, i0, i9, rfl⟩ := rng_nat2 (q := i) (A := 0) (B := A.2.1.2.1 kn) ⟨q3, q4⟩
        obtain ⟨nm, n0, n9, rfl⟩ := rng_nat2 (q := n) (A := 0) (B := A.2.1.2.1 kn) ⟨q2, by omega⟩
        have tni := tn_nI (n := im) (by omega)
        have tnn := tn_nI (n := nm) (by omega)
        rw [nI_i (by omega), nI_i (by omega)] at q5
        have hce : ceF A (nI kn) (nI im) = (fun p => A.2.1.2.2 kn (im + p)) := by unfold ceF; rw [tnk, tni]
        refine J_aload_n C dX5_shore_51 rfl rfl ?_
        refine G5_reader C wd_1_19 dX5_shore_52 ?_
        refine J_aload_n C dX5_shore_55 rfl rfl ?_
        refine G5_sheets C wd_1_13 dX5_shore_56 ?_
        refine J_iload_n C dX5_shore_59 rfl rfl ?_
        refine L_sheets C hkn dX5_shore_60 ?_
        refine J_iload_n C dX5_shore_61 rfl rfl ?_
        refine J_iload C dX5_shore_62 rfl ?_
        refine J_callVv C (q0 := 10) (ci := 0) (N := 4) (As := [.ref (Z.2.1 (2 + kn)), .int (nI im), .int (nI nm)]) (c_X0_begin l Z _ hkn (show im + nm ≤ 60 by omega) (show ∀ q, q < nm → x0.2.1 (6 + kn) (im + q) = (fun p => A.2.1.2.2 kn (im + p)) q from fun q hq => ((hH2 kn hkn).2 q1).2.2 (im + q) (by omega))) cw_RX5_68 wd_5_19 wd_5_20 rfl rfl rfl rfl (Nat.le_of_ble_eq_true rfl) rfl rfl (Nat.le_of_ble_eq_true rfl) (Nat.le_of_ble_eq_true rfl) dX5_shore_64 (fun x64 hp64 => ?_)
        obtain ⟨hd64, hb64⟩ := hp64
        have hA64 := hb64.abs hAz
        refine J_aload_n C dX5_shore_67 rfl rfl ?_
        refine G5_trial C wd_2_8 dX5_shore_68 ?_
        rw [show x64.2.2.2.1 = x0.2.2.2.1 from hb64.2.2.1]
        refine J_aload_n C dX5_shore_71 rfl rfl ?_
        refine G5_reader C wd_1_19 dX5_shore_72 ?_
        refine J_callVz C (N := 10) (As := [.ref (Z.2.1 10)]) (c_X4_readsAll l Z _ htr2 hkn (show im + nm ≤ 60 by omega) hd64) cw_RX5_72 wd_6_3 wd_6_4 (at_shore htr2) rfl rfl rfl (Nat.le_of_ble_eq_true rfl) rfl rfl (Nat.le_of_ble_eq_true rfl) (Nat.le_of_ble_eq_true rfl) dX5_shore_75 (fun b75 x75 hp75 => ?_)
        obtain ⟨hg75, hp75⟩ := hp75
        rcases hp75 with ⟨rfl, hz75, hd75⟩ | ⟨rfl, hz75, hs75⟩
        · skip
          refine J_if_ne_b C (tgt := 92) dX5_shore_78 (by decide) (fun c78 => absurd c78 (by decide)) (fun c78 => ?_)
          refine J_bipush C (v := (-100)) dX5_shore_81 (by decide) ?_
          refine J_aload_n C dX5_shore_83 rfl rfl ?_
          refine G5_reader C wd_1_19 dX5_shore_84 ?_
          refine J_callVi C (q0 := 10) (ci := 0) (N := 4) (As := []) (c_X0_place l Z _ hkn (show im + nm ≤ 60 by omega) hd75) cw_RX5_76 wd_8_3 wd_8_4 rfl rfl rfl rfl (Nat.le_of_ble_eq_true rfl) rfl rfl (Nat.le_of_ble_eq_true rfl) (Nat.le_of_ble_eq_true rfl) dX5_shore_87 (fun r87 x87 hp87 => ?_)
          obtain ⟨rfl, rfl⟩ := hp87
          refine J_isub C (v := (-100) - nI (rdF (fun p => A.2.1.2.2 kn (im + p)) nm - 1)) dX5_shore_90 (rfl) ?_
          exact E dX5_shore_91 (⟨by rw [R_shore, if_pos c9, if_pos c18, tnk, if_pos c41, hce, tnn, if_neg hz75], by rw [N_shore, if_pos c9, if_pos c18, tnk, if_pos c41, hce, tnn, if_neg hz75]; exact hg75.abs (by rw [hb64.2.1]; exact hne2) hA64⟩)
        · skip
          refine J_if_ne_b C (tgt := 92) dX5_shore_78 (by decide) (fun c78 => ?_) (fun c78 => absurd c78 (by decide))
          refine J_aload_n C dX5_shore_92 rfl rfl ?_
          refine J_callVv C (q0 := 0) (ci := 5) (N := 8) (As := []) (c_X5_swapShores l Z _) cw_RX5_80 wd_8_7 wd_8_8 rfl rfl rfl rfl (Nat.le_of_ble_eq_true rfl) rfl rfl (Nat.le_of_ble_eq_true rfl) (Nat.le_of_ble_eq_true rfl) dX5_shore_93 (fun x93 hp93 => ?_)
          obtain (rfl) := hp93
          refine J_aload_n C dX5_shore_96 rfl rfl ?_
          refine G5_readings C wd_1_23 dX5_shore_97 ?_
          refine J_iconst C (v := nI 0) dX5_shore_100 (by decide) ?_
          refine P1_count C wd_4_17 dX5_shore_101 ?_
          have hAE : AbsC (setI (setT (setC x75 x75.2.2.2.1) x75.2.2.1) 17 (nI 0)) (AsR (AsS (AsF A (nI 0)) (rdS (fun p => A.2.1.2.2 kn (im + p)) nm)) (0, A.2.2.1.2)) := absC_swap hA64 hb64.2.2.1 hg75 hs75
          have hcE : ((setI (setT (setC x75 x75.2.2.2.1) x75.2.2.1) 17 (nI 0))).2.2.1 = x0.2.2.2.1 := (congrArg (fun q => q.2.1) hg75.1).trans hb64.2.2.1
          have hmE : ((setI (setT (setC x75 x75.2.2.2.1) x75.2.2.1) 17 (nI 0))).1 (25 + 5 * x0.2.2.2.1) = nI ((rdS (fun p => A.2.1.2.2 kn (im + p)) nm).1 4) := (sI_ne (by omega)).trans hs75.2.2.2.2.1
          generalize setI (setT (setC x75 x75.2.2.2.1) x75.2.2.1) 17 (nI 0) = xE at hAE hcE hmE ⊢
          refine J_aload_n C dX5_shore_104 rfl rfl ?_
          refine G5_shore C wd_2_7 dX5_shore_105 ?_
          rw [show xE.2.2.1 = x0.2.2.2.1 from hcE]
          refine G4_members htr2 C wd_4_18 dX5_shore_108 ?_
          rw [show xE.1 (25 + 5 * x0.2.2.2.1) = nI ((rdS (fun p => A.2.1.2.2 kn (im + p)) nm).1 4) from hmE]
          exact E dX5_shore_111 (⟨by rw [R_shore, if_pos c9, if_pos c18, tnk, if_pos c41, hce, tnn, if_pos hz75], by rw [N_shore, if_pos c9, if_pos c18, tnk, if_pos c41, hce, tnn, if_pos hz75]; exact hAE⟩)
      · skip
        refine J_aload_n C dX5_shore_44 rfl rfl ?_
        refine J_iload C dX5_shore_45 rfl ?_
        refine J_callVi C (q0 := 0) (ci := 5) (N := 8) (As := [.int (nI (rowF A.2.1 kn la i n))]) (c_X5_faulted l Z _ (AsF A (nI 0)) hAz hk _) cw_RX5_64 wd_5_15 wd_5_16 rfl rfl rfl rfl (Nat.le_of_ble_eq_true rfl) rfl rfl (Nat.le_of_ble_eq_true rfl) (Nat.le_of_ble_eq_true rfl) dX5_shore_47 (fun r47 x47 hp47 => ?_)
        obtain ⟨rfl, hA47⟩ := hp47
        obtain ⟨⟨hcur47, htr47, hne47, hr47o⟩, hH47o, hR47o, hT47, hF47⟩ := id hA47
        first | have hr47 : ShR x47 x47.2.2.1 A.1 := hr47o | have hr47 := hr47o
        first | have hH47 : CH x47 A.2.1 := hH47o | have hH47 := hH47o
        first | have hR47 : CR x47 A.2.2.1 := hR47o | have hR47 := hR47o
        exact E dX5_shore_50 (⟨by rw [R_shore, if_pos c9, if_pos c18, tnk, if_neg c41] <;> rfl, by rw [N_shore, if_pos c9, if_pos c18, tnk, if_neg c41]; exact hA47⟩)
    · skip
      refine J_bipush C (v := (-2)) dX5_shore_21 (by decide) ?_
      exact E dX5_shore_23 (⟨by rw [R_shore, if_pos c9, if_neg c18] <;> first | rfl | decide, by rw [N_shore, if_pos c9, if_neg c18]; exact hAz⟩)
  · skip
    refine J_iconst C (v := (-1)) dX5_shore_12 (by decide) ?_
    exact E dX5_shore_13 (⟨by rw [R_shore, if_neg c9] <;> first | rfl | decide, by rw [N_shore, if_neg c9]; exact hAz⟩)
