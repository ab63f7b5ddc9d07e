def srt (H : (Nat → Nat) × (Nat → Nat) × (Nat → Nat → Int32)) (k : Nat) : Int32 := if H.1 k = 0 then (-9) else nI (H.1 k - 1)
section SRT
variable {H : (Nat → Nat) × (Nat → Nat) × (Nat → Nat → Int32)} {k o : Nat} {la i n : Int32}
theorem srt_v (h : H.1 k ≠ 0) : srt H k = nI (H.1 k - 1) := if_neg h
theorem nI_ne9 {n : Nat} (h : n < 1000) : ¬ nI n = (-9) := by
  intro e
  have h2 := congrArg Int32.toInt e
  rw [nI_i (by omega)] at h2
  have : ((-9 : Int32)).toInt = -9 := by decide
  omega
theorem srt_0 (h3 : H.1 k ≤ 3) (h : srt H k = (-9)) : H.1 k = 0 := by
  by_cases e : H.1 k = 0
  · exact e
  · rw [srt_v e] at h; exact absurd h (nI_ne9 (by omega))
theorem srt_n (h : ¬ srt H k = (-9)) : H.1 k ≠ 0 := fun e => h (if_pos e)
theorem srt_l (hn : H.1 k ≠ 0) (h : srt H k = la) : nI (H.1 k - 1) = la := (srt_v hn).symm.trans h
theorem srt_r (hn : H.1 k ≠ 0) (h : nI (H.1 k - 1) = la) : srt H k = la := (srt_v hn).trans h
theorem srt_eq {m : Nat} (hn : H.1 k ≠ 0) (h3 : H.1 k ≤ 3) (hm : m < 100) : srt H k = nI m ↔ H.1 k = m + 1 := by
  rw [srt_v hn, nI_eq (by omega) (by omega)]; omega
theorem srt_inj (hn : H.1 k ≠ 0) (ho : H.1 o ≠ 0) (h3 : H.1 k ≤ 3) (o3 : H.1 o ≤ 3) (h : srt H k = srt H o) : H.1 k = H.1 o := by
  rw [srt_v hn, srt_v ho, nI_eq (by omega) (by omega)] at h; omega
theorem srt_inj2 (h : H.1 k = H.1 o) : srt H k = srt H o := by unfold srt; rw [h]
theorem neg_i {q : Int32} (h : q < 0) : ¬ 0 ≤ q.toInt := by
  rw [lt_i] at h
  have : (0 : Int32).toInt = 0 := by decide
  omega
theorem nneg_i {q : Int32} (h : ¬ q < 0) : 0 ≤ q.toInt := by
  rw [lt_i] at h
  have : (0 : Int32).toInt = 0 := by decide
  omega
theorem gt_i {q : Int32} {m : Nat} (hm : m < 1000) (h : nI m < q) : ¬ q.toInt ≤ (m : Int) := by rw [lt_i, nI_i (by omega)] at h; omega
theorem ngt_i {q : Int32} {m : Nat} (hm : m < 1000) (h : ¬ nI m < q) : q.toInt ≤ (m : Int) := by rw [lt_i, nI_i (by omega)] at h; omega
theorem le_ii {q : Int32} {m p : Nat} (hm : m < 1000) (hp : p ≤ m) (h : q ≤ nI (m - p)) : q.toInt ≤ (m : Int) - (p : Int) := by rw [le_i, nI_i (by omega)] at h; omega
theorem ii_le {q : Int32} {m p : Nat} (hm : m < 1000) (hp : p ≤ m) (h : q.toInt ≤ (m : Int) - (p : Int)) : q ≤ nI (m - p) := by rw [le_i, nI_i (by omega)]; omega
theorem rowF_1 (h : H.1 k = 0) : rowF H k la i n = 1 := if_pos h
theorem rowF_2 (h : H.1 k ≠ 0) (h2 : ¬ nI (H.1 k - 1) = la) : rowF H k la i n = 2 := by rw [rowF, if_neg h, if_neg h2]
theorem nI1 : (nI 1).toInt = 1 := by decide
theorem rowF_3 (h : H.1 k ≠ 0) (h2 : nI (H.1 k - 1) = la) (h3 : ¬ (0 ≤ i.toInt ∧ i.toInt ≤ (H.2.1 k : Int) - 1)) : rowF H k la i (nI 1) = 3 := by
  rw [rowF, if_neg h, if_pos h2, if_neg (by rw [nI1]; omega), if_neg (by rw [nI1]; omega)]
theorem rowF_0 (h : H.1 k ≠ 0) (h2 : nI (H.1 k - 1) = la) (h3 : 0 ≤ i.toInt ∧ i.toInt ≤ (H.2.1 k : Int) - 1) : rowF H k la i (nI 1) = 0 := by
  rw [rowF, if_neg h, if_pos h2, if_neg (by rw [nI1]; omega), if_pos (by rw [nI1]; omega)]
theorem nI_inH {im nm : Nat} (h1 : im ≤ H.2.1 k) (h2 : nm ≤ H.2.1 k - im) (h3 : H.2.1 k < 1000) : inH H k (nI im) (nI nm) := by
  unfold inH
  rw [nI_i (by omega), nI_i (by omega)]
  omega
theorem inH_nI {im nm : Nat} (h1 : im ≤ H.2.1 k) (h3 : H.2.1 k < 1000) (h4 : nm < 2147483648) (h : inH H k (nI im) (nI nm)) : nm ≤ H.2.1 k - im := by
  unfold inH at h
  rw [nI_i (by omega), nI_i (by omega)] at h
  omega
theorem copy_no {α : Type} {a b : α} {p q : Prop} [Decidable p] [Decidable q] (h : ¬ (p ∧ q)) : (if p then if q then a else b else b) = b := by
  by_cases hp : p
  · rw [if_pos hp, if_neg (fun hq => h ⟨hp, hq⟩)]
  · rw [if_neg hp]
def cpv (f : Nat → Int32) (D E lo hi : Nat) : Nat → Int32 := fun c => if D + lo ≤ c ∧ c < D + hi then f (E + (c - D)) else f c
theorem cpv_0 {f : Nat → Int32} {D E lo hi : Nat} (h : hi ≤ lo) : f = cpv f D E lo hi := by
  funext c
  exact (if_neg (by omega)).symm
theorem cpv_f {f g : Nat → Int32} {D E q : Nat} (hg : g = cpv f D E 0 q) (h : ¬ (D ≤ E + q ∧ E + q < D + q)) : upd g (D + q) (g (E + q)) = cpv f D E 0 (q + 1) := by
  funext c
  have e1 : g (E + q) = f (E + q) := by rw [hg]; exact if_neg (by omega)
  rw [e1]
  show (if c = D + q then _ else _) = (if _ then _ else _)
  by_cases e : c = D + q
  · rw [if_pos e, if_pos (by omega), e, Nat.add_sub_cancel_left]
  · rw [if_neg e, hg]
    show (if _ then _ else _) = _
    by_cases e2 : D + 0 ≤ c ∧ c < D + q
    · rw [if_pos e2, if_pos (by omega)]
    · rw [if_neg e2, if_neg (by omega)]
theorem cpv_b {f g : Nat → Int32} {D E n q : Nat} (hg : g = cpv f D E (n - q) n) (hq : q < n) (h : ¬ (D + (n - q) ≤ E + (n - 1 - q) ∧ E + (n - 1 - q) < D + n)) : upd g (D + (n - 1 - q)) (g (E + (n - 1 - q))) = cpv f D E (n - (q + 1)) n := by
  funext c
  have e1 : g (E + (n - 1 - q)) = f (E + (n - 1 - q)) := by rw [hg]; exact if_neg h
  rw [e1]
  show (if c = D + (n - 1 - q) then _ else _) = (if _ then _ else _)
  by_cases e : c = D + (n - 1 - q)
  · rw [if_pos e, if_pos (by omega), e, Nat.add_sub_cancel_left]
  · rw [if_neg e, hg]
    show (if _ then _ else _) = _
    by_cases e2 : D + (n - q) ≤ c ∧ c < D + n
    · rw [if_pos e2, if_pos (by omega)]
    · rw [if_neg e2, if_neg (by omega)]
theorem absM_copy {x y : Mt} {A : AB} {k i o j n : Nat} (h : AbsM x A) (hk : k < 4) (ho : o < 4) (hn : A.2.1.1 k ≠ 0) (h60 : ∀ u, u < 4 → A.2.1.2.1 u ≤ 60) (hi : i + n ≤ A.2.1.2.1 k) (hj : j + n ≤ A.2.1.2.1 o) (hyI : y.1 = x.1) (hya : ∀ t, t ≠ 4 → y.2 t = x.2 t) (hy4 : y.2 4 = cpv (x.2 4) (60 * o + j) (60 * k + i) 0 n) : AbsM y (AsH A (cpyF A.2.1 k i o j n)) := by
  obtain ⟨m1, m2, m3, m4, m5⟩ := h
  obtain ⟨g0, g1, g2, g3, g4, g5, g6⟩ := m1
  obtain ⟨-, p2⟩ := m2 k hk
  obtain ⟨-, p5⟩ := p2 hn
  have k6 := h60 k hk
  have o6 := h60 o ho
  refine ⟨⟨(congrFun hyI _).trans g0, (congrFun hyI _).trans g1, (congrFun hyI _).trans g2, (congrFun hyI _).trans g3, (congrFun hyI _).trans g4, fun j hj => ?_, fun j hj => ?_⟩, fun u hu => ?_, m3.same (congrFun hyI _) (fun t h1 h2 => hya t (by omega)), (congrFun hyI _).trans m4, (congrFun hyI _).trans m5⟩
  · rw [hya 10 (by omega), hya 11 (by omega)]; exact g5 j hj
  · rw [hya 12 (by omega), hya 13 (by omega), hya 14 (by omega)]; exact g6 j hj
  · obtain ⟨q1, q2⟩ := m2 u hu
    rw [hya 2 (by omega), hya 3 (by omega)]
    refine ⟨q1, fun hn2 => ?_⟩
    obtain ⟨q3, q4⟩ := q2 hn2
    refine ⟨q3, fun p hp => ?_⟩
    have u6 := h60 u hu
    have hp2 : p < A.2.1.2.1 u := hp
    rw [hy4]
    show (if _ then _ else _) = (if u = o ∧ j ≤ p ∧ p < j + n then A.2.1.2.2 k (i + (p - j)) else A.2.1.2.2 u p)
    by_cases e : u = o ∧ j ≤ p ∧ p < j + n
    · obtain ⟨rfl, e2, e3⟩ := e
      rw [if_pos (by omega), if_pos ⟨rfl, e2, e3⟩, show 60 * k + i + (60 * u + p - (60 * u + j)) = 60 * k + (i + (p - j)) by omega]
      exact p5 _ (by omega)
    · rw [if_neg (by omega), if_neg e]; exact q4 p hp
end SRT

def rm_X6_against : Room := ({ frames := 0, cells := 0, slots := 0, locals := 0 })
set_option maxRecDepth 20000 in
theorem c_X6_against (l : Launch) (Z : EC) (x : Mt) {k : Nat} (hk : k < 4) (H : (Nat → Nat) × (Nat → Nat) × (Nat → Nat → Int32)) (hH : MH x H) (hs : H.1 k ≤ 3) (h60 : H.2.1 k ≤ 60) (lane i n : Int32) : MIi l Z (wM Z) yX6_against cX6_against 5 rm_X6_against [.ref (Z.2.1 0), .int (nI k), .int lane, .int i, .int n] x (fun r x1 => r = nI (rowF H k lane i n) ∧ x = x1) := by
  refine MIi_of (own := RX6) (L0 := [some (.ref (Z.2.1 0)), some (.int (nI k)), some (.int lane), some (.int i), some (.int n)]) (by decide) rfl (Nat.le_of_ble_eq_true rfl) ⟨rfl, rfl, rfl, rfl, rfl, trivial⟩ ?_
  intro Γ C E
  refine J_aload_n C dX6_against_0 rfl rfl ?_
  refine G6_sorts C wd_3_18 dX6_against_1 ?_
  refine J_iload_n C dX6_against_4 rfl rfl ?_
  refine LM_sorts C (v := srt H k) (by omega) ((hH k hk).1) dX6_against_5 ?_
  refine J_bipush C (v := (-9)) dX6_against_6 (by decide) ?_
  refine J_icmp_eq C (tgt := 23) dX6_against_8 (by decide) (fun c8 => ?_) (fun c8 => ?_)
  · skip
    have g8 := srt_0 hs c8
    refine J_aload_n C dX6_against_23 rfl rfl ?_
    refine G6_sorts C wd_3_18 dX6_against_24 ?_
    refine J_iload_n C dX6_against_27 rfl rfl ?_
    refine LM_sorts C (v := srt H k) (by omega) ((hH k hk).1) dX6_against_28 ?_
    refine J_bipush C (v := (-9)) dX6_against_29 (by decide) ?_
    refine J_icmp_ne C (tgt := 36) dX6_against_31 (by decide) (fun c31 => absurd c8 c31) (fun c31 => ?_)
    refine J_iconst C (v := nI 1) dX6_against_34 (by decide) ?_
    exact E dX6_against_35 (⟨by rw [rowF, if_pos g8], rfl⟩)
  · skip
    have hn := srt_n c8
    refine J_aload_n C dX6_against_11 rfl rfl ?_
    refine G6_sorts C wd_3_18 dX6_against_12 ?_
    refine J_iload_n C dX6_against_15 rfl rfl ?_
    refine LM_sorts C (v := srt H k) (by omega) ((hH k hk).1) dX6_against_16 ?_
    refine J_iload_n C dX6_against_17 rfl rfl ?_
    refine J_icmp_eq C (tgt := 23) dX6_against_18 (by decide) (fun c18 => ?_) (fun c18 => ?_)
    · skip
      refine J_aload_n C dX6_against_23 rfl rfl ?_
      refine G6_sorts C wd_3_18 dX6_against_24 ?_
      refine J_iload_n C dX6_against_27 rfl rfl ?_
      refine LM_sorts C (v := srt H k) (by omega) ((hH k hk).1) dX6_against_28 ?_
      refine J_bipush C (v := (-9)) dX6_against_29 (by decide) ?_
      refine J_icmp_ne C (tgt := 36) dX6_against_31 (by decide) (fun c31 => ?_) (fun c31 => absurd c31 c8)
      have hn := srt_n c31
      refine J_iload C dX6_against_36 rfl ?_
      refine J_if_ge C (tgt := 43) dX6_against_38 (by decide) (fun c38 => ?_) (fun c38 => ?_)
      · skip
        refine J_iload_n C dX6_against_43 rfl rfl ?_
        refine J_if_lt C (tgt := 70) dX6_against_44 (by decide) (fun c44 => ?_) (fun c44 => ?_)
        · skip
          refine J_iconst C (v := nI 3) dX6_against_70 (by decide) ?_
          refine J_goto (tgt := 75) C dX6_against_71 (by decide) ?_
          exact E dX6_against_75 (⟨by rw [rowF, if_neg hn, if_pos (srt_l hn c18), if_neg (ge0_i c38), if_neg (fun h => neg_i c44 h.1)], rfl⟩)
        · skip
          refine J_iload_n C dX6_against_47 rfl rfl ?_
          refine J_aload_n C dX6_against_48 rfl rfl ?_
          refine G6_sheetLong C wd_3_19 dX6_against_49 ?_
          refine J_iload_n C dX6_against_52 rfl rfl ?_
          refine LM_sheetLong C (v := nI (H.2.1 k)) (by omega) (((hH k hk).2 hn).1) dX6_against_53 ?_
          refine J_icmp_gt C (tgt := 70) dX6_against_54 (by decide) (fun c54 => ?_) (fun c54 => ?_)
          · skip
            refine J_iconst C (v := nI 3) dX6_against_70 (by decide) ?_
            refine J_goto (tgt := 75) C dX6_against_71 (by decide) ?_
            exact E dX6_against_75 (⟨by rw [rowF, if_neg hn, if_pos (srt_l hn c18), if_neg (ge0_i c38), if_neg (fun h => gt_i (by omega) c54 h.2.1)], rfl⟩)
          · skip
            have h44 := nneg_i c44
            have h54 := ngt_i (by omega) c54
            obtain ⟨im, i0, i9, rfl⟩ := rng_nat2 (q := i) (A := 0) (B := H.2.1 k) ⟨by omega, by omega⟩
            have eim := nI_i (n := im) (by omega)
            refine J_iload C dX6_against_57 rfl ?_
            refine J_aload_n C dX6_against_59 rfl rfl ?_
            refine G6_sheetLong C wd_3_19 dX6_against_60 ?_
            refine J_iload_n C dX6_against_63 rfl rfl ?_
            refine LM_sheetLong C (v := nI (H.2.1 k)) (by omega) (((hH k hk).2 hn).1) dX6_against_64 ?_
            refine J_iload_n C dX6_against_65 rfl rfl ?_
            refine J_isub C (v := nI ((H.2.1 k) - im)) dX6_against_66 (pk_sub (a := H.2.1 k) (b := im) (by omega)) ?_
            refine J_icmp_le C (tgt := 74) dX6_against_67 (by decide) (fun c67 => ?_) (fun c67 => ?_)
            · skip
              refine J_iconst C (v := nI 0) dX6_against_74 (by decide) ?_
              exact E dX6_against_75 (⟨by rw [rowF, if_neg hn, if_pos (srt_l hn c18), if_neg (ge0_i c38), if_pos ⟨by rw [eim]; omega, by rw [eim]; omega, by rw [eim]; exact le_ii (by omega) (by omega) c67⟩], rfl⟩)
            · skip
              refine J_iconst C (v := nI 3) dX6_against_70 (by decide) ?_
              refine J_goto (tgt := 75) C dX6_against_71 (by decide) ?_
              exact E dX6_against_75 (⟨by rw [rowF, if_neg hn, if_pos (srt_l hn c18), if_neg (ge0_i c38), if_neg (fun h => c67 (by rw [eim] at h; exact ii_le (by omega) (by omega) h.2.2))], rfl⟩)
      · skip
        refine J_iconst C (v := nI 4) dX6_against_41 (by decide) ?_
        exact E dX6_against_42 (⟨by rw [rowF, if_neg hn, if_pos (srt_l hn c18), if_pos (lt0_i c38)], rfl⟩)
    · skip
      refine J_iconst C (v := nI 2) dX6_against_21 (by decide) ?_
      exact E dX6_against_22 (⟨by rw [rowF, if_neg hn, if_neg (fun h => c18 (srt_r hn h))], rfl⟩)
def rm_X6_lose : Room := ({ frames := 2, cells := 0, slots := 0, locals := 42 })
set_option maxRecDepth 20000 in
theorem c_X6_lose (l : Launch) (Z : EC) (x : Mt) (A : AB) (hA : AbsM x A) (hk : AOK A) (k : Int32) : MIi l Z (wM Z) yX6_lose cX6_lose 3 rm_X6_lose [.ref (Z.2.1 0), .int k] x (fun r x1 => r = R_lose A k ∧ AbsM x1 (N_lose A k)) := by
  obtain ⟨hr, hH, hR, hT, hF⟩ := id hA
  obtain ⟨ok, hkH, hkR, hkr⟩ := id hk
  obtain ⟨ok0, ok1, ok2, ok3, ok4, ok5, ok6, ok7⟩ := id ok
  refine MIi_of (own := RX6) (L0 := [some (.ref (Z.2.1 0)), some (.int k), none]) (by decide) rfl (Nat.le_of_ble_eq_true rfl) ⟨rfl, rfl, trivial⟩ ?_
  intro Γ C E
  refine J_iload_n C dX6_lose_0 rfl rfl ?_
  refine J_callSz C (As := [.int k]) (c_X6_isSheet l Z _ _) cw_RX6_83 wd_8_18 rfl rfl (Nat.le_of_ble_eq_true rfl) rfl rfl (Nat.le_of_ble_eq_true rfl) (Nat.le_of_ble_eq_true rfl) dX6_lose_1 (fun b1 x1 hp1 => ?_)
  obtain ⟨rfl, rfl⟩ := hp1
  refine J_if_ne_d C (tgt := 9) dX6_lose_4 (by decide) (fun c4 => ?_) (fun c4 => ?_)
  · skip
    obtain ⟨kn, k0, k3, rfl⟩ := rng_nat2 (A := 0) (B := 3) c4
    have hkn : kn < 4 := by omega
    have tnk := tn_nI (n := kn) (by omega)
    have gk := hkH kn hkn
    refine J_aload_n C dX6_lose_9 rfl rfl ?_
    refine G6_sorts C wd_3_18 dX6_lose_10 ?_
    refine J_iload_n C dX6_lose_13 rfl rfl ?_
    refine LM_sorts C (v := srt A.2.1 kn) (by omega) ((hH kn hkn).1) dX6_lose_14 ?_
    refine J_bipush C (v := (-9)) dX6_lose_15 (by decide) ?_
    refine J_icmp_ne C (tgt := 24) dX6_lose_17 (by decide) (fun c17 => ?_) (fun c17 => ?_)
    · skip
      refine J_iconst C (v := nI 1) dX6_lose_24 (by decide) ?_
      refine J_istore_n C (L' := [some (.ref (Z.2.1 0)), some (.int (nI kn)), some (.int (nI 1))]) dX6_lose_25 rfl (by decide) rfl rfl ?_
      refine J_aload_n C dX6_lose_26 rfl rfl ?_
      refine G6_sorts C wd_3_18 dX6_lose_27 ?_
      refine J_iload_n C dX6_lose_30 rfl rfl ?_
      refine J_bipush C (v := (-9)) dX6_lose_31 (by decide) ?_
      refine SM_sorts C (by omega) dX6_lose_33 ?_
      refine J_iload_n C dX6_lose_34 rfl rfl ?_
      exact E dX6_lose_35 (⟨by rw [R_lose, if_pos c4, tnk]; rw [decide_eq_true (srt_n c17)]; rfl, by rw [N_lose, if_pos c4, tnk]; exact absM_lose hA hkn⟩)
    · skip
      refine J_iconst C (v := nI 0) dX6_lose_20 (by decide) ?_
      refine J_goto (tgt := 25) C dX6_lose_21 (by decide) ?_
      refine J_istore_n C (L' := [some (.ref (Z.2.1 0)), some (.int (nI kn)), some (.int (nI 0))]) dX6_lose_25 rfl (by decide) rfl rfl ?_
      refine J_aload_n C dX6_lose_26 rfl rfl ?_
      refine G6_sorts C wd_3_18 dX6_lose_27 ?_
      refine J_iload_n C dX6_lose_30 rfl rfl ?_
      refine J_bipush C (v := (-9)) dX6_lose_31 (by decide) ?_
      refine SM_sorts C (by omega) dX6_lose_33 ?_
      refine J_iload_n C dX6_lose_34 rfl rfl ?_
      exact E dX6_lose_35 (⟨by rw [R_lose, if_pos c4, tnk]; rw [decide_eq_false (fun h => h (srt_0 gk.1 c17))]; rfl, by rw [N_lose, if_pos c4, tnk]; exact absM_lose hA hkn⟩)
  · skip
    refine J_iconst C (v := (-1)) dX6_lose_7 (by decide) ?_
    exact E dX6_lose_8 (⟨by rw [R_lose, if_neg c4], by rw [N_lose, if_neg c4]; first | exact hA | exact hA⟩)
def rm_X6_sheet : Room := ({ frames := 2, cells := 0, slots := 0, locals := 42 })
set_option maxRecDepth 20000 in
theorem c_X6_sheet (l : Launch) (Z : EC) (x : Mt) (A : AB) (hA : AbsM x A) (hk : AOK A) (k la n : Int32) : MIi l Z (wM Z) yX6_sheet cX6_sheet 5 rm_X6_sheet [.ref (Z.2.1 0), .int k, .int la, .int n] x (fun r x1 => r = R_sheet A k la n ∧ AbsM x1 (N_sheet A k la n)) := by
  obtain ⟨hr, hH, hR, hT, hF⟩ := id hA
  obtain ⟨ok, hkH, hkR, hkr⟩ := id hk
  obtain ⟨ok0, ok1, ok2, ok3, ok4, ok5, ok6, ok7⟩ := id ok
  refine MIi_of (own := RX6) (L0 := [some (.ref (Z.2.1 0)), some (.int k), some (.int la), some (.int n), none]) (by decide) rfl (Nat.le_of_ble_eq_true rfl) ⟨rfl, rfl, rfl, rfl, trivial⟩ ?_
  intro Γ C E
  refine J_aload_n C dX6_sheet_0 rfl rfl ?_
  refine J_iconst C (v := nI 0) dX6_sheet_1 (by decide) ?_
  refine P6_fault C wd_8_14 dX6_sheet_2 ?_
  have hAz := absM_F (v := nI 0) hA
  generalize mI x 0 (nI 0) = x0 at hAz ⊢
  obtain ⟨hr2o, hH2o, hR2o, hT2, hF2⟩ := id hAz
  first | have hr2 : MdR x0 A.1 := hr2o | have hr2 := hr2o
  first | have hH2 : MH x0 A.2.1 := hH2o | have hH2 := hH2o
  first | have hR2 : MR x0 A.2.2.1 := hR2o | have hR2 := hR2o
  refine J_iload_n C dX6_sheet_5 rfl rfl ?_
  refine J_callSz C (As := [.int k]) (c_X6_isSheet l Z _ _) cw_RX6_83 wd_8_18 rfl rfl (Nat.le_of_ble_eq_true rfl) rfl rfl (Nat.le_of_ble_eq_true rfl) (Nat.le_of_ble_eq_true rfl) dX6_sheet_6 (fun b6 x6 hp6 => ?_)
  obtain ⟨rfl, rfl⟩ := hp6
  refine J_if_ne_d C (tgt := 14) dX6_sheet_9 (by decide) (fun c9 => ?_) (fun c9 => ?_)
  · skip
    obtain ⟨kn, k0, k3, rfl⟩ := rng_nat2 (A := 0) (B := 3) c9
    have hkn : kn < 4 := by omega
    have tnk := tn_nI (n := kn) (by omega)
    have gk := hkH kn hkn
    refine J_iload_n C dX6_sheet_14 rfl rfl ?_
    refine J_callSz C (As := [.int la]) (c_X6_isSort l Z _ _) cw_RX6_87 wd_9_0 rfl rfl (Nat.le_of_ble_eq_true rfl) rfl rfl (Nat.le_of_ble_eq_true rfl) (Nat.le_of_ble_eq_true rfl) dX6_sheet_15 (fun b15 x15 hp15 => ?_)
    obtain ⟨rfl, rfl⟩ := hp15
    refine J_if_eq_d C (tgt := 27) dX6_sheet_18 (by decide) (fun c18 => ?_) (fun c18 => ?_)
    · skip
      refine J_bipush C (v := (-2)) dX6_sheet_27 (by decide) ?_
      exact E dX6_sheet_29 (⟨by rw [R_sheet, if_pos c9, if_neg c18] <;> first | rfl | decide, by rw [N_sheet, if_pos c9, if_neg c18]; exact hAz⟩)
    · skip
      obtain ⟨lan, la0, la9, rfl⟩ := rng_nat2 (A := 0) (B := 2) (c18)
      have tnla := tn_nI (n := lan) (by omega)
      refine J_iload_n C dX6_sheet_21 rfl rfl ?_
      refine J_bipush C (v := nI 60) dX6_sheet_22 (by decide) ?_
      refine J_icmp_le C (tgt := 30) dX6_sheet_24 (by decide) (fun c24 => ?_) (fun c24 => ?_)
      · skip
        refine J_iload_n C dX6_sheet_30 rfl rfl ?_
        refine J_if_ge C (tgt := 40) dX6_sheet_31 (by decide) (fun c31 => ?_) (fun c31 => ?_)
        · skip
          obtain ⟨nn, n0, n9, rfl⟩ := rng_nat2 (q := n) (A := 0) (B := 60) ⟨by have := ge0_i c31; omega, by have := le60 c24; omega⟩
          have tnn := tn_nI (n := nn) (by omega)
          refine J_aload_n C dX6_sheet_40 rfl rfl ?_
          refine G6_sorts C wd_3_18 dX6_sheet_41 ?_
          refine J_iload_n C dX6_sheet_44 rfl rfl ?_
          refine J_iload_n C dX6_sheet_45 rfl rfl ?_
          refine SM_sorts C (by omega) dX6_sheet_46 ?_
          refine J_aload_n C dX6_sheet_47 rfl rfl ?_
          refine G6_sheetLong C wd_3_19 dX6_sheet_48 ?_
          refine J_iload_n C dX6_sheet_51 rfl rfl ?_
          refine J_iload_n C dX6_sheet_52 rfl rfl ?_
          refine SM_sheetLong C (by omega) dX6_sheet_53 ?_
          refine J_iconst C (v := nI 0) dX6_sheet_54 (by decide) ?_
          refine J_istore C (L' := [some (.ref (Z.2.1 0)), some (.int (nI kn)), some (.int (nI lan)), some (.int (nI nn)), some (.int (nI 0))]) dX6_sheet_55 (by decide) rfl rfl ?_
          have lp57 : ∀ (f : Nat) (i : Nat) (y : Mt), (i ≤ 60) → (y.1 = x0.1) → (∀ t, t ≠ 2 → t ≠ 3 → t ≠ 4 → y.2 t = x0.2 t) → (y.2 2 = upd (x0.2 2) kn (nI lan)) → (y.2 3 = upd (x0.2 3) kn (nI nn)) → (∀ j, j < i → y.2 4 (60 * kn + j) = 0) → (∀ d, d < 60 * kn ∨ 60 * kn + 60 ≤ d → y.2 4 d = x0.2 4 d) → (60 - i < f) →  J Γ y 57 [some (.ref (Z.2.1 0)), some (.int (nI kn)), some (.int (nI lan)), some (.int (nI nn)), some (.int (nI i))] [] := by
            intro f
            induction f with
            | zero =>
              intro i y hi hyI hya hy2 hy3 hyz hyo hf
              omega
            | succ f ih57 =>
              intro i y hi hyI hya hy2 hy3 hyz hyo hf
              refine J_iload C dX6_sheet_57 rfl ?_
              refine J_bipush C (v := nI 60) dX6_sheet_59 (by decide) ?_
              refine J_icmp_ge_n C (tgt := 83) dX6_sheet_61 (by decide) (by omega) (by omega) (fun c61 => ?_) (fun c61 => ?_)
              · skip
                refine J_iconst C (v := nI 1) dX6_sheet_83 (by decide) ?_
                exact E dX6_sheet_84 (⟨by rw [R_sheet, if_pos c9, if_pos c18, if_neg (le60 c24), if_neg (ge0_i c31)] <;> rfl, by rw [N_sheet, if_pos c9, if_pos c18, if_neg (le60 c24), if_neg (ge0_i c31)]; simp only [tnk, tnla, tnn]; exact absM_renew (A := AsF A (nI 0)) hAz hkn n9 hyI hya hy2 hy3 (fun j hj => hyz j (by omega)) hyo (fun u hu => (hkH u hu).2)⟩)
              · skip
                refine J_aload_n C dX6_sheet_64 rfl rfl ?_
                refine G6_cells C wd_3_20 dX6_sheet_65 ?_
                refine J_bipush C (v := nI 60) dX6_sheet_68 (by decide) ?_
                refine J_iload_n C dX6_sheet_70 rfl rfl ?_
                refine J_imul C (v := nI (60 * kn)) dX6_sheet_71 (pk_mul _ _) ?_
                refine J_iload C dX6_sheet_72 rfl ?_
                refine J_iadd C (v := nI ((60 * kn) + i)) dX6_sheet_74 (nI_add _ _) ?_
                refine J_iconst C (v := nI 0) dX6_sheet_75 (by decide) ?_
                refine SM_cells C (by omega) dX6_sheet_76 ?_
                refine J_iinc C (v := nI (i + 1)) (L' := [some (.ref (Z.2.1 0)), some (.int (nI kn)), some (.int (nI lan)), some (.int (nI nn)), some (.int (nI (i + 1)))]) dX6_sheet_77 rfl (nI_1 _) (by decide) rfl rfl ?_
                refine J_goto (tgt := 57) C dX6_sheet_80 (by decide) ?_
                refine J_drop ?_ (ih57 (i + 1) (mA y 4 (upd (y.2 4) ((60 * kn) + i) (nI 0))) (by omega) hyI (fun t h2 h3 h4 => (mA_ne h4).trans (hya t h2 h3 h4)) ((mA_ne (by decide)).trans hy2) ((mA_ne (by decide)).trans hy3) (fun j hj => (congrFun mA_eq _).trans (by by_cases e : j = i; (rw [e]; exact upd_eq); (exact (upd_ne (by omega)).trans (hyz j (by omega))))) (fun d hd => (congrFun mA_eq _).trans ((upd_ne (by omega)).trans (hyo d hd))) (by omega))
                exact ⟨rfl, rfl, rfl, rfl, rfl, trivial⟩
          refine J_drop ?_ (lp57 (60 + 1) 0 (mA (mA x0 2 (upd (x0.2 2) kn (nI lan))) 3 (upd ((mA x0 2 (upd (x0.2 2) kn (nI lan))).2 3) kn (nI nn))) (by omega) rfl (fun t h2 h3 h4 => (mA_ne h3).trans (mA_ne h2)) ((mA_ne (by decide)).trans mA_eq) (mA_eq.trans (congrArg (fun w => upd w kn (nI nn)) (mA_ne (by decide)))) (fun j hj => absurd hj (Nat.not_lt_zero j)) (fun d hd => congrFun ((mA_ne (by decide)).trans (mA_ne (by decide))) d) (by omega))
          exact ⟨rfl, rfl, rfl, rfl, rfl, trivial⟩
        · skip
          refine J_aload_n C dX6_sheet_34 rfl rfl ?_
          refine J_iconst C (v := nI 4) dX6_sheet_35 (by decide) ?_
          refine J_callVi C (q0 := 0) (ci := 6) (N := 33) (As := [.int (nI 4)]) (c_X6_fails l Z _ (AsF A (nI 0)) hAz hk _) cw_RX6_94 wd_9_7 wd_9_8 rfl rfl rfl rfl (Nat.le_of_ble_eq_true rfl) rfl rfl (Nat.le_of_ble_eq_true rfl) (Nat.le_of_ble_eq_true rfl) dX6_sheet_36 (fun r36 x36 hp36 => ?_)
          obtain ⟨rfl, hA36⟩ := hp36
          obtain ⟨hr36o, hH36o, hR36o, hT36, hF36⟩ := id hA36
          first | have hr36 : MdR x36 A.1 := hr36o | have hr36 := hr36o
          first | have hH36 : MH x36 A.2.1 := hH36o | have hH36 := hH36o
          first | have hR36 : MR x36 A.2.2.1 := hR36o | have hR36 := hR36o
          exact E dX6_sheet_39 (⟨by rw [R_sheet, if_pos c9, if_pos c18, if_neg (le60 c24), if_pos (lt0_i c31)] <;> first | rfl | decide, by rw [N_sheet, if_pos c9, if_pos c18, if_neg (le60 c24), if_pos (lt0_i c31)]; exact hA36⟩)
      · skip
        refine J_bipush C (v := (-2)) dX6_sheet_27 (by decide) ?_
        exact E dX6_sheet_29 (⟨by rw [R_sheet, if_pos c9, if_pos c18, if_pos (gt60 c24)] <;> first | rfl | decide, by rw [N_sheet, if_pos c9, if_pos c18, if_pos (gt60 c24)]; exact hAz⟩)
  · skip
    refine J_iconst C (v := (-1)) dX6_sheet_12 (by decide) ?_
    exact E dX6_sheet_13 (⟨by rw [R_sheet, if_neg c9] <;> first | rfl | decide, by rw [N_sheet, if_neg c9]; exact hAz⟩)
def rm_X6_put : Room := ({ frames := 2, cells := 0, slots := 0, locals := 42 })
set_option maxRecDepth 20000 in
theorem c_X6_put (l : Launch) (Z : EC) (x : Mt) (A : AB) (hA : AbsM x A) (hk : AOK A) (k i v : Int32) : MIi l Z (wM Z) yX6_put cX6_put 4 rm_X6_put [.ref (Z.2.1 0), .int k, .int i, .int v] x (fun r x1 => r = R_put A k i v ∧ AbsM x1 (N_put A k i v)) := by
  obtain ⟨hr, hH, hR, hT, hF⟩ := id hA
  obtain ⟨ok, hkH, hkR, hkr⟩ := id hk
  obtain ⟨ok0, ok1, ok2, ok3, ok4, ok5, ok6, ok7⟩ := id ok
  refine MIi_of (own := RX6) (L0 := [some (.ref (Z.2.1 0)), some (.int k), some (.int i), some (.int v)]) (by decide) rfl (Nat.le_of_ble_eq_true rfl) ⟨rfl, rfl, rfl, rfl, trivial⟩ ?_
  intro Γ C E
  refine J_aload_n C dX6_put_0 rfl rfl ?_
  refine J_iconst C (v := nI 0) dX6_put_1 (by decide) ?_
  refine P6_fault C wd_8_14 dX6_put_2 ?_
  have hAz := absM_F (v := nI 0) hA
  generalize mI x 0 (nI 0) = x0 at hAz ⊢
  obtain ⟨hr2o, hH2o, hR2o, hT2, hF2⟩ := id hAz
  first | have hr2 : MdR x0 A.1 := hr2o | have hr2 := hr2o
  first | have hH2 : MH x0 A.2.1 := hH2o | have hH2 := hH2o
  first | have hR2 : MR x0 A.2.2.1 := hR2o | have hR2 := hR2o
  refine J_iload_n C dX6_put_5 rfl rfl ?_
  refine J_callSz C (As := [.int k]) (c_X6_isSheet l Z _ _) cw_RX6_83 wd_8_18 rfl rfl (Nat.le_of_ble_eq_true rfl) rfl rfl (Nat.le_of_ble_eq_true rfl) (Nat.le_of_ble_eq_true rfl) dX6_put_6 (fun b6 x6 hp6 => ?_)
  obtain ⟨rfl, rfl⟩ := hp6
  refine J_if_ne_d C (tgt := 14) dX6_put_9 (by decide) (fun c9 => ?_) (fun c9 => ?_)
  · skip
    obtain ⟨kn, k0, k3, rfl⟩ := rng_nat2 (A := 0) (B := 3) c9
    have hkn : kn < 4 := by omega
    have tnk := tn_nI (n := kn) (by omega)
    have gk := hkH kn hkn
    refine J_aload_n C dX6_put_14 rfl rfl ?_
    refine G6_sorts C wd_3_18 dX6_put_15 ?_
    refine J_iload_n C dX6_put_18 rfl rfl ?_
    refine LM_sorts C (v := srt A.2.1 kn) (by omega) ((hH2 kn hkn).1) dX6_put_19 ?_
    refine J_bipush C (v := (-9)) dX6_put_20 (by decide) ?_
    refine J_icmp_ne C (tgt := 31) dX6_put_22 (by decide) (fun c22 => ?_) (fun c22 => ?_)
    · skip
      have hn := srt_n c22
      refine J_iload_n C dX6_put_31 rfl rfl ?_
      refine J_iconst C (v := nI 0) dX6_put_32 (by decide) ?_
      refine J_aload_n C dX6_put_33 rfl rfl ?_
      refine G6_sheetLong C wd_3_19 dX6_put_34 ?_
      refine J_iload_n C dX6_put_37 rfl rfl ?_
      refine LM_sheetLong C (v := nI (A.2.1.2.1 kn)) (by omega) (((hH2 kn hkn).2 hn).1) dX6_put_38 ?_
      refine J_iconst C (v := nI 1) dX6_put_39 (by decide) ?_
      refine J_isub C (v := nI (A.2.1.2.1 kn) - nI 1) dX6_put_40 (rfl) ?_
      refine J_callSz C (As := [.int i, .int (nI 0), .int (nI (A.2.1.2.1 kn) - nI 1)]) (c_X6_within l Z _ _ _ _ (0) ((A.2.1.2.1 kn : Int) - 1) (by decide) (subI1 (by omega))) cw_RX6_70 wd_8_21 rfl rfl (Nat.le_of_ble_eq_true rfl) rfl rfl (Nat.le_of_ble_eq_true rfl) (Nat.le_of_ble_eq_true rfl) dX6_put_41 (fun b41 x41 hp41 => ?_)
      obtain ⟨rfl, rfl⟩ := hp41
      refine J_if_ne_d C (tgt := 53) dX6_put_44 (by decide) (fun c44 => ?_) (fun c44 => ?_)
      · skip
        obtain ⟨im, him, rfl⟩ := rng_nat (q := i) (P := A.2.1.2.1 kn) ⟨c44.1, by have := c44.2; omega⟩
        have tni := tn_nI (n := im) (by omega)
        refine J_aload_n C dX6_put_53 rfl rfl ?_
        refine G6_cells C wd_3_20 dX6_put_54 ?_
        refine J_bipush C (v := nI 60) dX6_put_57 (by decide) ?_
        refine J_iload_n C dX6_put_59 rfl rfl ?_
        refine J_imul C (v := nI (60 * kn)) dX6_put_60 (pk_mul _ _) ?_
        refine J_iload_n C dX6_put_61 rfl rfl ?_
        refine J_iadd C (v := nI ((60 * kn) + im)) dX6_put_62 (nI_add _ _) ?_
        refine J_aload_n C dX6_put_63 rfl rfl ?_
        refine G6_sorts C wd_3_18 dX6_put_64 ?_
        refine J_iload_n C dX6_put_67 rfl rfl ?_
        refine LM_sorts C (v := srt A.2.1 kn) (by omega) ((hH2 kn hkn).1) dX6_put_68 ?_
        refine J_if_ne C (tgt := 77) dX6_put_69 (by decide) (fun c69 => ?_) (fun c69 => ?_)
        · skip
          refine J_aload_n C dX6_put_77 rfl rfl ?_
          refine G6_sorts C wd_3_18 dX6_put_78 ?_
          refine J_iload_n C dX6_put_81 rfl rfl ?_
          refine LM_sorts C (v := srt A.2.1 kn) (by omega) ((hH2 kn hkn).1) dX6_put_82 ?_
          refine J_iconst C (v := nI 1) dX6_put_83 (by decide) ?_
          refine J_icmp_ne C (tgt := 92) dX6_put_84 (by decide) (fun c84 => ?_) (fun c84 => ?_)
          · skip
            have hcut : cutI (A.2.1.1 kn) v = v := by rw [cutI, if_neg (fun h => c69 ((srt_eq (m := 0) hn gk.1 (by omega)).mpr h)), if_neg (fun h => c84 ((srt_eq (m := 1) hn gk.1 (by omega)).mpr h))]
            refine J_iload_n C dX6_put_92 rfl rfl ?_
            refine SM_cells C (by omega) dX6_put_93 ?_
            refine J_iconst C (v := nI 1) dX6_put_94 (by decide) ?_
            exact E dX6_put_95 (⟨by rw [R_put, if_pos c9, tnk, if_neg (srt_n c22), if_pos c44]; rfl, by rw [N_put, if_pos c9, tnk, if_neg (srt_n c22), if_pos c44, tni, hcut]; exact absM_put (A := AsF A (nI 0)) hAz hkn (by omega) (fun u hu => (hkH u hu).2)⟩)
          · skip
            have hcut : cutI (A.2.1.1 kn) v = v.toInt16.toInt32 := by rw [cutI, if_neg (fun h => c69 ((srt_eq (m := 0) hn gk.1 (by omega)).mpr h)), if_pos ((srt_eq (m := 1) hn gk.1 (by omega)).mp c84)]
            refine J_iload_n C dX6_put_87 rfl rfl ?_
            refine J_i2s C (v := v.toInt16.toInt32) dX6_put_88 (rfl) ?_
            refine J_goto (tgt := 93) C dX6_put_89 (by decide) ?_
            refine SM_cells C (by omega) dX6_put_93 ?_
            refine J_iconst C (v := nI 1) dX6_put_94 (by decide) ?_
            exact E dX6_put_95 (⟨by rw [R_put, if_pos c9, tnk, if_neg (srt_n c22), if_pos c44]; rfl, by rw [N_put, if_pos c9, tnk, if_neg (srt_n c22), if_pos c44, tni, hcut]; exact absM_put (A := AsF A (nI 0)) hAz hkn (by omega) (fun u hu => (hkH u hu).2)⟩)
        · skip
          have hcut : cutI (A.2.1.1 kn) v = v.toInt8.toInt32 := by rw [cutI, if_pos ((srt_eq (m := 0) hn gk.1 (by omega)).mp c69)]
          refine J_iload_n C dX6_put_72 rfl rfl ?_
          refine J_i2b C (v := v.toInt8.toInt32) dX6_put_73 (rfl) ?_
          refine J_goto (tgt := 93) C dX6_put_74 (by decide) ?_
          refine SM_cells C (by omega) dX6_put_93 ?_
          refine J_iconst C (v := nI 1) dX6_put_94 (by decide) ?_
          exact E dX6_put_95 (⟨by rw [R_put, if_pos c9, tnk, if_neg (srt_n c22), if_pos c44]; rfl, by rw [N_put, if_pos c9, tnk, if_neg (srt_n c22), if_pos c44, tni, hcut]; exact absM_put (A := AsF A (nI 0)) hAz hkn (by omega) (fun u hu => (hkH u hu).2)⟩)
      · skip
        refine J_aload_n C dX6_put_47 rfl rfl ?_
        refine J_iconst C (v := nI 3) dX6_put_48 (by decide) ?_
        refine J_callVi C (q0 := 0) (ci := 6) (N := 33) (As := [.int (nI 3)]) (c_X6_fails l Z _ (AsF A (nI 0)) hAz hk _) cw_RX6_94 wd_9_7 wd_9_8 rfl rfl rfl rfl (Nat.le_of_ble_eq_true rfl) rfl rfl (Nat.le_of_ble_eq_true rfl) (Nat.le_of_ble_eq_true rfl) dX6_put_49 (fun r49 x49 hp49 => ?_)
        obtain ⟨rfl, hA49⟩ := hp49
        obtain ⟨hr49o, hH49o, hR49o, hT49, hF49⟩ := id hA49
        first | have hr49 : MdR x49 A.1 := hr49o | have hr49 := hr49o
        first | have hH49 : MH x49 A.2.1 := hH49o | have hH49 := hH49o
        first | have hR49 : MR x49 A.2.2.1 := hR49o | have hR49 := hR49o
        exact E dX6_put_52 (⟨by rw [R_put, if_pos c9, tnk, if_neg (srt_n c22), if_neg c44] <;> first | rfl | decide, by rw [N_put, if_pos c9, tnk, if_neg (srt_n c22), if_neg c44]; exact hA49⟩)
    · skip
      refine J_aload_n C dX6_put_25 rfl rfl ?_
      refine J_iconst C (v := nI 1) dX6_put_26 (by decide) ?_
      refine J_callVi C (q0 := 0) (ci := 6) (N := 33) (As := [.int (nI 1)]) (c_X6_fails l Z _ (AsF A (nI 0)) hAz hk _) cw_RX6_94 wd_9_7 wd_9_8 rfl rfl rfl rfl (Nat.le_of_ble_eq_true rfl) rfl rfl (Nat.le_of_ble_eq_true rfl) (Nat.le_of_ble_eq_true rfl) dX6_put_27 (fun r27 x27 hp27 => ?_)
      obtain ⟨rfl, hA27⟩ := hp27
      obtain ⟨hr27o, hH27o, hR27o, hT27, hF27⟩ := id hA27
      first | have hr27 : MdR x27 A.1 := hr27o | have hr27 := hr27o
      first | have hH27 : MH x27 A.2.1 := hH27o | have hH27 := hH27o
      first | have hR27 : MR x27 A.2.2.1 := hR27o | have hR27 := hR27o
      exact E dX6_put_30 (⟨by rw [R_put, if_pos c9, tnk, if_pos (srt_0 gk.1 c22)] <;> first | rfl | decide, by rw [N_put, if_pos c9, tnk, if_pos (srt_0 gk.1 c22)]; exact hA27⟩)
  · skip
    refine J_iconst C (v := (-1)) dX6_put_12 (by decide) ?_
    exact E dX6_put_13 (⟨by rw [R_put, if_neg c9] <;> first | rfl | decide, by rw [N_put, if_neg c9]; exact hAz⟩)
def rm_X6_cell : Room := ({ frames := 2, cells := 0, slots := 0, locals := 42 })
set_option maxRecDepth 20000 in
theorem c_X6_cell (l : Launch) (Z : EC) (x : Mt) (A : AB) (hA : AbsM x A) (hk : AOK A) (k i la : Int32) : MIl l Z (wM Z) yX6_cell cX6_cell 4 rm_X6_cell [.ref (Z.2.1 0), .int k, .int i, .int la] x (fun r x1 => r = R_cell A k i la ∧ AbsM x1 (N_cell A k i la)) := by
  obtain ⟨hr, hH, hR, hT, hF⟩ := id hA
  obtain ⟨ok, hkH, hkR, hkr⟩ := id hk
  obtain ⟨ok0, ok1, ok2, ok3, ok4, ok5, ok6, ok7⟩ := id ok
  refine MIl_of (own := RX6) (L0 := [some (.ref (Z.2.1 0)), some (.int k), some (.int i), some (.int la)]) (by decide) rfl (Nat.le_of_ble_eq_true rfl) ⟨rfl, rfl, rfl, rfl, trivial⟩ ?_
  intro Γ C E
  refine J_aload_n C dX6_cell_0 rfl rfl ?_
  refine J_iconst C (v := nI 0) dX6_cell_1 (by decide) ?_
  refine P6_fault C wd_8_14 dX6_cell_2 ?_
  have hAz := absM_F (v := nI 0) hA
  generalize mI x 0 (nI 0) = x0 at hAz ⊢
  obtain ⟨hr2o, hH2o, hR2o, hT2, hF2⟩ := id hAz
  first | have hr2 : MdR x0 A.1 := hr2o | have hr2 := hr2o
  first | have hH2 : MH x0 A.2.1 := hH2o | have hH2 := hH2o
  first | have hR2 : MR x0 A.2.2.1 := hR2o | have hR2 := hR2o
  refine J_iload_n C dX6_cell_5 rfl rfl ?_
  refine J_callSz C (As := [.int k]) (c_X6_isSheet l Z _ _) cw_RX6_83 wd_8_18 rfl rfl (Nat.le_of_ble_eq_true rfl) rfl rfl (Nat.le_of_ble_eq_true rfl) (Nat.le_of_ble_eq_true rfl) dX6_cell_6 (fun b6 x6 hp6 => ?_)
  obtain ⟨rfl, rfl⟩ := hp6
  refine J_if_eq_d C (tgt := 19) dX6_cell_9 (by decide) (fun c9 => ?_) (fun c9 => ?_)
  · skip
    refine J_ldc2 C wd_31_22 dX6_cell_19 ?_
    exact E dX6_cell_22 (⟨by rw [R_cell, if_neg c9] <;> rfl, by rw [N_cell, if_neg c9]; exact hAz⟩)
  · skip
    obtain ⟨kn, k0, k3, rfl⟩ := rng_nat2 (A := 0) (B := 3) c9
    have hkn : kn < 4 := by omega
    have tnk := tn_nI (n := kn) (by omega)
    have gk := hkH kn hkn
    refine J_iload_n C dX6_cell_12 rfl rfl ?_
    refine J_callSz C (As := [.int la]) (c_X6_isSort l Z _ _) cw_RX6_87 wd_9_0 rfl rfl (Nat.le_of_ble_eq_true rfl) rfl rfl (Nat.le_of_ble_eq_true rfl) (Nat.le_of_ble_eq_true rfl) dX6_cell_13 (fun b13 x13 hp13 => ?_)
    obtain ⟨rfl, rfl⟩ := hp13
    refine J_if_ne_d C (tgt := 23) dX6_cell_16 (by decide) (fun c16 => ?_) (fun c16 => ?_)
    · skip
      refine J_aload_n C dX6_cell_23 rfl rfl ?_
      refine G6_sorts C wd_3_18 dX6_cell_24 ?_
      refine J_iload_n C dX6_cell_27 rfl rfl ?_
      refine LM_sorts C (v := srt A.2.1 kn) (by omega) ((hH2 kn hkn).1) dX6_cell_28 ?_
      refine J_bipush C (v := (-9)) dX6_cell_29 (by decide) ?_
      refine J_icmp_eq C (tgt := 50) dX6_cell_31 (by decide) (fun c31 => ?_) (fun c31 => ?_)
      · skip
        have g31 := srt_0 gk.1 c31
        have hrf : rowF A.2.1 kn la i (nI 1) = 1 := rowF_1 g31
        refine J_aload_n C dX6_cell_50 rfl rfl ?_
        refine G6_sorts C wd_3_18 dX6_cell_51 ?_
        refine J_iload_n C dX6_cell_54 rfl rfl ?_
        refine LM_sorts C (v := srt A.2.1 kn) (by omega) ((hH2 kn hkn).1) dX6_cell_55 ?_
        refine J_bipush C (v := (-9)) dX6_cell_56 (by decide) ?_
        refine J_icmp_ne C (tgt := 67) dX6_cell_58 (by decide) (fun c58 => absurd c31 c58) (fun c58 => ?_)
        refine J_aload_n C dX6_cell_61 rfl rfl ?_
        refine J_iconst C (v := nI 1) dX6_cell_62 (by decide) ?_
        refine J_callVl C (q0 := 0) (ci := 6) (N := 33) (As := [.int (nI 1)]) (c_X6_lost l Z _ (AsF A (nI 0)) hAz hk _) cw_RX6_225 wd_33_22 wd_33_23 rfl rfl rfl rfl (Nat.le_of_ble_eq_true rfl) rfl rfl (Nat.le_of_ble_eq_true rfl) (Nat.le_of_ble_eq_true rfl) dX6_cell_63 (fun r63 x63 hp63 => ?_)
        obtain ⟨rfl, hA63⟩ := hp63
        obtain ⟨hr63o, hH63o, hR63o, hT63, hF63⟩ := id hA63
        first | have hr63 : MdR x63 A.1 := hr63o | have hr63 := hr63o
        first | have hH63 : MH x63 A.2.1 := hH63o | have hH63 := hH63o
        first | have hR63 : MR x63 A.2.2.1 := hR63o | have hR63 := hR63o
        exact E dX6_cell_66 (⟨by rw [R_cell, if_pos c9, if_pos c16, tnk, hrf]; rfl, by rw [N_cell, if_pos c9, if_pos c16, tnk, hrf]; exact hA63⟩)
      · skip
        have hn := srt_n c31
        refine J_aload_n C dX6_cell_34 rfl rfl ?_
        refine G6_sorts C wd_3_18 dX6_cell_35 ?_
        refine J_iload_n C dX6_cell_38 rfl rfl ?_
        refine LM_sorts C (v := srt A.2.1 kn) (by omega) ((hH2 kn hkn).1) dX6_cell_39 ?_
        refine J_iload_n C dX6_cell_40 rfl rfl ?_
        refine J_icmp_eq C (tgt := 50) dX6_cell_41 (by decide) (fun c41 => ?_) (fun c41 => ?_)
        · skip
          refine J_aload_n C dX6_cell_50 rfl rfl ?_
          refine G6_sorts C wd_3_18 dX6_cell_51 ?_
          refine J_iload_n C dX6_cell_54 rfl rfl ?_
          refine LM_sorts C (v := srt A.2.1 kn) (by omega) ((hH2 kn hkn).1) dX6_cell_55 ?_
          refine J_bipush C (v := (-9)) dX6_cell_56 (by decide) ?_
          refine J_icmp_ne C (tgt := 67) dX6_cell_58 (by decide) (fun c58 => ?_) (fun c58 => absurd c58 c31)
          refine J_iload_n C dX6_cell_67 rfl rfl ?_
          refine J_iconst C (v := nI 0) dX6_cell_68 (by decide) ?_
          refine J_aload_n C dX6_cell_69 rfl rfl ?_
          refine G6_sheetLong C wd_3_19 dX6_cell_70 ?_
          refine J_iload_n C dX6_cell_73 rfl rfl ?_
          refine LM_sheetLong C (v := nI (A.2.1.2.1 kn)) (by omega) (((hH2 kn hkn).2 hn).1) dX6_cell_74 ?_
          refine J_iconst C (v := nI 1) dX6_cell_75 (by decide) ?_
          refine J_isub C (v := nI (A.2.1.2.1 kn) - nI 1) dX6_cell_76 (rfl) ?_
          refine J_callSz C (As := [.int i, .int (nI 0), .int (nI (A.2.1.2.1 kn) - nI 1)]) (c_X6_within l Z _ _ _ _ (0) ((A.2.1.2.1 kn : Int) - 1) (by decide) (subI1 (by omega))) cw_RX6_70 wd_8_21 rfl rfl (Nat.le_of_ble_eq_true rfl) rfl rfl (Nat.le_of_ble_eq_true rfl) (Nat.le_of_ble_eq_true rfl) dX6_cell_77 (fun b77 x77 hp77 => ?_)
          obtain ⟨rfl, rfl⟩ := hp77
          refine J_if_ne_d C (tgt := 89) dX6_cell_80 (by decide) (fun c80 => ?_) (fun c80 => ?_)
          · skip
            have hrf : rowF A.2.1 kn la i (nI 1) = 0 := rowF_0 hn (srt_l hn c41) c80
            obtain ⟨im, him, rfl⟩ := rng_nat (q := i) (P := A.2.1.2.1 kn) ⟨c80.1, by have := c80.2; omega⟩
            have tni := tn_nI (n := im) (by omega)
            refine J_aload_n C dX6_cell_89 rfl rfl ?_
            refine G6_cells C wd_3_20 dX6_cell_90 ?_
            refine J_bipush C (v := nI 60) dX6_cell_93 (by decide) ?_
            refine J_iload_n C dX6_cell_95 rfl rfl ?_
            refine J_imul C (v := nI (60 * kn)) dX6_cell_96 (pk_mul _ _) ?_
            refine J_iload_n C dX6_cell_97 rfl rfl ?_
            refine J_iadd C (v := nI ((60 * kn) + im)) dX6_cell_98 (nI_add _ _) ?_
            refine LM_cells C (v := A.2.1.2.2 kn im) (by omega) (((hH2 kn hkn).2 hn).2 im him) dX6_cell_99 ?_
            refine J_i2l C (v := (A.2.1.2.2 kn im).toInt64) dX6_cell_100 (rfl) ?_
            exact E dX6_cell_101 (⟨by rw [R_cell, if_pos c9, if_pos c16, tnk, hrf, tni]; rfl, by rw [N_cell, if_pos c9, if_pos c16, tnk, hrf]; exact hAz⟩)
          · skip
            have hrf : rowF A.2.1 kn la i (nI 1) = 3 := rowF_3 hn (srt_l hn c41) c80
            refine J_aload_n C dX6_cell_83 rfl rfl ?_
            refine J_iconst C (v := nI 3) dX6_cell_84 (by decide) ?_
            refine J_callVl C (q0 := 0) (ci := 6) (N := 33) (As := [.int (nI 3)]) (c_X6_lost l Z _ (AsF A (nI 0)) hAz hk _) cw_RX6_225 wd_33_22 wd_33_23 rfl rfl rfl rfl (Nat.le_of_ble_eq_true rfl) rfl rfl (Nat.le_of_ble_eq_true rfl) (Nat.le_of_ble_eq_true rfl) dX6_cell_85 (fun r85 x85 hp85 => ?_)
            obtain ⟨rfl, hA85⟩ := hp85
            obtain ⟨hr85o, hH85o, hR85o, hT85, hF85⟩ := id hA85
            first | have hr85 : MdR x85 A.1 := hr85o | have hr85 := hr85o
            first | have hH85 : MH x85 A.2.1 := hH85o | have hH85 := hH85o
            first | have hR85 : MR x85 A.2.2.1 := hR85o | have hR85 := hR85o
            exact E dX6_cell_88 (⟨by rw [R_cell, if_pos c9, if_pos c16, tnk, hrf]; rfl, by rw [N_cell, if_pos c9, if_pos c16, tnk, hrf]; exact hA85⟩)
        · skip
          have hrf : rowF A.2.1 kn la i (nI 1) = 2 := rowF_2 hn (fun h => c41 (srt_r hn h))
          refine J_aload_n C dX6_cell_44 rfl rfl ?_
          refine J_iconst C (v := nI 2) dX6_cell_45 (by decide) ?_
          refine J_callVl C (q0 := 0) (ci := 6) (N := 33) (As := [.int (nI 2)]) (c_X6_lost l Z _ (AsF A (nI 0)) hAz hk _) cw_RX6_225 wd_33_22 wd_33_23 rfl rfl rfl rfl (Nat.le_of_ble_eq_true rfl) rfl rfl (Nat.le_of_ble_eq_true rfl) (Nat.le_of_ble_eq_true rfl) dX6_cell_46 (fun r46 x46 hp46 => ?_)
          obtain ⟨rfl, hA46⟩ := hp46
          obtain ⟨hr46o, hH46o, hR46o, hT46, hF46⟩ := id hA46
          first | have hr46 : MdR x46 A.1 := hr46o | have hr46 := hr46o
          first | have hH46 : MH x46 A.2.1 := hH46o | have hH46 := hH46o
          first | have hR46 : MR x46 A.2.2.1 := hR46o | have hR46 := hR46o
          exact E dX6_cell_49 (⟨by rw [R_cell, if_pos c9, if_pos c16, tnk, hrf]; rfl, by rw [N_cell, if_pos c9, if_pos c16, tnk, hrf]; exact hA46⟩)
    · skip
      refine J_ldc2 C wd_31_22 dX6_cell_19 ?_
      exact E dX6_cell_22 (⟨by rw [R_cell, if_pos c9, if_neg c16] <;> rfl, by rw [N_cell, if_pos c9, if_neg c16]; exact hAz⟩)
def rm_X6_copy : Room := ({ frames := 2, cells := 0, slots := 0, locals := 42 })
set_option maxRecDepth 20000 in
theorem c_X6_copy (l : Launch) (Z : EC) (x : Mt) (A : AB) (hA : AbsM x A) (hk : AOK A) (k i o j n : Int32) : MIi l Z (wM Z) yX6_copy cX6_copy 10 rm_X6_copy [.ref (Z.2.1 0), .int k, .int i, .int o, .int j, .int n] x (fun r x1 => r = R_copy A k i o j n ∧ AbsM x1 (N_copy A k i o j n)) := by
  obtain ⟨hr, hH, hR, hT, hF⟩ := id hA
  obtain ⟨ok, hkH, hkR, hkr⟩ := id hk
  obtain ⟨ok0, ok1, ok2, ok3, ok4, ok5, ok6, ok7⟩ := id ok
  refine MIi_of (own := RX6) (L0 := [some (.ref (Z.2.1 0)), some (.int k), some (.int i), some (.int o), some (.int j), some (.int n), none, none, none, none]) (by decide) rfl (Nat.le_of_ble_eq_true rfl) ⟨rfl, rfl, rfl, rfl, rfl, rfl, trivial⟩ ?_
  intro Γ C E
  refine J_aload_n C dX6_copy_0 rfl rfl ?_
  refine J_iconst C (v := nI 0) dX6_copy_1 (by decide) ?_
  refine P6_fault C wd_8_14 dX6_copy_2 ?_
  have hAz := absM_F (v := nI 0) hA
  generalize mI x 0 (nI 0) = x0 at hAz ⊢
  obtain ⟨hr2o, hH2o, hR2o, hT2, hF2⟩ := id hAz
  first | have hr2 : MdR x0 A.1 := hr2o | have hr2 := hr2o
  first | have hH2 : MH x0 A.2.1 := hH2o | have hH2 := hH2o
  first | have hR2 : MR x0 A.2.2.1 := hR2o | have hR2 := hR2o
  refine J_iload_n C dX6_copy_5 rfl rfl ?_
  refine J_callSz C (As := [.int k]) (c_X6_isSheet l Z _ _) cw_RX6_83 wd_8_18 rfl rfl (Nat.le_of_ble_eq_true rfl) rfl rfl (Nat.le_of_ble_eq_true rfl) (Nat.le_of_ble_eq_true rfl) dX6_copy_6 (fun b6 x6 hp6 => ?_)
  obtain ⟨rfl, rfl⟩ := hp6
  refine J_if_eq_d C (tgt := 19) dX6_copy_9 (by decide) (fun c9 => ?_) (fun c9 => ?_)
  · skip
    refine J_iconst C (v := (-1)) dX6_copy_19 (by decide) ?_
    exact E dX6_copy_20 (⟨by rw [R_copy, if_neg c9] <;> first | rfl | decide, by rw [N_copy, if_neg c9]; exact hAz⟩)
  · skip
    obtain ⟨kn, k0, k3, rfl⟩ := rng_nat2 (A := 0) (B := 3) c9
    have hkn : kn < 4 := by omega
    have tnk := tn_nI (n := kn) (by omega)
    have gk := hkH kn hkn
    refine J_iload_n C dX6_copy_12 rfl rfl ?_
    refine J_callSz C (As := [.int o]) (c_X6_isSheet l Z _ _) cw_RX6_83 wd_8_18 rfl rfl (Nat.le_of_ble_eq_true rfl) rfl rfl (Nat.le_of_ble_eq_true rfl) (Nat.le_of_ble_eq_true rfl) dX6_copy_13 (fun b13 x13 hp13 => ?_)
    obtain ⟨rfl, rfl⟩ := hp13
    refine J_if_ne_d C (tgt := 21) dX6_copy_16 (by decide) (fun c16 => ?_) (fun c16 => ?_)
    · skip
      obtain ⟨on, o0, o3, rfl⟩ := rng_nat2 (A := 0) (B := 3) c16
      have hon : on < 4 := by omega
      have tno := tn_nI (n := on) (by omega)
      have go := hkH on hon
      refine J_aload_n C dX6_copy_21 rfl rfl ?_
      refine G6_sorts C wd_3_18 dX6_copy_22 ?_
      refine J_iload_n C dX6_copy_25 rfl rfl ?_
      refine LM_sorts C (v := srt A.2.1 kn) (by omega) ((hH2 kn hkn).1) dX6_copy_26 ?_
      refine J_bipush C (v := (-9)) dX6_copy_27 (by decide) ?_
      refine J_icmp_eq C (tgt := 43) dX6_copy_29 (by decide) (fun c29 => ?_) (fun c29 => ?_)
      · skip
        refine J_aload_n C dX6_copy_43 rfl rfl ?_
        refine J_iconst C (v := nI 1) dX6_copy_44 (by decide) ?_
        refine J_callVi C (q0 := 0) (ci := 6) (N := 33) (As := [.int (nI 1)]) (c_X6_fails l Z _ (AsF A (nI 0)) hAz hk _) cw_RX6_94 wd_9_7 wd_9_8 rfl rfl rfl rfl (Nat.le_of_ble_eq_true rfl) rfl rfl (Nat.le_of_ble_eq_true rfl) (Nat.le_of_ble_eq_true rfl) dX6_copy_45 (fun r45 x45 hp45 => ?_)
        obtain ⟨rfl, hA45⟩ := hp45
        obtain ⟨hr45o, hH45o, hR45o, hT45, hF45⟩ := id hA45
        first | have hr45 : MdR x45 A.1 := hr45o | have hr45 := hr45o
        first | have hH45 : MH x45 A.2.1 := hH45o | have hH45 := hH45o
        first | have hR45 : MR x45 A.2.2.1 := hR45o | have hR45 := hR45o
        exact E dX6_copy_48 (⟨by rw [R_copy, if_pos c9, if_pos c16, tnk, tno, if_pos (srt_0 gk.1 c29)] <;> first | rfl | decide, by rw [N_copy, if_pos c9, if_pos c16, tnk, tno, if_pos (srt_0 gk.1 c29)]; exact hA45⟩)
      · skip
        have hn := srt_n c29
        refine J_aload_n C dX6_copy_32 rfl rfl ?_
        refine G6_sorts C wd_3_18 dX6_copy_33 ?_
        refine J_iload_n C dX6_copy_36 rfl rfl ?_
        refine LM_sorts C (v := srt A.2.1 on) (by omega) ((hH2 on hon).1) dX6_copy_37 ?_
        refine J_bipush C (v := (-9)) dX6_copy_38 (by decide) ?_
        refine J_icmp_ne C (tgt := 49) dX6_copy_40 (by decide) (fun c40 => ?_) (fun c40 => ?_)
        · skip
          have hno1 := srt_n c40
          refine J_aload_n C dX6_copy_49 rfl rfl ?_
          refine G6_sorts C wd_3_18 dX6_copy_50 ?_
          refine J_iload_n C dX6_copy_53 rfl rfl ?_
          refine LM_sorts C (v := srt A.2.1 kn) (by omega) ((hH2 kn hkn).1) dX6_copy_54 ?_
          refine J_aload_n C dX6_copy_55 rfl rfl ?_
          refine G6_sorts C wd_3_18 dX6_copy_56 ?_
          refine J_iload_n C dX6_copy_59 rfl rfl ?_
          refine LM_sorts C (v := srt A.2.1 on) (by omega) ((hH2 on hon).1) dX6_copy_60 ?_
          refine J_icmp_eq C (tgt := 70) dX6_copy_61 (by decide) (fun c61 => ?_) (fun c61 => ?_)
          · skip
            refine J_iload_n C dX6_copy_70 rfl rfl ?_
            refine J_if_lt C (tgt := 109) dX6_copy_71 (by decide) (fun c71 => ?_) (fun c71 => ?_)
            · skip
              have hno : ¬ (inH A.2.1 kn i n ∧ inH A.2.1 on j n) := fun h => neg_i c71 h.1.1
              refine J_iconst C (v := nI 0) dX6_copy_109 (by decide) ?_
              refine J_istore C (L' := [some (.ref (Z.2.1 0)), some (.int (nI kn)), some (.int i), some (.int (nI on)), some (.int j), some (.int n), some (.int (nI 0)), none, none, none]) dX6_copy_110 (by decide) rfl rfl ?_
              refine J_iload C dX6_copy_112 rfl ?_
              refine J_if_eq C (tgt := 144) dX6_copy_114 (by decide) (fun c114 => ?_) (fun c114 => absurd (by decide) c114)
              refine J_aload_n C dX6_copy_144 rfl rfl ?_
              refine J_iconst C (v := nI 3) dX6_copy_145 (by decide) ?_
              refine J_callVi C (q0 := 0) (ci := 6) (N := 33) (As := [.int (nI 3)]) (c_X6_fails l Z _ (AsF A (nI 0)) hAz hk _) cw_RX6_94 wd_9_7 wd_9_8 rfl rfl rfl rfl (Nat.le_of_ble_eq_true rfl) rfl rfl (Nat.le_of_ble_eq_true rfl) (Nat.le_of_ble_eq_true rfl) dX6_copy_146 (fun r146 x146 hp146 => ?_)
              obtain ⟨rfl, hA146⟩ := hp146
              obtain ⟨hr146o, hH146o, hR146o, hT146, hF146⟩ := id hA146
              first | have hr146 : MdR x146 A.1 := hr146o | have hr146 := hr146o
              first | have hH146 : MH x146 A.2.1 := hH146o | have hH146 := hH146o
              first | have hR146 : MR x146 A.2.2.1 := hR146o | have hR146 := hR146o
              exact E dX6_copy_149 (⟨by rw [R_copy, if_pos c9, if_pos c16, tnk, tno, if_neg hn, if_neg hno1, if_pos (srt_inj hn hno1 gk.1 go.1 c61), copy_no hno]; decide, by rw [N_copy, if_pos c9, if_pos c16, tnk, tno, if_neg hn, if_neg hno1, if_pos (srt_inj hn hno1 gk.1 go.1 c61), copy_no hno]; exact hA146⟩)
            · skip
              refine J_iload C dX6_copy_74 rfl ?_
              refine J_if_lt C (tgt := 109) dX6_copy_76 (by decide) (fun c76 => ?_) (fun c76 => ?_)
              · skip
                have hno : ¬ (inH A.2.1 kn i n ∧ inH A.2.1 on j n) := fun h => neg_i c76 h.2.1
                refine J_iconst C (v := nI 0) dX6_copy_109 (by decide) ?_
                refine J_istore C (L' := [some (.ref (Z.2.1 0)), some (.int (nI kn)), some (.int i), some (.int (nI on)), some (.int j), some (.int n), some (.int (nI 0)), none, none, none]) dX6_copy_110 (by decide) rfl rfl ?_
                refine J_iload C dX6_copy_112 rfl ?_
                refine J_if_eq C (tgt := 144) dX6_copy_114 (by decide) (fun c114 => ?_) (fun c114 => absurd (by decide) c114)
                refine J_aload_n C dX6_copy_144 rfl rfl ?_
                refine J_iconst C (v := nI 3) dX6_copy_145 (by decide) ?_
                refine J_callVi C (q0 := 0) (ci := 6) (N := 33) (As := [.int (nI 3)]) (c_X6_fails l Z _ (AsF A (nI 0)) hAz hk _) cw_RX6_94 wd_9_7 wd_9_8 rfl rfl rfl rfl (Nat.le_of_ble_eq_true rfl) rfl rfl (Nat.le_of_ble_eq_true rfl) (Nat.le_of_ble_eq_true rfl) dX6_copy_146 (fun r146 x146 hp146 => ?_)
                obtain ⟨rfl, hA146⟩ := hp146
                obtain ⟨hr146o, hH146o, hR146o, hT146, hF146⟩ := id hA146
                first | have hr146 : MdR x146 A.1 := hr146o | have hr146 := hr146o
                first | have hH146 : MH x146 A.2.1 := hH146o | have hH146 := hH146o
                first | have hR146 : MR x146 A.2.2.1 := hR146o | have hR146 := hR146o
                exact E dX6_copy_149 (⟨by rw [R_copy, if_pos c9, if_pos c16, tnk, tno, if_neg hn, if_neg hno1, if_pos (srt_inj hn hno1 gk.1 go.1 c61), copy_no hno]; decide, by rw [N_copy, if_pos c9, if_pos c16, tnk, tno, if_neg hn, if_neg hno1, if_pos (srt_inj hn hno1 gk.1 go.1 c61), copy_no hno]; exact hA146⟩)
              · skip
                refine J_iload C dX6_copy_79 rfl ?_
                refine J_if_lt C (tgt := 109) dX6_copy_81 (by decide) (fun c81 => ?_) (fun c81 => ?_)
                · skip
                  have hno : ¬ (inH A.2.1 kn i n ∧ inH A.2.1 on j n) := fun h => neg_i c81 h.1.2.2.1
                  refine J_iconst C (v := nI 0) dX6_copy_109 (by decide) ?_
                  refine J_istore C (L' := [some (.ref (Z.2.1 0)), some (.int (nI kn)), some (.int i), some (.int (nI on)), some (.int j), some (.int n), some (.int (nI 0)), none, none, none]) dX6_copy_110 (by decide) rfl rfl ?_
                  refine J_iload C dX6_copy_112 rfl ?_
                  refine J_if_eq C (tgt := 144) dX6_copy_114 (by decide) (fun c114 => ?_) (fun c114 => absurd (by decide) c114)
                  refine J_aload_n C dX6_copy_144 rfl rfl ?_
                  refine J_iconst C (v := nI 3) dX6_copy_145 (by decide) ?_
                  refine J_callVi C (q0 := 0) (ci := 6) (N := 33) (As := [.int (nI 3)]) (c_X6_fails l Z _ (AsF A (nI 0)) hAz hk _) cw_RX6_94 wd_9_7 wd_9_8 rfl rfl rfl rfl (Nat.le_of_ble_eq_true rfl) rfl rfl (Nat.le_of_ble_eq_true rfl) (Nat.le_of_ble_eq_true rfl) dX6_copy_146 (fun r146 x146 hp146 => ?_)
                  obtain ⟨rfl, hA146⟩ := hp146
                  obtain ⟨hr146o, hH146o, hR146o, hT146, hF146⟩ := id hA146
                  first | have hr146 : MdR x146 A.1 := hr146o | have hr146 := hr146o
                  first | have hH146 : MH x146 A.2.1 := hH146o | have hH146 := hH146o
                  first | have hR146 : MR x146 A.2.2.1 := hR146o | have hR146 := hR146o
                  exact E dX6_copy_149 (⟨by rw [R_copy, if_pos c9, if_pos c16, tnk, tno, if_neg hn, if_neg hno1, if_pos (srt_inj hn hno1 gk.1 go.1 c61), copy_no hno]; decide, by rw [N_copy, if_pos c9, if_pos c16, tnk, tno, if_neg hn, if_neg hno1, if_pos (srt_inj hn hno1 gk.1 go.1 c61), copy_no hno]; exact hA146⟩)
                · skip
                  refine J_iload_n C dX6_copy_84 rfl rfl ?_
                  refine J_aload_n C dX6_copy_85 rfl rfl ?_
                  refine G6_sheetLong C wd_3_19 dX6_copy_86 ?_
                  refine J_iload_n C dX6_copy_89 rfl rfl ?_
                  refine LM_sheetLong C (v := nI (A.2.1.2.1 kn)) (by omega) (((hH2 kn hkn).2 hn).1) dX6_copy_90 ?_
                  refine J_icmp_gt C (tgt := 109) dX6_copy_91 (by decide) (fun c91 => ?_) (fun c91 => ?_)
                  · skip
                    have hno : ¬ (inH A.2.1 kn i n ∧ inH A.2.1 on j n) := fun h => gt_i (by omega) c91 h.1.2.1
                    refine J_iconst C (v := nI 0) dX6_copy_109 (by decide) ?_
                    refine J_istore C (L' := [some (.ref (Z.2.1 0)), some (.int (nI kn)), some (.int i), some (.int (nI on)), some (.int j), some (.int n), some (.int (nI 0)), none, none, none]) dX6_copy_110 (by decide) rfl rfl ?_
                    refine J_iload C dX6_copy_112 rfl ?_
                    refine J_if_eq C (tgt := 144) dX6_copy_114 (by decide) (fun c114 => ?_) (fun c114 => absurd (by decide) c114)
                    refine J_aload_n C dX6_copy_144 rfl rfl ?_
                    refine J_iconst C (v := nI 3) dX6_copy_145 (by decide) ?_
                    refine J_callVi C (q0 := 0) (ci := 6) (N := 33) (As := [.int (nI 3)]) (c_X6_fails l Z _ (AsF A (nI 0)) hAz hk _) cw_RX6_94 wd_9_7 wd_9_8 rfl rfl rfl rfl (Nat.le_of_ble_eq_true rfl) rfl rfl (Nat.le_of_ble_eq_true rfl) (Nat.le_of_ble_eq_true rfl) dX6_copy_146 (fun r146 x146 hp146 => ?_)
                    obtain ⟨rfl, hA146⟩ := hp146
                    obtain ⟨hr146o, hH146o, hR146o, hT146, hF146⟩ := id hA146
                    first | have hr146 : MdR x146 A.1 := hr146o | have hr146 := hr146o
                    first | have hH146 : MH x146 A.2.1 := hH146o | have hH146 := hH146o
                    first | have hR146 : MR x146 A.2.2.1 := hR146o | have hR146 := hR146o
                    exact E dX6_copy_149 (⟨by rw [R_copy, if_pos c9, if_pos c16, tnk, tno, if_neg hn, if_neg hno1, if_pos (srt_inj hn hno1 gk.1 go.1 c61), copy_no hno]; decide, by rw [N_copy, if_pos c9, if_pos c16, tnk, tno, if_neg hn, if_neg hno1, if_pos (srt_inj hn hno1 gk.1 go.1 c61), copy_no hno]; exact hA146⟩)
                  · skip
                    refine J_iload C dX6_copy_94 rfl ?_
                    refine J_aload_n C dX6_copy_96 rfl rfl ?_
                    refine G6_sheetLong C wd_3_19 dX6_copy_97 ?_
                    refine J_iload_n C dX6_copy_100 rfl rfl ?_
                    refine LM_sheetLong C (v := nI (A.2.1.2.1 on)) (by omega) (((hH2 on hon).2 hno1).1) dX6_copy_101 ?_
                    refine J_icmp_gt C (tgt := 109) dX6_copy_102 (by decide) (fun c102 => ?_) (fun c102 => ?_)
                    · skip
                      have hno : ¬ (inH A.2.1 kn i n ∧ inH A.2.1 on j n) := fun h => gt_i (by omega) c102 h.2.2.1
                      refine J_iconst C (v := nI 0) dX6_copy_109 (by decide) ?_
                      refine J_istore C (L' := [some (.ref (Z.2.1 0)), some (.int (nI kn)), some (.int i), some (.int (nI on)), some (.int j), some (.int n), some (.int (nI 0)), none, none, none]) dX6_copy_110 (by decide) rfl rfl ?_
                      refine J_iload C dX6_copy_112 rfl ?_
                      refine J_if_eq C (tgt := 144) dX6_copy_114 (by decide) (fun c114 => ?_) (fun c114 => absurd (by decide) c114)
                      refine J_aload_n C dX6_copy_144 rfl rfl ?_
                      refine J_iconst C (v := nI 3) dX6_copy_145 (by decide) ?_
                      refine J_callVi C (q0 := 0) (ci := 6) (N := 33) (As := [.int (nI 3)]) (c_X6_fails l Z _ (AsF A (nI 0)) hAz hk _) cw_RX6_94 wd_9_7 wd_9_8 rfl rfl rfl rfl (Nat.le_of_ble_eq_true rfl) rfl rfl (Nat.le_of_ble_eq_true rfl) (Nat.le_of_ble_eq_true rfl) dX6_copy_146 (fun r146 x146 hp146 => ?_)
                      obtain ⟨rfl, hA146⟩ := hp146
                      obtain ⟨hr146o, hH146o, hR146o, hT146, hF146⟩ := id hA146
                      first | have hr146 : MdR x146 A.1 := hr146o | have hr146 := hr146o
                      first | have hH146 : MH x146 A.2.1 := hH146o | have hH146 := hH146o
                      first | have hR146 : MR x146 A.2.2.1 := hR146o | have hR146 := hR146o
                      exact E dX6_copy_149 (⟨by rw [R_copy, if_pos c9, if_pos c16, tnk, tno, if_neg hn, if_neg hno1, if_pos (srt_inj hn hno1 gk.1 go.1 c61), copy_no hno]; decide, by rw [N_copy, if_pos c9, if_pos c16, tnk, tno, if_neg hn, if_neg hno1, if_pos (srt_inj hn hno1 gk.1 go.1 c61), copy_no hno]; exact hA146⟩)
                    · skip
                      obtain ⟨im, i0, i9, rfl⟩ := rng_nat2 (q := i) (A := 0) (B := A.2.1.2.1 kn) ⟨by have := nneg_i c71; omega, ngt_i (by omega) c91⟩
                      obtain ⟨jm, j0, j9, rfl⟩ := rng_nat2 (q := j) (A := 0) (B := A.2.1.2.1 on) ⟨by have := nneg_i c76; omega, ngt_i (by omega) c102⟩
                      obtain ⟨nm, n0, n9, rfl⟩ := rng_nat2 (q := n) (A := 0) (B := 2147483647) ⟨by have := nneg_i c81; omega, by have := Int32.toInt_lt n; omega⟩
                      have tni := tn_nI (n := im) (by omega)
                      have tnj := tn_nI (n := jm) (by omega)
                      have tnn := tn_nI (n := nm) (by omega)
                      refine J_iconst C (v := nI 1) dX6_copy_105 (by decide) ?_
                      refine J_goto (tgt := 110) C dX6_copy_106 (by decide) ?_
                      refine J_istore C (L' := [some (.ref (Z.2.1 0)), some (.int (nI kn)), some (.int (nI im)), some (.int (nI on)), some (.int (nI jm)), some (.int (nI nm)), some (.int (nI 1)), none, none, none]) dX6_copy_110 (by decide) rfl rfl ?_
                      refine J_iload C dX6_copy_112 rfl ?_
                      refine J_if_eq C (tgt := 144) dX6_copy_114 (by decide) (fun c114 => absurd c114 (by decide)) (fun c114 => ?_)
                      refine J_iload C dX6_copy_117 rfl ?_
                      refine J_aload_n C dX6_copy_119 rfl rfl ?_
                      refine G6_sheetLong C wd_3_19 dX6_copy_120 ?_
                      refine J_iload_n C dX6_copy_123 rfl rfl ?_
                      refine LM_sheetLong C (v := nI (A.2.1.2.1 kn)) (by omega) (((hH2 kn hkn).2 hn).1) dX6_copy_124 ?_
                      refine J_iload_n C dX6_copy_125 rfl rfl ?_
                      refine J_isub C (v := nI ((A.2.1.2.1 kn) - im)) dX6_copy_126 (pk_sub (a := A.2.1.2.1 kn) (b := im) (by omega)) ?_
                      refine J_icmp_gt_n C (tgt := 144) dX6_copy_127 (by decide) (by omega) (by omega) (fun c127 => ?_) (fun c127 => ?_)
                      · skip
                        have hno : ¬ (inH A.2.1 kn (nI im) (nI nm) ∧ inH A.2.1 on (nI jm) (nI nm)) := fun h => absurd (inH_nI i9 (by omega) (by omega) h.1) (by omega)
                        refine J_aload_n C dX6_copy_144 rfl rfl ?_
                        refine J_iconst C (v := nI 3) dX6_copy_145 (by decide) ?_
                        refine J_callVi C (q0 := 0) (ci := 6) (N := 33) (As := [.int (nI 3)]) (c_X6_fails l Z _ (AsF A (nI 0)) hAz hk _) cw_RX6_94 wd_9_7 wd_9_8 rfl rfl rfl rfl (Nat.le_of_ble_eq_true rfl) rfl rfl (Nat.le_of_ble_eq_true rfl) (Nat.le_of_ble_eq_true rfl) dX6_copy_146 (fun r146 x146 hp146 => ?_)
                        obtain ⟨rfl, hA146⟩ := hp146
                        obtain ⟨hr146o, hH146o, hR146o, hT146, hF146⟩ := id hA146
                        first | have hr146 : MdR x146 A.1 := hr146o | have hr146 := hr146o
                        first | have hH146 : MH x146 A.2.1 := hH146o | have hH146 := hH146o
                        first | have hR146 : MR x146 A.2.2.1 := hR146o | have hR146 := hR146o
                        exact E dX6_copy_149 (⟨by rw [R_copy, if_pos c9, if_pos c16, tnk, tno, if_neg hn, if_neg hno1, if_pos (srt_inj hn hno1 gk.1 go.1 c61), copy_no hno]; decide, by rw [N_copy, if_pos c9, if_pos c16, tnk, tno, if_neg hn, if_neg hno1, if_pos (srt_inj hn hno1 gk.1 go.1 c61), copy_no hno]; exact hA146⟩)
                      · skip
                        refine J_iload C dX6_copy_130 rfl ?_
                        refine J_aload_n C dX6_copy_132 rfl rfl ?_
                        refine G6_sheetLong C wd_3_19 dX6_copy_133 ?_
                        refine J_iload_n C dX6_copy_136 rfl rfl ?_
                        refine LM_sheetLong C (v := nI (A.2.1.2.1 on)) (by omega) (((hH2 on hon).2 hno1).1) dX6_copy_137 ?_
                        refine J_iload C dX6_copy_138 rfl ?_
                        refine J_isub C (v := nI ((A.2.1.2.1 on) - jm)) dX6_copy_140 (pk_sub (a := A.2.1.2.1 on) (b := jm) (by omega)) ?_
                        refine J_icmp_le_n C (tgt := 150) dX6_copy_141 (by decide) (by omega) (by omega) (fun c141 => ?_) (fun c141 => ?_)
                        · skip
                          have hi1 := nI_inH i9 (show nm ≤ A.2.1.2.1 kn - im by omega) (by omega)
                          have hi2 := nI_inH j9 (show nm ≤ A.2.1.2.1 on - jm by omega) (by omega)
                          refine J_iload_n C dX6_copy_150 rfl rfl ?_
                          refine J_iload C dX6_copy_151 rfl ?_
                          refine J_icmp_ge_n C (tgt := 160) dX6_copy_153 (by decide) (by omega) (by omega) (fun c153 => ?_) (fun c153 => ?_)
                          · skip
                            refine J_iconst C (v := nI 0) dX6_copy_160 (by decide) ?_
                            refine J_istore C (L' := [some (.ref (Z.2.1 0)), some (.int (nI kn)), some (.int (nI im)), some (.int (nI on)), some (.int (nI jm)), some (.int (nI nm)), some (.int (nI 1)), some (.int (nI 0)), none, none]) dX6_copy_161 (by decide) rfl rfl ?_
                            refine J_iconst C (v := nI 0) dX6_copy_163 (by decide) ?_
                            refine J_istore C (L' := [some (.ref (Z.2.1 0)), some (.int (nI kn)), some (.int (nI im)), some (.int (nI on)), some (.int (nI jm)), some (.int (nI nm)), some (.int (nI 1)), some (.int (nI 0)), some (.int (nI 0)), none]) dX6_copy_164 (by decide) rfl rfl ?_
                            have lp166 : ∀ (f : Nat) (q : Nat) (y : Mt), (q ≤ nm) → (y.1 = x0.1) → (∀ t, t ≠ 4 → y.2 t = x0.2 t) → (y.2 4 = cpv (x0.2 4) (60 * on + jm) (60 * kn + im) (0) (q)) → (nm - q < f) →  J Γ y 166 [some (.ref (Z.2.1 0)), some (.int (nI kn)), some (.int (nI im)), some (.int (nI on)), some (.int (nI jm)), some (.int (nI nm)), some (.int (nI 1)), some (.int (nI 0)), some (.int (nI q)), none] [] := by
                              intro f
                              induction f with
                              | zero =>
                                intro q y hq hyI hya hy4 hf
                                omega
                              | succ f ih166 =>
                                intro q y hq hyI hya hy4 hf
                                refine J_iload C dX6_copy_166 rfl ?_
                                refine J_iload C dX6_copy_168 rfl ?_
                                refine J_icmp_ge_n C (tgt := 227) dX6_copy_170 (by decide) (by omega) (by omega) (fun c170 => ?_) (fun c170 => ?_)
                                · skip
                                  refine J_iload C dX6_copy_227 rfl ?_
                                  exact E dX6_copy_229 (⟨by rw [R_copy, if_pos c9, if_pos c16, tnk, tno, if_neg hn, if_neg hno1, if_pos (srt_inj hn hno1 gk.1 go.1 c61), if_pos hi1, if_pos hi2], by rw [N_copy, if_pos c9, if_pos c16, tnk, tno, if_neg hn, if_neg hno1, if_pos (srt_inj hn hno1 gk.1 go.1 c61), if_pos hi1, if_pos hi2, tni, tnj, tnn]; exact absM_copy (A := AsF A (nI 0)) hAz hkn hon hn (fun u hu => (hkH u hu).2) (show im + nm ≤ A.2.1.2.1 kn by omega) (show jm + nm ≤ A.2.1.2.1 on by omega) hyI hya (hy4.trans (by congr 1; omega))⟩)
                                · skip
                                  refine J_iload C dX6_copy_173 rfl ?_
                                  refine J_if_eq C (tgt := 188) dX6_copy_175 (by decide) (fun c175 => ?_) (fun c175 => absurd (by decide) c175)
                                  refine J_iload C dX6_copy_188 rfl ?_
                                  refine J_istore C (L' := [some (.ref (Z.2.1 0)), some (.int (nI kn)), some (.int (nI im)), some (.int (nI on)), some (.int (nI jm)), some (.int (nI nm)), some (.int (nI 1)), some (.int (nI 0)), some (.int (nI q)), some (.int (nI q))]) dX6_copy_190 (by decide) rfl rfl ?_
                                  refine J_aload_n C dX6_copy_192 rfl rfl ?_
                                  refine G6_cells C wd_3_20 dX6_copy_193 ?_
                                  refine J_bipush C (v := nI 60) dX6_copy_196 (by decide) ?_
                                  refine J_iload_n C dX6_copy_198 rfl rfl ?_
                                  refine J_imul C (v := nI (60 * on)) dX6_copy_199 (pk_mul _ _) ?_
                                  refine J_iload C dX6_copy_200 rfl ?_
                                  refine J_iadd C (v := nI ((60 * on) + jm)) dX6_copy_202 (nI_add _ _) ?_
                                  refine J_iload C dX6_copy_203 rfl ?_
                                  refine J_iadd C (v := nI (((60 * on) + jm) + q)) dX6_copy_205 (nI_add _ _) ?_
                                  refine J_aload_n C dX6_copy_206 rfl rfl ?_
                                  refine G6_cells C wd_3_20 dX6_copy_207 ?_
                                  refine J_bipush C (v := nI 60) dX6_copy_210 (by decide) ?_
                                  refine J_iload_n C dX6_copy_212 rfl rfl ?_
                                  refine J_imul C (v := nI (60 * kn)) dX6_copy_213 (pk_mul _ _) ?_
                                  refine J_iload_n C dX6_copy_214 rfl rfl ?_
                                  refine J_iadd C (v := nI ((60 * kn) + im)) dX6_copy_215 (nI_add _ _) ?_
                                  refine J_iload C dX6_copy_216 rfl ?_
                                  refine J_iadd C (v := nI (((60 * kn) + im) + q)) dX6_copy_218 (nI_add _ _) ?_
                                  refine LM_cells C (by omega) rfl dX6_copy_219 ?_
                                  refine SM_cells C (by omega) dX6_copy_220 ?_
                                  refine J_iinc C (v := nI (q + 1)) (L' := [some (.ref (Z.2.1 0)), some (.int (nI kn)), some (.int (nI im)), some (.int (nI on)), some (.int (nI jm)), some (.int (nI nm)), some (.int (nI 1)), some (.int (nI 0)), some (.int (nI (q + 1))), some (.int (nI q))]) dX6_copy_221 rfl (nI_1 _) (by decide) rfl rfl ?_
                                  refine J_goto (tgt := 166) C dX6_copy_224 (by decide) ?_
                                  refine J_drop ?_ (ih166 (q + 1) (mA y 4 (upd (y.2 4) (((60 * on) + jm) + q) (y.2 4 (((60 * kn) + im) + q)))) (by omega) hyI (fun t ht => (mA_ne ht).trans (hya t ht)) (mA_eq.trans (cpv_f hy4 (by rcases Nat.lt_trichotomy kn on with h | h | h <;> omega))) (by omega))
                                  exact ⟨rfl, rfl, rfl, rfl, rfl, rfl, rfl, rfl, rfl, trivial⟩
                            refine J_drop ?_ (lp166 (nm + 1) 0 x0 (by omega) rfl (fun _ _ => rfl) (cpv_0 (by omega)) (by omega))
                            exact ⟨rfl, rfl, rfl, rfl, rfl, rfl, rfl, rfl, rfl, trivial⟩
                          · skip
                            refine J_iconst C (v := nI 1) dX6_copy_156 (by decide) ?_
                            refine J_goto (tgt := 161) C dX6_copy_157 (by decide) ?_
                            refine J_istore C (L' := [some (.ref (Z.2.1 0)), some (.int (nI kn)), some (.int (nI im)), some (.int (nI on)), some (.int (nI jm)), some (.int (nI nm)), some (.int (nI 1)), some (.int (nI 1)), none, none]) dX6_copy_161 (by decide) rfl rfl ?_
                            refine J_iconst C (v := nI 0) dX6_copy_163 (by decide) ?_
                            refine J_istore C (L' := [some (.ref (Z.2.1 0)), some (.int (nI kn)), some (.int (nI im)), some (.int (nI on)), some (.int (nI jm)), some (.int (nI nm)), some (.int (nI 1)), some (.int (nI 1)), some (.int (nI 0)), none]) dX6_copy_164 (by decide) rfl rfl ?_
                            have lp166 : ∀ (f : Nat) (q : Nat) (y : Mt), (q ≤ nm) → (y.1 = x0.1) → (∀ t, t ≠ 4 → y.2 t = x0.2 t) → (y.2 4 = cpv (x0.2 4) (60 * on + jm) (60 * kn + im) (nm - q) (nm)) → (nm - q < f) →  J Γ y 166 [some (.ref (Z.2.1 0)), some (.int (nI kn)), some (.int (nI im)), some (.int (nI on)), some (.int (nI jm)), some (.int (nI nm)), some (.int (nI 1)), some (.int (nI 1)), some (.int (nI q)), none] [] := by
                              intro f
                              induction f with
                              | zero =>
                                intro q y hq hyI hya hy4 hf
                                omega
                              | succ f ih166 =>
                                intro q y hq hyI hya hy4 hf
                                refine J_iload C dX6_copy_166 rfl ?_
                                refine J_iload C dX6_copy_168 rfl ?_
                                refine J_icmp_ge_n C (tgt := 227) dX6_copy_170 (by decide) (by omega) (by omega) (fun c170 => ?_) (fun c170 => ?_)
                                · skip
                                  refine J_iload C dX6_copy_227 rfl ?_
                                  exact E dX6_copy_229 (⟨by rw [R_copy, if_pos c9, if_pos c16, tnk, tno, if_neg hn, if_neg hno1, if_pos (srt_inj hn hno1 gk.1 go.1 c61), if_pos hi1, if_pos hi2], by rw [N_copy, if_pos c9, if_pos c16, tnk, tno, if_neg hn, if_neg hno1, if_pos (srt_inj hn hno1 gk.1 go.1 c61), if_pos hi1, if_pos hi2, tni, tnj, tnn]; exact absM_copy (A := AsF A (nI 0)) hAz hkn hon hn (fun u hu => (hkH u hu).2) (show im + nm ≤ A.2.1.2.1 kn by omega) (show jm + nm ≤ A.2.1.2.1 on by omega) hyI hya (hy4.trans (by congr 1; omega))⟩)
                                · skip
                                  refine J_iload C dX6_copy_173 rfl ?_
                                  refine J_if_eq C (tgt := 188) dX6_copy_175 (by decide) (fun c175 => absurd c175 (by decide)) (fun c175 => ?_)
                                  refine J_iload C dX6_copy_178 rfl ?_
                                  refine J_iconst C (v := nI 1) dX6_copy_180 (by decide) ?_
                                  refine J_isub C (v := nI (nm - 1)) dX6_copy_181 (pk_sub (a := nm) (b := 1) (by omega)) ?_
                                  refine J_iload C dX6_copy_182 rfl ?_
                                  refine J_isub C (v := nI ((nm - 1) - q)) dX6_copy_184 (pk_sub (a := nm - 1) (b := q) (by omega)) ?_
                                  refine J_goto (tgt := 190) C dX6_copy_185 (by decide) ?_
                                  refine J_istore C (L' := [some (.ref (Z.2.1 0)), some (.int (nI kn)), some (.int (nI im)), some (.int (nI on)), some (.int (nI jm)), some (.int (nI nm)), some (.int (nI 1)), some (.int (nI 1)), some (.int (nI q)), some (.int (nI ((nm - 1) - q)))]) dX6_copy_190 (by decide) rfl rfl ?_
                                  refine J_aload_n C dX6_copy_192 rfl rfl ?_
                                  refine G6_cells C wd_3_20 dX6_copy_193 ?_
                                  refine J_bipush C (v := nI 60) dX6_copy_196 (by decide) ?_
                                  refine J_iload_n C dX6_copy_198 rfl rfl ?_
                                  refine J_imul C (v := nI (60 * on)) dX6_copy_199 (pk_mul _ _) ?_
                                  refine J_iload C dX6_copy_200 rfl ?_
                                  refine J_iadd C (v := nI ((60 * on) + jm)) dX6_copy_202 (nI_add _ _) ?_
                                  refine J_iload C dX6_copy_203 rfl ?_
                                  refine J_iadd C (v := nI (((60 * on) + jm) + ((nm - 1) - q))) dX6_copy_205 (nI_add _ _) ?_
                                  refine J_aload_n C dX6_copy_206 rfl rfl ?_
                                  refine G6_cells C wd_3_20 dX6_copy_207 ?_
                                  refine J_bipush C (v := nI 60) dX6_copy_210 (by decide) ?_
                                  refine J_iload_n C dX6_copy_212 rfl rfl ?_
                                  refine J_imul C (v := nI (60 * kn)) dX6_copy_213 (pk_mul _ _) ?_
                                  refine J_iload_n C dX6_copy_214 rfl rfl ?_
                                  refine J_iadd C (v := nI ((60 * kn) + im)) dX6_copy_215 (nI_add _ _) ?_
                                  refine J_iload C dX6_copy_216 rfl ?_
                                  refine J_iadd C (v := nI (((60 * kn) + im) + ((nm - 1) - q))) dX6_copy_218 (nI_add _ _) ?_
                                  refine LM_cells C (by omega) rfl dX6_copy_219 ?_
                                  refine SM_cells C (by omega) dX6_copy_220 ?_
                                  refine J_iinc C (v := nI (q + 1)) (L' := [some (.ref (Z.2.1 0)), some (.int (nI kn)), some (.int (nI im)), some (.int (nI on)), some (.int (nI jm)), some (.int (nI nm)), some (.int (nI 1)), some (.int (nI 1)), some (.int (nI (q + 1))), some (.int (nI ((nm - 1) - q)))]) dX6_copy_221 rfl (nI_1 _) (by decide) rfl rfl ?_
                                  refine J_goto (tgt := 166) C dX6_copy_224 (by decide) ?_
                                  refine J_drop ?_ (ih166 (q + 1) (mA y 4 (upd (y.2 4) (((60 * on) + jm) + ((nm - 1) - q)) (y.2 4 (((60 * kn) + im) + ((nm - 1) - q))))) (by omega) hyI (fun t ht => (mA_ne ht).trans (hya t ht)) (mA_eq.trans (cpv_b hy4 (by omega) (by rcases Nat.lt_trichotomy kn on with h | h | h <;> omega))) (by omega))
                                  exact ⟨rfl, rfl, rfl, rfl, rfl, rfl, rfl, rfl, rfl, trivial⟩
                            refine J_drop ?_ (lp166 (nm + 1) 0 x0 (by omega) rfl (fun _ _ => rfl) (cpv_0 (by omega)) (by omega))
                            exact ⟨rfl, rfl, rfl, rfl, rfl, rfl, rfl, rfl, rfl, trivial⟩
                        · skip
                          have hno : ¬ (inH A.2.1 kn (nI im) (nI nm) ∧ inH A.2.1 on (nI jm) (nI nm)) := fun h => absurd (inH_nI j9 (by omega) (by omega) h.2) (by omega)
                          refine J_aload_n C dX6_copy_144 rfl rfl ?_
                          refine J_iconst C (v := nI 3) dX6_copy_145 (by decide) ?_
                          refine J_callVi C (q0 := 0) (ci := 6) (N := 33) (As := [.int (nI 3)]) (c_X6_fails l Z _ (AsF A (nI 0)) hAz hk _) cw_RX6_94 wd_9_7 wd_9_8 rfl rfl rfl rfl (Nat.le_of_ble_eq_true rfl) rfl rfl (Nat.le_of_ble_eq_true rfl) (Nat.le_of_ble_eq_true rfl) dX6_copy_146 (fun r146 x146 hp146 => ?_)
                          obtain ⟨rfl, hA146⟩ := hp146
                          obtain ⟨hr146o, hH146o, hR146o, hT146, hF146⟩ := id hA146
                          first | have hr146 : MdR x146 A.1 := hr146o | have hr146 := hr146o
                          first | have hH146 : MH x146 A.2.1 := hH146o | have hH146 := hH146o
                          first | have hR146 : MR x146 A.2.2.1 := hR146o | have hR146 := hR146o
                          exact E dX6_copy_149 (⟨by rw [R_copy, if_pos c9, if_pos c16, tnk, tno, if_neg hn, if_neg hno1, if_pos (srt_inj hn hno1 gk.1 go.1 c61), copy_no hno]; decide, by rw [N_copy, if_pos c9, if_pos c16, tnk, tno, if_neg hn, if_neg hno1, if_pos (srt_inj hn hno1 gk.1 go.1 c61), copy_no hno]; exact hA146⟩)
          · skip
            refine J_aload_n C dX6_copy_64 rfl rfl ?_
            refine J_iconst C (v := nI 2) dX6_copy_65 (by decide) ?_
            refine J_callVi C (q0 := 0) (ci := 6) (N := 33) (As := [.int (nI 2)]) (c_X6_fails l Z _ (AsF A (nI 0)) hAz hk _) cw_RX6_94 wd_9_7 wd_9_8 rfl rfl rfl rfl (Nat.le_of_ble_eq_true rfl) rfl rfl (Nat.le_of_ble_eq_true rfl) (Nat.le_of_ble_eq_true rfl) dX6_copy_66 (fun r66 x66 hp66 => ?_)
            obtain ⟨rfl, hA66⟩ := hp66
            obtain ⟨hr66o, hH66o, hR66o, hT66, hF66⟩ := id hA66
            first | have hr66 : MdR x66 A.1 := hr66o | have hr66 := hr66o
            first | have hH66 : MH x66 A.2.1 := hH66o | have hH66 := hH66o
            first | have hR66 : MR x66 A.2.2.1 := hR66o | have hR66 := hR66o
            exact E dX6_copy_69 (⟨by rw [R_copy, if_pos c9, if_pos c16, tnk, tno, if_neg hn, if_neg hno1, if_neg (fun h => c61 (srt_inj2 h))] <;> first | rfl | decide, by rw [N_copy, if_pos c9, if_pos c16, tnk, tno, if_neg hn, if_neg hno1, if_neg (fun h => c61 (srt_inj2 h))]; exact hA66⟩)
        · skip
          refine J_aload_n C dX6_copy_43 rfl rfl ?_
          refine J_iconst C (v := nI 1) dX6_copy_44 (by decide) ?_
          refine J_callVi C (q0 := 0) (ci := 6) (N := 33) (As := [.int (nI 1)]) (c_X6_fails l Z _ (AsF A (nI 0)) hAz hk _) cw_RX6_94 wd_9_7 wd_9_8 rfl rfl rfl rfl (Nat.le_of_ble_eq_true rfl) rfl rfl (Nat.le_of_ble_eq_true rfl) (Nat.le_of_ble_eq_true rfl) dX6_copy_45 (fun r45 x45 hp45 => ?_)
          obtain ⟨rfl, hA45⟩ := hp45
          obtain ⟨hr45o, hH45o, hR45o, hT45, hF45⟩ := id hA45
          first | have hr45 : MdR x45 A.1 := hr45o | have hr45 := hr45o
          first | have hH45 : MH x45 A.2.1 := hH45o | have hH45 := hH45o
          first | have hR45 : MR x45 A.2.2.1 := hR45o | have hR45 := hR45o
          exact E dX6_copy_48 (⟨by rw [R_copy, if_pos c9, if_pos c16, tnk, tno, if_neg hn, if_pos (srt_0 go.1 c40)] <;> first | rfl | decide, by rw [N_copy, if_pos c9, if_pos c16, tnk, tno, if_neg hn, if_pos (srt_0 go.1 c40)]; exact hA45⟩)
    · skip
      refine J_iconst C (v := (-1)) dX6_copy_19 (by decide) ?_
      exact E dX6_copy_20 (⟨by rw [R_copy, if_pos c9, if_neg c16] <;> first | rfl | decide, by rw [N_copy, if_pos c9, if_neg c16]; exact hAz⟩)
