/-! THE CLAIM OUT OF ONE WALK OF THE LAW'S BODY. Your part is whole_start (and what it stands on); all else here is the same for every law, but numbers. -/
def lw_P (b : Addr) (xs : List Int32) (args : Array Value) (s : State) : Prop := args = #[.ref b] ∧ s.IntsAt b xs ∧ xs.length ≤ 448 ∧ (Jvm.Cond.and given_1 narrow_1).before args s = true
def lw_Q (_ : Array Value) (s : State) (o : Outcome) (t : State) : Prop := o = .returned (some (.int 1)) ∧ Framed s o t [] 600000 7302250
def lw_Z (below : List Frame) (a : Array Value) (s : State) : State → Prop := fun t => ∃ o, t.status = .running ∧ Ended t below o ∧ lw_Q a s o t
/-- the law's own end, with 1 on the stack, nothing written that was there before, its room as the claim has it -/
theorem lw_ret {p : Program} {l : Launch} {e : Env} {s : State} {m : MethodId} {below : List Frame} {meth : Method} {c : Code} {b : Nat} (hx : p.tables.exec = Jvm.exec) (hb : c.code = code) (hr : meth.sig.returnType = ret) (hlocks : meth.locks = false) {pc : Nat} {H : Heap} {ls : Array Slot} (hdg : decode code pc = .ok (.ireturn, 1)) : W p l e room_1 s m #[Value.ref b] below meth c H [] 600000 7302250 (lw_Z below #[Value.ref b] s) (F0 m pc ls [.int 1]) := by
  intro T hT X
  obtain ⟨fs, hret, hrun, hended, hW, hframe⟩ := X.leave (v := some (.int 1)) (hlocks := hlocks) (fun h => by rw [hr] at h; cases h)
  have hmeth' : T.vm.method? m = some meth := X.method'
  refine ⟨T.setFrames fs, ?_, .returned (some (.int 1)), hrun, hended, rfl, ⟨_, rfl⟩, hW, hframe⟩
  jvm_step X.here [X.here.top, hx, hb, hdg, hmeth', hr, ret, narrow_b1]
  (try refine ⟨rfl, ?_⟩); (try refine ⟨rfl, ?_⟩)
  first | (intro acts; rw [hret _ acts rfl rfl rfl]) | rw [hret _ _ rfl rfl rfl]
  exact Steps.refl _
/-- what holds at the law's entry: the machine, the code, the tables' words (any of lw_tbl by 'hts w (by decide +kernel)'), the script of L ints xs at the cell b, what the Statement gives of the start (any of its parts by flat_of_before) -/
def lw_At (p : Program) (s : State) (m : MethodId) (meth : Method) (c : Code) (b L : Nat) (xs : Nat → Int32) : Prop :=
  p.tables.exec = Jvm.exec ∧ c.code = code ∧ meth.sig.returnType = ret ∧ c.maxLocals = 4 ∧ s.vm.findClass RL = some m.cls ∧ (∀ w ∈ lw_tbl, w.before #[Value.ref b] s = true) ∧ va_X b L xs s s.heap ∧ b < s.heap.size ∧ meth.locks = false ∧ (Jvm.Cond.and given_1 narrow_1).before #[Value.ref b] s = true
-- the loop
set_option maxRecDepth 20000 in
theorem law_loop {l0 : Launch} {Z : EC} {aM : Nat → Nat} {Γ : CTY} {b Ln : Nat} {xs : Nat → Int32} (C : CY l0 Z Γ cL_law RL room_1 4) (X : XY Γ b Ln xs) (hLn : Ln ≤ 448) (E : ∀ (ws : va_W) (L : List (Option Value)), YJ Γ ws 600000 7302250 1425 L [.int 1]) : ∀ (f i : Nat), i ≤ Ln + 6 → Ln + 7 ≤ f + i → ∀ (x : St) (y : Mt) (A : AB), AbsC x A → AbsM y A → AOK A → YJ Γ (wM (Z.1, aM, Z.2.2) y ++ wC Z x) 600000 7302250 18 [some (.ref b), some (.ref (Z.2.1 0)), some (.ref (aM 0)), some (.int (nI i))] [] := by
  intro f
  induction f with
  | zero => intro i h1 h2; omega
  | succ f ih =>
    intro i h1 h2 x y A hA hM hk
    refine Y_iload_n C dL_law_18 rfl rfl ?_
    refine Y_aload_n C dL_law_19 rfl rfl ?_
    refine Y_slen C X dL_law_20 ?_
    refine Y_bipush C (v := nI 7) dL_law_21 (by decide) ?_
    refine Y_isub C dL_law_23 rfl ?_
    have e1 : (nI Ln - nI 7).toInt = (Ln : Int) - 7 := pk_sub_toInt (a := Ln) (b := 7) (by omega) (by omega)
    have e2 : (nI i).toInt = (i : Int) := nI_i (by omega)
    refine Y_icmp_gt (tgt := 1424) C dL_law_24 (by decide) (fun _ => ?_) (fun h => ?_)
    · exact Y_iconst C (v := 1) dL_law_1424 (by decide) (E _ _)
    · rw [lt_i, e1, e2] at h
      have hi : i + 7 ≤ Ln := by omega
      refine Y_aload_n C dL_law_27 rfl rfl ?_
      refine Y_iload_n C dL_law_28 rfl rfl ?_
      refine Y_sld C X (j := i) (by omega) (by omega) rfl dL_law_29 ?_
      refine Y_bipush C (v := nI 63) dL_law_30 (by decide) ?_
      refine Y_iand C (v := xs i &&& nI 63) dL_law_32 rfl ?_
      generalize xs i &&& nI 63 = v
      have kk : ∀ (x1 : St) (y1 : Mt) (A1 : AB), AbsC x1 A1 → AbsM y1 A1 → AOK A1 → YJ Γ (wM (Z.1, aM, Z.2.2) y1 ++ wC Z x1) 600000 7302250 1418 [some (.ref b), some (.ref (Z.2.1 0)), some (.ref (aM 0)), some (.int (nI i))] [] := by
        intro x1 y1 A1 hA1 hM1 hk1
        refine Y_iinc (v := nI (i + 7)) (L' := [some (.ref b), some (.ref (Z.2.1 0)), some (.ref (aM 0)), some (.int (nI (i + 7)))]) C dL_law_1418 rfl (nI_add i 7) (by decide) rfl rfl ?_
        refine Y_goto (tgt := 18) C dL_law_1421 (by decide) ?_
        exact ih (i + 7) (by omega) (by omega) x1 y1 A1 hA1 hM1 hk1
      by_cases hv : v.toInt < 0 ∨ 37 < v.toInt
      · exact Y_tabOut (tgt := 1418) C dL_law_33 hv (by decide) (kk x y A hA hM hk)
      · obtain ⟨c, hc, q⟩ : ∃ c : Nat, c < 38 ∧ v.toInt = (c : Int) := ⟨v.toInt.toNat, by omega, by omega⟩
        match c, hc, q with
        | 0, _, q => exact Y_tabIn (off := 167) (tgt := 200) C dL_law_33 (by rw [q]; decide) (by rw [q]; decide) (by rw [q]; rfl) (by decide) (lc_shore C X hLn hi hA hM hk kk)
        | 1, _, q => exact Y_tabIn (off := 220) (tgt := 253) C dL_law_33 (by rw [q]; decide) (by rw [q]; decide) (by rw [q]; rfl) (by decide) (lc_ofPool C X hLn hi hA hM hk kk)
        | 2, _, q => exact Y_tabIn (off := 253) (tgt := 286) C dL_law_33 (by rw [q]; decide) (by rw [q]; decide) (by rw [q]; rfl) (by decide) (lc_ofMember C X hLn hi hA hM hk kk)
        | 3, _, q => exact Y_tabIn (off := 286) (tgt := 319) C dL_law_33 (by rw [q]; decide) (by rw [q]; decide) (by rw [q]; rfl) (by decide) (lc_raise C X hLn hi hA hM hk kk)
        | 4, _, q => exact Y_tabIn (off := 319) (tgt := 352) C dL_law_33 (by rw [q]; decide) (by rw [q]; decide) (by rw [q]; rfl) (by decide) (lc_sway C X hLn hi hA hM hk kk)
        | 5, _, q => exact Y_tabIn (off := 352) (tgt := 385) C dL_law_33 (by rw [q]; decide) (by rw [q]; decide) (by rw [q]; rfl) (by decide) (lc_seat C X hLn hi hA hM hk kk)
        | 6, _, q => exact Y_tabIn (off := 385) (tgt := 418) C dL_law_33 (by rw [q]; decide) (by rw [q]; decide) (by rw [q]; rfl) (by decide) (lc_flow C X hLn hi hA hM hk kk)
        | 7, _, q => exact Y_tabIn (off := 408) (tgt := 441) C dL_law_33 (by rw [q]; decide) (by rw [q]; decide) (by rw [q]; rfl) (by decide) (lc_calm C X hLn hi hA hM hk kk)
        | 8, _, q => exact Y_tabIn (off := 431) (tgt := 464) C dL_law_33 (by rw [q]; decide) (by rw [q]; decide) (by rw [q]; rfl) (by decide) (lc_leap C X hLn hi hA hM hk kk)
        | 9, _, q => exact Y_tabIn (off := 454) (tgt := 487) C dL_law_33 (by rw [q]; decide) (by rw [q]; decide) (by rw [q]; rfl) (by decide) (lc_washed C X hLn hi hA hM hk kk)
        | 10, _, q => exact Y_tabIn (off := 477) (tgt := 510) C dL_law_33 (by rw [q]; decide) (by rw [q]; decide) (by rw [q]; rfl) (by decide) (lc_carried C X hLn hi hA hM hk kk)
        | 11, _, q => exact Y_tabIn (off := 510) (tgt := 543) C dL_law_33 (by rw [q]; decide) (by rw [q]; decide) (by rw [q]; rfl) (by decide) (lc_tide C X hLn hi hA hM hk kk)
        | 12, _, q => exact Y_tabIn (off := 533) (tgt := 566) C dL_law_33 (by rw [q]; decide) (by rw [q]; decide) (by rw [q]; rfl) (by decide) (lc_ayes C X hLn hi hA hM hk kk)
        | 13, _, q => exact Y_tabIn (off := 556) (tgt := 589) C dL_law_33 (by rw [q]; decide) (by rw [q]; decide) (by rw [q]; rfl) (by decide) (lc_passes C X hLn hi hA hM hk kk)
        | 14, _, q => exact Y_tabIn (off := 579) (tgt := 612) C dL_law_33 (by rw [q]; decide) (by rw [q]; decide) (by rw [q]; rfl) (by decide) (lc_law C X hLn hi hA hM hk kk)
        | 15, _, q => exact Y_tabIn (off := 602) (tgt := 635) C dL_law_33 (by rw [q]; decide) (by rw [q]; decide) (by rw [q]; rfl) (by decide) (lc_year C X hLn hi hA hM hk kk)
        | 16, _, q => exact Y_tabIn (off := 665) (tgt := 698) C dL_law_33 (by rw [q]; decide) (by rw [q]; decide) (by rw [q]; rfl) (by decide) (lc_best C X hLn hi hA hM hk kk)
        | 17, _, q => exact Y_tabIn (off := 688) (tgt := 721) C dL_law_33 (by rw [q]; decide) (by rw [q]; decide) (by rw [q]; rfl) (by decide) (lc_turn C X hLn hi hA hM hk kk)
        | 18, _, q => exact Y_tabIn (off := 711) (tgt := 744) C dL_law_33 (by rw [q]; decide) (by rw [q]; decide) (by rw [q]; rfl) (by decide) (lc_drift C X hLn hi hA hM hk kk)
        | 19, _, q => exact Y_tabIn (off := 786) (tgt := 819) C dL_law_33 (by rw [q]; decide) (by rw [q]; decide) (by rw [q]; rfl) (by decide) (lc_leaps C X hLn hi hA hM hk kk)
        | 20, _, q => exact Y_tabIn (off := 829) (tgt := 862) C dL_law_33 (by rw [q]; decide) (by rw [q]; decide) (by rw [q]; rfl) (by decide) (lc_elect C X hLn hi hA hM hk kk)
        | 21, _, q => exact Y_tabIn (off := 872) (tgt := 905) C dL_law_33 (by rw [q]; decide) (by rw [q]; decide) (by rw [q]; rfl) (by decide) (lc_reading C X hLn hi hA hM hk kk)
        | 22, _, q => exact Y_tabIn (off := 915) (tgt := 948) C dL_law_33 (by rw [q]; decide) (by rw [q]; decide) (by rw [q]; rfl) (by decide) (lc_back C X hLn hi hA hM hk kk)
        | 23, _, q => exact Y_tabIn (off := 938) (tgt := 971) C dL_law_33 (by rw [q]; decide) (by rw [q]; decide) (by rw [q]; rfl) (by decide) (lc_heights C X hLn hi hA hM hk kk)
        | 24, _, q => exact Y_tabIn (off := 961) (tgt := 994) C dL_law_33 (by rw [q]; decide) (by rw [q]; decide) (by rw [q]; rfl) (by decide) (lc_kinds C X hLn hi hA hM hk kk)
        | 25, _, q => exact Y_tabIn (off := 984) (tgt := 1017) C dL_law_33 (by rw [q]; decide) (by rw [q]; decide) (by rw [q]; rfl) (by decide) (lc_streams C X hLn hi hA hM hk kk)
        | 26, _, q => exact Y_tabIn (off := 997) (tgt := 1030) C dL_law_33 (by rw [q]; decide) (by rw [q]; decide) (by rw [q]; rfl) (by decide) (lc_odds C X hLn hi hA hM hk kk)
        | 27, _, q => exact Y_tabIn (off := 1041) (tgt := 1074) C dL_law_33 (by rw [q]; decide) (by rw [q]; decide) (by rw [q]; rfl) (by decide) (lc_sheet C X hLn hi hA hM hk kk)
        | 28, _, q => exact Y_tabIn (off := 1084) (tgt := 1117) C dL_law_33 (by rw [q]; decide) (by rw [q]; decide) (by rw [q]; rfl) (by decide) (lc_lose C X hLn hi hA hM hk kk)
        | 29, _, q => exact Y_tabIn (off := 1107) (tgt := 1140) C dL_law_33 (by rw [q]; decide) (by rw [q]; decide) (by rw [q]; rfl) (by decide) (lc_put C X hLn hi hA hM hk kk)
        | 30, _, q => exact Y_tabIn (off := 1150) (tgt := 1183) C dL_law_33 (by rw [q]; decide) (by rw [q]; decide) (by rw [q]; rfl) (by decide) (lc_cell C X hLn hi hA hM hk kk)
        | 31, _, q => exact Y_tabIn (off := 1194) (tgt := 1227) C dL_law_33 (by rw [q]; decide) (by rw [q]; decide) (by rw [q]; rfl) (by decide) (lc_copy C X hLn hi hA hM hk kk)
        | 32, _, q => exact Y_tabIn (off := 1257) (tgt := 1290) C dL_law_33 (by rw [q]; decide) (by rw [q]; decide) (by rw [q]; rfl) (by decide) (lc_tell C X hLn hi hA hM hk kk)
        | 33, _, q => exact Y_tabIn (off := 1280) (tgt := 1313) C dL_law_33 (by rw [q]; decide) (by rw [q]; decide) (by rw [q]; rfl) (by decide) (lc_name C X hLn hi hA hM hk kk)
        | 34, _, q => exact Y_tabIn (off := 1303) (tgt := 1336) C dL_law_33 (by rw [q]; decide) (by rw [q]; decide) (by rw [q]; rfl) (by decide) (lc_as C X hLn hi hA hM hk kk)
        | 35, _, q => exact Y_tabIn (off := 1336) (tgt := 1369) C dL_law_33 (by rw [q]; decide) (by rw [q]; decide) (by rw [q]; rfl) (by decide) (lc_trace C X hLn hi hA hM hk kk)
        | 36, _, q => exact Y_tabIn (off := 1349) (tgt := 1382) C dL_law_33 (by rw [q]; decide) (by rw [q]; decide) (by rw [q]; rfl) (by decide) (lc_fault C X hLn hi hA hM hk kk)
        | 37, _, q => exact Y_tabIn (off := 1362) (tgt := 1395) C dL_law_33 (by rw [q]; decide) (by rw [q]; decide) (by rw [q]; rfl) (by decide) (lc_many C X hLn hi hA hM hk kk)
        | c + 38, hc, _ => exact absurd hc (by omega)
-- the start
theorem NWs_in : ∀ w ∈ NWs, w ∈ lw_tbl := List.forall_mem_cons.mpr ⟨List.mem_of_getElem? (i := 80) (by decide +kernel), List.forall_mem_cons.mpr ⟨List.mem_of_getElem? (i := 104) (by decide +kernel), List.forall_mem_cons.mpr ⟨List.mem_of_getElem? (i := 123) (by decide +kernel), List.forall_mem_cons.mpr ⟨List.mem_of_getElem? (i := 143) (by decide +kernel), List.forall_mem_cons.mpr ⟨List.mem_of_getElem? (i := 171) (by decide +kernel), List.forall_mem_cons.mpr ⟨List.mem_of_getElem? (i := 261) (by decide +kernel), List.forall_mem_cons.mpr ⟨List.mem_of_getElem? (i := 290) (by decide +kernel), List.forall_mem_cons.mpr ⟨List.mem_of_getElem? (i := 433) (by decide +kernel), List.forall_mem_cons.mpr ⟨List.mem_of_getElem? (i := 570) (by decide +kernel), fun _ h => absurd h List.not_mem_nil⟩⟩⟩⟩⟩⟩⟩⟩⟩
theorem AO_in : Cond.arrayOver (.object "TideSeats$Sheet") ∈ lw_tbl := List.mem_of_getElem? (i := 78) (by decide +kernel)
theorem AA_in : Cond.arrayOver (.array .int) ∈ lw_tbl := List.mem_of_getElem? (i := 148) (by decide +kernel)
set_option maxHeartbeats 2000000 in
set_option maxRecDepth 100000 in
theorem whole_start {p : Program} {e : Env} {s : State} {m : MethodId} {below : List Frame} {meth : Method} {c : Code} (l : Launch) (hflags : l.flags = flags0) {b L : Nat} {xs : Nat → Int32} (hL : L ≤ 448) (C0 : lw_At p s m meth c b L xs) : W p l e room_1 s m #[Value.ref b] below meth c s.heap [] 0 0 (lw_Z below #[Value.ref b] s) (entryFrame m ([Value.ref b] : List Value).toArray 4) := by
  obtain ⟨hx, hb, hr, hml, hown, hts, hX, hbl, hlocks, hgv⟩ := id C0
  have hts2 : ∀ w ∈ wsL_law, w.before #[Value.ref b] s = true := fun w hw => hts w (wsL_law_in w hw)
  have hNW : NW s := fun w hw => va_Nw.of (NWs_on w hw) (hts w (NWs_in w hw))
  have hAO : va_AO "TideSeats$Sheet" s := va_AO.of (hts _ AO_in)
  have hAA : va_AOA .int s := va_AOA.of (hts _ AA_in)
  obtain ⟨k0, i0, hK0⟩ := u_known (C := RX0) (T := TX0) (N := 4) (n := 4) hts2 inlX0 (hts2 _ wd_1_17)
  obtain ⟨k1, i1, hK1⟩ := u_known (C := RX1) (T := TX1) (N := 4) (n := 4) hts2 inlX1 (hts2 _ wd_1_21)
  obtain ⟨k2, i2, hK2⟩ := u_known (C := RX2) (T := TX2) (N := 6) (n := 6) hts2 inlX2 (hts2 _ wd_2_1)
  obtain ⟨k3, i3, hK3⟩ := u_known (C := RX3) (T := TX3) (N := 4) (n := 4) hts2 inlX3 (hts2 _ wd_1_14)
  obtain ⟨k4, i4, hK4⟩ := u_known (C := RX4) (T := TX4) (N := 10) (n := 10) hts2 inlX4 (hts2 _ wd_2_5)
  obtain ⟨k5, i5, hK5⟩ := u_known (C := RX5) (T := TX5) (N := 8) (n := 8) hts2 inlX5 (hts2 _ wd_1_1)
  obtain ⟨k6, i6, hK6⟩ := u_known (C := RX6) (T := TX6) (N := 33) (n := 33) hts2 inlX6 (hts2 _ wd_1_4)
  obtain ⟨cI, kI, compI, f1, f2, f3⟩ := Cond.arrayClass_spec (hts2 _ wd_2_12)
  obtain ⟨compS, cS, kS, g1, g2, g3, g4, g5⟩ := Cond.arrayOver_spec (hts _ AO_in)
  obtain ⟨compA, cA, kA, h1, h2, h3, h4⟩ := Cond.arrayOver_specA (hts _ AA_in)
  have hKc : ∀ (k : Nat) (q : vw_C), vwCl[k]? = some q → u_Kn s q.1 q.2.1 q.2.2 (([k0, k1, k2, k3, k4, k5, k6] : List ClassId).getD k k0) (([i0, i1, i2, i3, i4, i5, i6] : List (Nat → Nat)).getD k i0) := fun k q hq => match k, hq with
    | 0, hq => by cases hq; exact hK0
    | 1, hq => by cases hq; exact hK1
    | 2, hq => by cases hq; exact hK2
    | 3, hq => by cases hq; exact hK3
    | 4, hq => by cases hq; exact hK4
    | 5, hq => by cases hq; exact hK5
    | 6, hq => by cases hq; exact hK6
    | k + 7, hq => by simp [vwCl] at hq
  obtain ⟨dC, hdC⟩ : ∃ dC : Nat → ClassId, dC = fun k => ([k0, k1, k2, k3, k4, k5, k6] : List ClassId).getD k k0 := ⟨_, rfl⟩
  obtain ⟨dI, hdI⟩ : ∃ dI : Nat → Nat → Nat, dI = fun k => ([i0, i1, i2, i3, i4, i5, i6] : List (Nat → Nat)).getD k i0 := ⟨_, rfl⟩
  have hKd : ∀ (k : Nat) (q : vw_C), vwCl[k]? = some q → u_Kn s q.1 q.2.1 q.2.2 (dC k) (dI k) := fun k q hq => by rw [hdC, hdI]; exact hKc k q hq
  have hK : va_K (dC, dI) vwCl (tyZ ((dC, dI), (fun _ => 0), cI, cS, cA)) s := ⟨hKd, fun k q hq => match k, hq with
    | 0, hq => by
      have hq2 : some (cI, FieldType.int) = some q := hq
      cases hq2
      exact ⟨fun n z => ⟨fun k h => (by cases h), kI, f2, compI, f3⟩, f1⟩
    | 1, hq => by
      have hq2 : some (cS, FieldType.object "TideSeats$Sheet") = some q := hq
      cases hq2
      exact ⟨fun n z => ⟨fun k h => (by cases h), kS, g3, compS, g4⟩, ⟨kS, compS, g3, g4, g1, g5⟩⟩
    | 2, hq => by
      have hq2 : some (cA, FieldType.array .int) = some q := hq
      cases hq2
      exact ⟨fun n z => ⟨fun k h => (by cases h), kA, h2, compA, h3⟩, h4⟩
    | k + 3, hq => by simp [tyZ] at hq⟩
  have C : CY l ((dC, dI), (fun _ => 0), cI, cS, cA) (p, l, e, room_1, s, m, #[Value.ref b], below, meth, c, lw_Z below #[Value.ref b] s, (fun q : Nat => s.heap.size ≤ q), s.heap, 4, (dC, dI)) cL_law RL room_1 4 := ⟨hx, hb, hml, rfl, hown, hts2, hK, fun _ h => h, rfl, rfl, rfl, hNW, hAO, hAA⟩
  have X : XY (p, l, e, room_1, s, m, #[Value.ref b], below, meth, c, lw_Z below #[Value.ref b] s, (fun q : Nat => s.heap.size ≤ q), s.heap, 4, (dC, dI)) b L xs := ⟨hX, hbl, Nat.not_le.mpr hbl⟩
  have E : ∀ (ws : va_W) (L1 : List (Option Value)), YJ (p, l, e, room_1, s, m, #[Value.ref b], below, meth, c, lw_Z below #[Value.ref b] s, (fun q : Nat => s.heap.size ≤ q), s.heap, 4, (dC, dI)) ws 600000 7302250 1425 L1 [.int 1] := by
    intro ws L1 H locs ls hP hD hS hL
    exact va_forget hS.2.2 (lw_ret hx hb hr hlocks dL_law_1425)
  have K : YJ (p, l, e, room_1, s, m, #[Value.ref b], below, meth, c, lw_Z below #[Value.ref b] s, (fun q : Nat => s.heap.size ≤ q), s.heap, 4, (dC, dI)) [] 0 0 0 [some (.ref b), none, none, none] [] := by
    generalize (p, l, e, room_1, s, m, #[Value.ref b], below, meth, c, lw_Z below #[Value.ref b] s, (fun q : Nat => s.heap.size ≤ q), s.heap, 4, (dC, dI)) = Γ at C X E ⊢
    refine Y_new C inlX5 tyX5 tyX5_ok wd_1_0 wd_1_1 wd_1_2 (ci := 5) rfl (fs := [.null, .null, .null, .null, .null, .null, .int 0, .int 0]) hfs_5 (Nat.le_of_ble_eq_true rfl) (Nat.le_of_ble_eq_true rfl) dL_law_0 (fun q => ?_)
    refine Y_dup C dL_law_3 rfl ?_
    refine Y_callI C (c_X5_init l _ q) cw_RL_9 rfl wd_1_7 (Nat.le_of_ble_eq_true rfl) (Nat.le_of_ble_eq_true rfl) (Nat.le_of_ble_eq_true rfl) (Nat.le_of_ble_eq_true rfl) (Nat.le_of_ble_eq_true rfl) dL_law_4 (fun u => ?_)
    obtain ⟨aC, hq⟩ := u
    subst hq
    refine Y_astore_n (L' := [some (.ref b), some (.ref (aC 0)), none, none]) C dL_law_7 rfl (by decide) rfl rfl ?_
    refine Y_new C inlX6 tyX6 tyX6_ok wd_1_3 wd_1_4 wd_1_5 (ci := 6) rfl (fs := [.int 0, .int 0, .null, .null, .null, .int 0, .int 0, .int 0, .int 0, .int 0, .null, .null, .null, .null, .null, .int 0, .int 0, .int 0, .int 0, .int 0, .int 0, .null, .null, .null, .null, .null, .null, .int 0, .null, .int 0, .null, .null, .null]) hfs_6 (Nat.le_of_ble_eq_true rfl) (Nat.le_of_ble_eq_true rfl) dL_law_8 (fun q => ?_)
    refine Y_dup C dL_law_11 rfl ?_
    refine Y_callI C (c_X6_init l _ q) cw_RL_12 rfl wd_3_15 (Nat.le_of_ble_eq_true rfl) (Nat.le_of_ble_eq_true rfl) (Nat.le_of_ble_eq_true rfl) (Nat.le_of_ble_eq_true rfl) (Nat.le_of_ble_eq_true rfl) dL_law_12 (fun u => ?_)
    obtain ⟨aM, hq⟩ := u
    subst hq
    refine Y_astore_n (L' := [some (.ref b), some (.ref (aC 0)), some (.ref (aM 0)), none]) C dL_law_15 rfl (by decide) rfl rfl ?_
    refine Y_sw ?_
    refine Y_iconst C (v := nI 0) dL_law_16 (by decide) ?_
    refine Y_istore_n (L' := [some (.ref b), some (.ref (aC 0)), some (.ref (aM 0)), some (.int (nI 0))]) C dL_law_17 rfl (by decide) rfl rfl ?_
    refine Y_widen (k1 := 600000) (n1 := 7302250) (Nat.le_of_ble_eq_true rfl) (Nat.le_of_ble_eq_true rfl) ?_
    exact law_loop (Z := ((dC, dI), aC, cI, cS, cA)) (aM := aM) C X hL E (L + 7) 0 (Nat.zero_le _) (by omega) x00 y00 A00 x00_abs y00_abs A00_ok
  have hl := LV_entry (As := [.ref b]) (n := 4) (L0 := [some (.ref b), none, none, none]) (Nat.le_of_ble_eq_true rfl) ⟨rfl, trivial⟩
  rw [lg_entry_eq]
  exact K s.heap [] _ (fun k q h => by simp at h) ⟨fun i j p q h => by simp at h, fun k q h => by simp at h⟩ va_S.rf hl
-- ===== YOUR PART ENDS =====
set_option maxHeartbeats 4000000 in
theorem lw_walk (l : Launch) (hflags : l.flags = flags0) (b : Addr) (xs : List Int32) : MetFree l x (headSpec (Jvm.Cond.code x code maxLocals ret :: tables_1) room_1) (lw_P b xs) (fun _ _ _ _ _ => True) lw_Q := by
  refine MetFree.of_bodyS (code := code) (maxLocals := maxLocals) (ret := ret) (by decide) ?_ ?_
  · intro args s m h hn
    obtain ⟨meth, c, h1, h2, h3, h4, h5, h6, -, -⟩ := Cond.code_spec hn (atoms_spec (ws := Jvm.Cond.code x code maxLocals ret :: tables_1) h _ List.mem_cons_self)
    exact ⟨meth, c, h1, h2, h3, h4, h5, h6⟩
  · intro p e s m args below meth c s₁ B hml0 hP _
    obtain ⟨rfl, hx, hbd, hgv⟩ := hP
    obtain ⟨scr, harrAt, hlist, hof, hsmall⟩ := hx
    obtain ⟨hcb, hkn, -, -⟩ := State.arrayAt?_spec harrAt
    have hown : s.vm.findClass RL = some m.cls := findClass_of_methodNamed B.named
    have hts0 : ∀ c ∈ (Jvm.Cond.code x code maxLocals ret :: tables_1), c.before #[Value.ref b] s = true := atoms_spec (ws := Jvm.Cond.code x code maxLocals ret :: tables_1) B.pre
    have hts : ∀ w ∈ lw_tbl, w.before #[Value.ref b] s = true := k2_hts_sels lw_privs (fun w hw => hts0 w (List.mem_cons_of_mem _ hw)) lw_privs_ok
    have hml : c.maxLocals = 4 := B.maxLocals_eq (hts0 _ List.mem_cons_self)
    have X₀ : Stand p l e room_1 s m #[Value.ref b] below meth c s₁ [] 0 0 := Stand.of_body B
    have hh0 : s₁.heap = s.heap := by rw [B.state]; rfl
    have hsz : scr.slots.size = xs.length := by rw [← Array.length_toList, hlist, List.length_map]
    have hval : ∀ j : Nat, j < xs.length → scr.slots[j]? = some (.int (xs.getD j 0)) := fun j hj => by
      rw [← Array.getElem?_toList, hlist]
      simp [hj]
    have hbl : b < s.heap.size := (Array.getElem?_eq_some_iff.mp hcb).1
    have hX : va_X b xs.length (fun j => xs.getD j 0) s s.heap := ⟨scr, hcb, hof, hkn, hsz, hval⟩
    have K : W p l e room_1 s m #[Value.ref b] below meth c s₁.heap [] 0 0 (lw_Z below #[Value.ref b] s) (entryFrame m ([Value.ref b] : List Value).toArray 4) := by
      rw [hh0]
      exact whole_start l hflags hbd ⟨B.exec, B.bytes, B.returns, hml, hown, hts, hX, hbl, B.notSynchronized, hgv⟩
    obtain ⟨t, a1, o, b1, b2, b3⟩ := K s₁ rfl X₀
    exact ⟨t, o, a1, b1, b2, b3⟩
theorem lw_pre_spec {args : Array Value} {s : State} (h : (Jvm.Cond.and given_1 narrow_1).before args s = true) (hr : rest_1_c.before args s = true) : ∃ (b : Addr) (xs : List Int32), lw_P b xs args s := by
  have hs := flat_of_before _ h
  have hq := flat_of_before _ hr
  have hc : (Cond.count 1).before args s = true := hs _ (by decide +kernel)
  have harr : (Cond.arrayOf (.arg 0) .int).before args s = true := hs _ (by decide +kernel)
  have hle : (Cond.le (.length (.arg 0)) (.int 448)).before args s = true := hs _ (by decide +kernel)
  have hlen : (Cond.isInt (.length (.arg 0))).before args s = true := hq _ (by decide +kernel)
  have hall : (Cond.all (.arg 0) (.isInt (.elem (.arg 0) (.index 0)))).before args s = true := hq _ (by decide +kernel)
  obtain ⟨b, xs, hb, hx⟩ := State.ints_of_pre rfl harr hlen hall
  have hsm : xs.length < 2 ^ 31 := hx.choose_spec.2.2.2
  have hev : (Term.length (.arg 0)).eval args s none [] s = some (.int xs.length.toInt32) := hx.length_eval hb
  have hv := Cond.le_ints hev (show (Term.int 448).eval args s none [] s = some (.int 448) from rfl)
  have hd : xs.length.toInt32 ≤ 448 := by
    simpa [Cond.before, Cond.holds, hv] using hle
  have hN : xs.length ≤ 448 := (Int32.ofNat_le_ofNat hsm (by decide)).mp (show Int32.ofNat xs.length ≤ Int32.ofNat 448 from hd)
  exact ⟨b, xs, Cond.one_arg hc (show args[0]? = some (.ref b) from hb), hx, hN, h⟩
theorem lw_comes (l : Launch) (hflags : l.flags = flags0) : Comes l x (Jvm.Cond.code x code maxLocals ret :: tables_1) room_1 (fun tb e args s => Calls_1 tb e args s ∧ rest_1 tb e args s ∧ Pre_1 tb e args s)
    (fun _ _ args s o t => lw_Q args s o t) := by
  intro p e ha hc hk s m args below hf hfit hheap happ hpre
  obtain ⟨b, xs, hP⟩ := lw_pre_spec hpre.2.2 hpre.2.1
  obtain ⟨k, o, h1, h2, h3, hQ⟩ := lw_walk l hflags b xs p e ha hc hk s m args below hf ((Spec.applies_iff_loose hf).mp happ).1 hP trivial
  exact ⟨k, o, h1, h2, h3, hQ⟩
theorem lw_frame {s t : State} {o : Outcome} {args : Array Value} (h : Framed s o t [] 600000 7302250) :
    Framed s o t (fieldLocs frame_1_writes args s ++ arrayLocs frame_1_arrays args s ++ staticLocs frame_1_statics s) 600000 7302250 := h
theorem lw_limb (L : Cond) (hL : ∀ (args : Array Value) (s t : State), L.after args s (.returned (some (.int 1))) t = true) :
    ArmFor flags0 classFile x code maxLocals ret World_1 tables_1 room_1 Calls_1 rest_1 Pre_1
      (fun tb e a s o t => postC L tb e a s o t ∧ Framed s o t (fieldLocs frame_1_writes a s ++ arrayLocs frame_1_arrays a s ++ staticLocs frame_1_statics s) 600000 7302250) := by
  intro l hflags _ _ p e ha hc hk s m args below hf hfit hheap happ hpre
  obtain ⟨k, o, h1, h2, h3, rfl, hF⟩ := lw_comes l hflags p e ha hc hk s m args below hf hfit hheap happ hpre
  exact ⟨k, _, h1, h2, h3, hL args s _, lw_frame hF⟩
theorem i_vc : Claimed_1_1 ∧ Claimed_1_2 := ⟨lw_limb limb_1_1 (fun args s t => by simp [limb_1_1, Cond.after, Cond.holds, Cond.value]), lw_limb limb_1_2 (fun args s t => Cond.after_iff.mpr (by
  first | (rw [show limb_1_2 = Cond.eq .result (.int 1) from rfl, Cond.eq_ints (x := 1) (y := 1) rfl rfl]; simp; done) | (simp [limb_1_2, Cond.value, Term.eval]; done)))⟩
