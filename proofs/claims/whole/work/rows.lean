section
-- ===== PART A: goes FIRST, ahead of the names: the tables' words, and 'selects' of the private methods out of them =====
/-- a private method of a class that the tables say can be made, by its rows of tables_1 -/
def lw_okq (q : MethodName × Nat) : Prop := (q.1.cls ≠ "java/lang/invoke/MethodHandle" ∧ q.1.cls ≠ "java/lang/invoke/VarHandle") ∧ Cond.instantiable q.1.cls q.2 ∈ tables_1 ∧ Cond.privateMethod q.1 ∈ tables_1 ∧ Cond.instanceMethod q.1 ∈ tables_1
theorem lw_p0 : lw_okq (⟨"TideSeats", "faulted", "(I)I"⟩, 8) := ⟨⟨by decide +kernel, by decide +kernel⟩, List.mem_of_getElem? (i := 12) (by decide +kernel), List.mem_of_getElem? (i := 205) (by decide +kernel), List.mem_of_getElem? (i := 206) (by decide +kernel)⟩
theorem lw_p1 : lw_okq (⟨"TideSeats$Shore", "readsHead", "(LTideSeats$Reader;)Z"⟩, 10) := ⟨⟨by decide +kernel, by decide +kernel⟩, List.mem_of_getElem? (i := 112) (by decide +kernel), List.mem_of_getElem? (i := 217) (by decide +kernel), List.mem_of_getElem? (i := 218) (by decide +kernel)⟩
theorem lw_p2 : lw_okq (⟨"TideSeats$Shore", "readsPools", "(LTideSeats$Reader;)Z"⟩, 10) := ⟨⟨by decide +kernel, by decide +kernel⟩, List.mem_of_getElem? (i := 112) (by decide +kernel), List.mem_of_getElem? (i := 234) (by decide +kernel), List.mem_of_getElem? (i := 235) (by decide +kernel)⟩
theorem lw_p3 : lw_okq (⟨"TideSeats$Shore", "readsPool", "(LTideSeats$Reader;)Z"⟩, 10) := ⟨⟨by decide +kernel, by decide +kernel⟩, List.mem_of_getElem? (i := 112) (by decide +kernel), List.mem_of_getElem? (i := 238) (by decide +kernel), List.mem_of_getElem? (i := 239) (by decide +kernel)⟩
theorem lw_p4 : lw_okq (⟨"TideSeats$Shore", "readsMembers", "(LTideSeats$Reader;)Z"⟩, 10) := ⟨⟨by decide +kernel, by decide +kernel⟩, List.mem_of_getElem? (i := 112) (by decide +kernel), List.mem_of_getElem? (i := 242) (by decide +kernel), List.mem_of_getElem? (i := 243) (by decide +kernel)⟩
theorem lw_p5 : lw_okq (⟨"TideSeats$Shore", "readsMember", "(LTideSeats$Reader;)Z"⟩, 10) := ⟨⟨by decide +kernel, by decide +kernel⟩, List.mem_of_getElem? (i := 112) (by decide +kernel), List.mem_of_getElem? (i := 246) (by decide +kernel), List.mem_of_getElem? (i := 247) (by decide +kernel)⟩
theorem lw_p6 : lw_okq (⟨"TideSeats", "swapShores", "()V"⟩, 8) := ⟨⟨by decide +kernel, by decide +kernel⟩, List.mem_of_getElem? (i := 12) (by decide +kernel), List.mem_of_getElem? (i := 260) (by decide +kernel), List.mem_of_getElem? (i := 261) (by decide +kernel)⟩
theorem lw_p7 : lw_okq (⟨"TideSeats", "isPool", "(I)Z"⟩, 8) := ⟨⟨by decide +kernel, by decide +kernel⟩, List.mem_of_getElem? (i := 12) (by decide +kernel), List.mem_of_getElem? (i := 268) (by decide +kernel), List.mem_of_getElem? (i := 269) (by decide +kernel)⟩
theorem lw_p8 : lw_okq (⟨"TideSeats", "isMember", "(I)Z"⟩, 8) := ⟨⟨by decide +kernel, by decide +kernel⟩, List.mem_of_getElem? (i := 12) (by decide +kernel), List.mem_of_getElem? (i := 295) (by decide +kernel), List.mem_of_getElem? (i := 296) (by decide +kernel)⟩
theorem lw_p9 : lw_okq (⟨"TideSeats", "refusalUnless", "(Z)I"⟩, 8) := ⟨⟨by decide +kernel, by decide +kernel⟩, List.mem_of_getElem? (i := 12) (by decide +kernel), List.mem_of_getElem? (i := 322) (by decide +kernel), List.mem_of_getElem? (i := 323) (by decide +kernel)⟩
theorem lw_p10 : lw_okq (⟨"TideSeats", "hasShore", "()Z"⟩, 8) := ⟨⟨by decide +kernel, by decide +kernel⟩, List.mem_of_getElem? (i := 12) (by decide +kernel), List.mem_of_getElem? (i := 326) (by decide +kernel), List.mem_of_getElem? (i := 327) (by decide +kernel)⟩
theorem lw_p11 : lw_okq (⟨"TideSeats$Shore", "nextWashed", "(II)I"⟩, 10) := ⟨⟨by decide +kernel, by decide +kernel⟩, List.mem_of_getElem? (i := 112) (by decide +kernel), List.mem_of_getElem? (i := 363) (by decide +kernel), List.mem_of_getElem? (i := 364) (by decide +kernel)⟩
theorem lw_p12 : lw_okq (⟨"TideSeats", "refusalOfRow", "(IIIIZ)I"⟩, 8) := ⟨⟨by decide +kernel, by decide +kernel⟩, List.mem_of_getElem? (i := 12) (by decide +kernel), List.mem_of_getElem? (i := 419) (by decide +kernel), List.mem_of_getElem? (i := 420) (by decide +kernel)⟩
theorem lw_p13 : lw_okq (⟨"TideSeats", "yearTold", "(LTideSeats$Sheet;III)I"⟩, 8) := ⟨⟨by decide +kernel, by decide +kernel⟩, List.mem_of_getElem? (i := 12) (by decide +kernel), List.mem_of_getElem? (i := 427) (by decide +kernel), List.mem_of_getElem? (i := 428) (by decide +kernel)⟩
theorem lw_p14 : lw_okq (⟨"TideSeats", "firstWrong", "(LTideSeats$Sheet;II)I"⟩, 8) := ⟨⟨by decide +kernel, by decide +kernel⟩, List.mem_of_getElem? (i := 12) (by decide +kernel), List.mem_of_getElem? (i := 431) (by decide +kernel), List.mem_of_getElem? (i := 432) (by decide +kernel)⟩
theorem lw_p15 : lw_okq (⟨"TideSeats", "endOfYear", "(I)I"⟩, 8) := ⟨⟨by decide +kernel, by decide +kernel⟩, List.mem_of_getElem? (i := 12) (by decide +kernel), List.mem_of_getElem? (i := 439) (by decide +kernel), List.mem_of_getElem? (i := 440) (by decide +kernel)⟩
def lw_privs_1 : List (MethodName × Nat) := [(⟨"TideSeats", "faulted", "(I)I"⟩, 8), (⟨"TideSeats$Shore", "readsHead", "(LTideSeats$Reader;)Z"⟩, 10), (⟨"TideSeats$Shore", "readsPools", "(LTideSeats$Reader;)Z"⟩, 10), (⟨"TideSeats$Shore", "readsPool", "(LTideSeats$Reader;)Z"⟩, 10), (⟨"TideSeats$Shore", "readsMembers", "(LTideSeats$Reader;)Z"⟩, 10), (⟨"TideSeats$Shore", "readsMember", "(LTideSeats$Reader;)Z"⟩, 10), (⟨"TideSeats", "swapShores", "()V"⟩, 8), (⟨"TideSeats", "isPool", "(I)Z"⟩, 8), (⟨"TideSeats", "isMember", "(I)Z"⟩, 8), (⟨"TideSeats", "refusalUnless", "(Z)I"⟩, 8), (⟨"TideSeats", "hasShore", "()Z"⟩, 8), (⟨"TideSeats$Shore", "nextWashed", "(II)I"⟩, 10), (⟨"TideSeats", "refusalOfRow", "(IIIIZ)I"⟩, 8), (⟨"TideSeats", "yearTold", "(LTideSeats$Sheet;III)I"⟩, 8), (⟨"TideSeats", "firstWrong", "(LTideSeats$Sheet;II)I"⟩, 8), (⟨"TideSeats", "endOfYear", "(I)I"⟩, 8)]
theorem lw_r1 : ∀ q ∈ lw_privs_1, lw_okq q := List.forall_mem_cons.mpr ⟨lw_p0, List.forall_mem_cons.mpr ⟨lw_p1, List.forall_mem_cons.mpr ⟨lw_p2, List.forall_mem_cons.mpr ⟨lw_p3, List.forall_mem_cons.mpr ⟨lw_p4, List.forall_mem_cons.mpr ⟨lw_p5, List.forall_mem_cons.mpr ⟨lw_p6, List.forall_mem_cons.mpr ⟨lw_p7, List.forall_mem_cons.mpr ⟨lw_p8, List.forall_mem_cons.mpr ⟨lw_p9, List.forall_mem_cons.mpr ⟨lw_p10, List.forall_mem_cons.mpr ⟨lw_p11, List.forall_mem_cons.mpr ⟨lw_p12, List.forall_mem_cons.mpr ⟨lw_p13, List.forall_mem_cons.mpr ⟨lw_p14, List.forall_mem_cons.mpr ⟨lw_p15, fun _ h => absurd h List.not_mem_nil⟩⟩⟩⟩⟩⟩⟩⟩⟩⟩⟩⟩⟩⟩⟩⟩
theorem lw_p16 : lw_okq (⟨"TideSeats", "fewestToTurn", "(I)I"⟩, 8) := ⟨⟨by decide +kernel, by decide +kernel⟩, List.mem_of_getElem? (i := 12) (by decide +kernel), List.mem_of_getElem? (i := 457) (by decide +kernel), List.mem_of_getElem? (i := 458) (by decide +kernel)⟩
theorem lw_p17 : lw_okq (⟨"TideSeats", "driftOf", "(ILTideSeats$Sheet;II)I"⟩, 8) := ⟨⟨by decide +kernel, by decide +kernel⟩, List.mem_of_getElem? (i := 12) (by decide +kernel), List.mem_of_getElem? (i := 465) (by decide +kernel), List.mem_of_getElem? (i := 466) (by decide +kernel)⟩
theorem lw_p18 : lw_okq (⟨"TideSeats", "originsOf", "(ILTideSeats$Sheet;II)I"⟩, 8) := ⟨⟨by decide +kernel, by decide +kernel⟩, List.mem_of_getElem? (i := 12) (by decide +kernel), List.mem_of_getElem? (i := 473) (by decide +kernel), List.mem_of_getElem? (i := 474) (by decide +kernel)⟩
theorem lw_p19 : lw_okq (⟨"TideSeats", "layLeaps", "()V"⟩, 8) := ⟨⟨by decide +kernel, by decide +kernel⟩, List.mem_of_getElem? (i := 12) (by decide +kernel), List.mem_of_getElem? (i := 481) (by decide +kernel), List.mem_of_getElem? (i := 482) (by decide +kernel)⟩
theorem lw_p20 : lw_okq (⟨"TideSeats$Route", "measure", "(I)V"⟩, 6) := ⟨⟨by decide +kernel, by decide +kernel⟩, List.mem_of_getElem? (i := 84) (by decide +kernel), List.mem_of_getElem? (i := 501) (by decide +kernel), List.mem_of_getElem? (i := 502) (by decide +kernel)⟩
theorem lw_p21 : lw_okq (⟨"TideSeats$Route", "moveTo", "(II)I"⟩, 6) := ⟨⟨by decide +kernel, by decide +kernel⟩, List.mem_of_getElem? (i := 84) (by decide +kernel), List.mem_of_getElem? (i := 505) (by decide +kernel), List.mem_of_getElem? (i := 506) (by decide +kernel)⟩
theorem lw_p22 : lw_okq (⟨"TideSeats", "layTides", "(I)V"⟩, 8) := ⟨⟨by decide +kernel, by decide +kernel⟩, List.mem_of_getElem? (i := 12) (by decide +kernel), List.mem_of_getElem? (i := 518) (by decide +kernel), List.mem_of_getElem? (i := 519) (by decide +kernel)⟩
theorem lw_p23 : lw_okq (⟨"TideSeats", "pairsOfTides", "(II)I"⟩, 8) := ⟨⟨by decide +kernel, by decide +kernel⟩, List.mem_of_getElem? (i := 12) (by decide +kernel), List.mem_of_getElem? (i := 557) (by decide +kernel), List.mem_of_getElem? (i := 558) (by decide +kernel)⟩
theorem lw_p24 : lw_okq (⟨"TideSeats", "shrimpBody", "(I)I"⟩, 8) := ⟨⟨by decide +kernel, by decide +kernel⟩, List.mem_of_getElem? (i := 12) (by decide +kernel), List.mem_of_getElem? (i := 599) (by decide +kernel), List.mem_of_getElem? (i := 600) (by decide +kernel)⟩
theorem lw_p25 : lw_okq (⟨"TideSeats", "leave", "(I)V"⟩, 8) := ⟨⟨by decide +kernel, by decide +kernel⟩, List.mem_of_getElem? (i := 12) (by decide +kernel), List.mem_of_getElem? (i := 603) (by decide +kernel), List.mem_of_getElem? (i := 604) (by decide +kernel)⟩
theorem lw_p26 : lw_okq (⟨"TideSeats", "crabBody", "(I)I"⟩, 8) := ⟨⟨by decide +kernel, by decide +kernel⟩, List.mem_of_getElem? (i := 12) (by decide +kernel), List.mem_of_getElem? (i := 607) (by decide +kernel), List.mem_of_getElem? (i := 608) (by decide +kernel)⟩
theorem lw_p27 : lw_okq (⟨"TideSeats", "limpetBody", "(I)I"⟩, 8) := ⟨⟨by decide +kernel, by decide +kernel⟩, List.mem_of_getElem? (i := 12) (by decide +kernel), List.mem_of_getElem? (i := 611) (by decide +kernel), List.mem_of_getElem? (i := 612) (by decide +kernel)⟩
theorem lw_p28 : lw_okq (⟨"TideSeatsModel", "against", "(IIII)I"⟩, 33) := ⟨⟨by decide +kernel, by decide +kernel⟩, List.mem_of_getElem? (i := 635) (by decide +kernel), List.mem_of_getElem? (i := 754) (by decide +kernel), List.mem_of_getElem? (i := 755) (by decide +kernel)⟩
theorem lw_p29 : lw_okq (⟨"TideSeatsModel", "fails", "(I)I"⟩, 33) := ⟨⟨by decide +kernel, by decide +kernel⟩, List.mem_of_getElem? (i := 635) (by decide +kernel), List.mem_of_getElem? (i := 758) (by decide +kernel), List.mem_of_getElem? (i := 759) (by decide +kernel)⟩
theorem lw_p30 : lw_okq (⟨"TideSeatsModel", "readShore", "(I)Z"⟩, 33) := ⟨⟨by decide +kernel, by decide +kernel⟩, List.mem_of_getElem? (i := 635) (by decide +kernel), List.mem_of_getElem? (i := 762) (by decide +kernel), List.mem_of_getElem? (i := 763) (by decide +kernel)⟩
theorem lw_p31 : lw_okq (⟨"TideSeatsModel", "isSign", "(II)Z"⟩, 33) := ⟨⟨by decide +kernel, by decide +kernel⟩, List.mem_of_getElem? (i := 635) (by decide +kernel), List.mem_of_getElem? (i := 766) (by decide +kernel), List.mem_of_getElem? (i := 767) (by decide +kernel)⟩
def lw_privs_2 : List (MethodName × Nat) := [(⟨"TideSeats", "fewestToTurn", "(I)I"⟩, 8), (⟨"TideSeats", "driftOf", "(ILTideSeats$Sheet;II)I"⟩, 8), (⟨"TideSeats", "originsOf", "(ILTideSeats$Sheet;II)I"⟩, 8), (⟨"TideSeats", "layLeaps", "()V"⟩, 8), (⟨"TideSeats$Route", "measure", "(I)V"⟩, 6), (⟨"TideSeats$Route", "moveTo", "(II)I"⟩, 6), (⟨"TideSeats", "layTides", "(I)V"⟩, 8), (⟨"TideSeats", "pairsOfTides", "(II)I"⟩, 8), (⟨"TideSeats", "shrimpBody", "(I)I"⟩, 8), (⟨"TideSeats", "leave", "(I)V"⟩, 8), (⟨"TideSeats", "crabBody", "(I)I"⟩, 8), (⟨"TideSeats", "limpetBody", "(I)I"⟩, 8), (⟨"TideSeatsModel", "against", "(IIII)I"⟩, 33), (⟨"TideSeatsModel", "fails", "(I)I"⟩, 33), (⟨"TideSeatsModel", "readShore", "(I)Z"⟩, 33), (⟨"TideSeatsModel", "isSign", "(II)Z"⟩, 33)]
theorem lw_r2 : ∀ q ∈ lw_privs_2, lw_okq q := List.forall_mem_cons.mpr ⟨lw_p16, List.forall_mem_cons.mpr ⟨lw_p17, List.forall_mem_cons.mpr ⟨lw_p18, List.forall_mem_cons.mpr ⟨lw_p19, List.forall_mem_cons.mpr ⟨lw_p20, List.forall_mem_cons.mpr ⟨lw_p21, List.forall_mem_cons.mpr ⟨lw_p22, List.forall_mem_cons.mpr ⟨lw_p23, List.forall_mem_cons.mpr ⟨lw_p24, List.forall_mem_cons.mpr ⟨lw_p25, List.forall_mem_cons.mpr ⟨lw_p26, List.forall_mem_cons.mpr ⟨lw_p27, List.forall_mem_cons.mpr ⟨lw_p28, List.forall_mem_cons.mpr ⟨lw_p29, List.forall_mem_cons.mpr ⟨lw_p30, List.forall_mem_cons.mpr ⟨lw_p31, fun _ h => absurd h List.not_mem_nil⟩⟩⟩⟩⟩⟩⟩⟩⟩⟩⟩⟩⟩⟩⟩⟩
theorem lw_p32 : lw_okq (⟨"TideSeatsModel", "digit", "(III)I"⟩, 33) := ⟨⟨by decide +kernel, by decide +kernel⟩, List.mem_of_getElem? (i := 635) (by decide +kernel), List.mem_of_getElem? (i := 770) (by decide +kernel), List.mem_of_getElem? (i := 771) (by decide +kernel)⟩
theorem lw_p33 : lw_okq (⟨"TideSeatsModel", "readPool", "(I)Z"⟩, 33) := ⟨⟨by decide +kernel, by decide +kernel⟩, List.mem_of_getElem? (i := 635) (by decide +kernel), List.mem_of_getElem? (i := 774) (by decide +kernel), List.mem_of_getElem? (i := 775) (by decide +kernel)⟩
theorem lw_p34 : lw_okq (⟨"TideSeatsModel", "readMember", "(I)Z"⟩, 33) := ⟨⟨by decide +kernel, by decide +kernel⟩, List.mem_of_getElem? (i := 635) (by decide +kernel), List.mem_of_getElem? (i := 778) (by decide +kernel), List.mem_of_getElem? (i := 779) (by decide +kernel)⟩
theorem lw_p35 : lw_okq (⟨"TideSeatsModel", "takeShore", "()V"⟩, 33) := ⟨⟨by decide +kernel, by decide +kernel⟩, List.mem_of_getElem? (i := 635) (by decide +kernel), List.mem_of_getElem? (i := 782) (by decide +kernel), List.mem_of_getElem? (i := 783) (by decide +kernel)⟩
theorem lw_p36 : lw_okq (⟨"TideSeatsModel", "isPool", "(I)Z"⟩, 33) := ⟨⟨by decide +kernel, by decide +kernel⟩, List.mem_of_getElem? (i := 635) (by decide +kernel), List.mem_of_getElem? (i := 790) (by decide +kernel), List.mem_of_getElem? (i := 791) (by decide +kernel)⟩
theorem lw_p37 : lw_okq (⟨"TideSeatsModel", "sitters", "(I)I"⟩, 33) := ⟨⟨by decide +kernel, by decide +kernel⟩, List.mem_of_getElem? (i := 635) (by decide +kernel), List.mem_of_getElem? (i := 794) (by decide +kernel), List.mem_of_getElem? (i := 795) (by decide +kernel)⟩
theorem lw_p38 : lw_okq (⟨"TideSeatsModel", "isMember", "(I)Z"⟩, 33) := ⟨⟨by decide +kernel, by decide +kernel⟩, List.mem_of_getElem? (i := 635) (by decide +kernel), List.mem_of_getElem? (i := 805) (by decide +kernel), List.mem_of_getElem? (i := 806) (by decide +kernel)⟩
theorem lw_p39 : lw_okq (⟨"TideSeatsModel", "farOf", "(I)I"⟩, 33) := ⟨⟨by decide +kernel, by decide +kernel⟩, List.mem_of_getElem? (i := 635) (by decide +kernel), List.mem_of_getElem? (i := 809) (by decide +kernel), List.mem_of_getElem? (i := 810) (by decide +kernel)⟩
theorem lw_p40 : lw_okq (⟨"TideSeatsModel", "washedBy", "(I)I"⟩, 33) := ⟨⟨by decide +kernel, by decide +kernel⟩, List.mem_of_getElem? (i := 635) (by decide +kernel), List.mem_of_getElem? (i := 844) (by decide +kernel), List.mem_of_getElem? (i := 845) (by decide +kernel)⟩
theorem lw_p41 : lw_okq (⟨"TideSeatsModel", "carriedFrom", "(III)I"⟩, 33) := ⟨⟨by decide +kernel, by decide +kernel⟩, List.mem_of_getElem? (i := 635) (by decide +kernel), List.mem_of_getElem? (i := 852) (by decide +kernel), List.mem_of_getElem? (i := 853) (by decide +kernel)⟩
theorem lw_p42 : lw_okq (⟨"TideSeatsModel", "carryAll", "(I)I"⟩, 33) := ⟨⟨by decide +kernel, by decide +kernel⟩, List.mem_of_getElem? (i := 635) (by decide +kernel), List.mem_of_getElem? (i := 860) (by decide +kernel), List.mem_of_getElem? (i := 861) (by decide +kernel)⟩
theorem lw_p43 : lw_okq (⟨"TideSeatsModel", "ayesOf", "(I)I"⟩, 33) := ⟨⟨by decide +kernel, by decide +kernel⟩, List.mem_of_getElem? (i := 635) (by decide +kernel), List.mem_of_getElem? (i := 868) (by decide +kernel), List.mem_of_getElem? (i := 869) (by decide +kernel)⟩
theorem lw_p44 : lw_okq (⟨"TideSeatsModel", "passesBy", "(I)I"⟩, 33) := ⟨⟨by decide +kernel, by decide +kernel⟩, List.mem_of_getElem? (i := 635) (by decide +kernel), List.mem_of_getElem? (i := 876) (by decide +kernel), List.mem_of_getElem? (i := 877) (by decide +kernel)⟩
theorem lw_p45 : lw_okq (⟨"TideSeatsModel", "isLawBy", "(I)Z"⟩, 33) := ⟨⟨by decide +kernel, by decide +kernel⟩, List.mem_of_getElem? (i := 635) (by decide +kernel), List.mem_of_getElem? (i := 884) (by decide +kernel), List.mem_of_getElem? (i := 885) (by decide +kernel)⟩
theorem lw_p46 : lw_okq (⟨"TideSeatsModel", "occupied", "()I"⟩, 33) := ⟨⟨by decide +kernel, by decide +kernel⟩, List.mem_of_getElem? (i := 635) (by decide +kernel), List.mem_of_getElem? (i := 888) (by decide +kernel), List.mem_of_getElem? (i := 889) (by decide +kernel)⟩
theorem lw_p47 : lw_okq (⟨"TideSeatsModel", "goYear", "(II)I"⟩, 33) := ⟨⟨by decide +kernel, by decide +kernel⟩, List.mem_of_getElem? (i := 635) (by decide +kernel), List.mem_of_getElem? (i := 896) (by decide +kernel), List.mem_of_getElem? (i := 897) (by decide +kernel)⟩
def lw_privs_3 : List (MethodName × Nat) := [(⟨"TideSeatsModel", "digit", "(III)I"⟩, 33), (⟨"TideSeatsModel", "readPool", "(I)Z"⟩, 33), (⟨"TideSeatsModel", "readMember", "(I)Z"⟩, 33), (⟨"TideSeatsModel", "takeShore", "()V"⟩, 33), (⟨"TideSeatsModel", "isPool", "(I)Z"⟩, 33), (⟨"TideSeatsModel", "sitters", "(I)I"⟩, 33), (⟨"TideSeatsModel", "isMember", "(I)Z"⟩, 33), (⟨"TideSeatsModel", "farOf", "(I)I"⟩, 33), (⟨"TideSeatsModel", "washedBy", "(I)I"⟩, 33), (⟨"TideSeatsModel", "carriedFrom", "(III)I"⟩, 33), (⟨"TideSeatsModel", "carryAll", "(I)I"⟩, 33), (⟨"TideSeatsModel", "ayesOf", "(I)I"⟩, 33), (⟨"TideSeatsModel", "passesBy", "(I)I"⟩, 33), (⟨"TideSeatsModel", "isLawBy", "(I)Z"⟩, 33), (⟨"TideSeatsModel", "occupied", "()I"⟩, 33), (⟨"TideSeatsModel", "goYear", "(II)I"⟩, 33)]
theorem lw_r3 : ∀ q ∈ lw_privs_3, lw_okq q := List.forall_mem_cons.mpr ⟨lw_p32, List.forall_mem_cons.mpr ⟨lw_p33, List.forall_mem_cons.mpr ⟨lw_p34, List.forall_mem_cons.mpr ⟨lw_p35, List.forall_mem_cons.mpr ⟨lw_p36, List.forall_mem_cons.mpr ⟨lw_p37, List.forall_mem_cons.mpr ⟨lw_p38, List.forall_mem_cons.mpr ⟨lw_p39, List.forall_mem_cons.mpr ⟨lw_p40, List.forall_mem_cons.mpr ⟨lw_p41, List.forall_mem_cons.mpr ⟨lw_p42, List.forall_mem_cons.mpr ⟨lw_p43, List.forall_mem_cons.mpr ⟨lw_p44, List.forall_mem_cons.mpr ⟨lw_p45, List.forall_mem_cons.mpr ⟨lw_p46, List.forall_mem_cons.mpr ⟨lw_p47, fun _ h => absurd h List.not_mem_nil⟩⟩⟩⟩⟩⟩⟩⟩⟩⟩⟩⟩⟩⟩⟩⟩
theorem lw_p48 : lw_okq (⟨"TideSeatsModel", "tellYear", "(I)I"⟩, 33) := ⟨⟨by decide +kernel, by decide +kernel⟩, List.mem_of_getElem? (i := 635) (by decide +kernel), List.mem_of_getElem? (i := 900) (by decide +kernel), List.mem_of_getElem? (i := 901) (by decide +kernel)⟩
theorem lw_p49 : lw_okq (⟨"TideSeatsModel", "driftOf", "(III)I"⟩, 33) := ⟨⟨by decide +kernel, by decide +kernel⟩, List.mem_of_getElem? (i := 635) (by decide +kernel), List.mem_of_getElem? (i := 916) (by decide +kernel), List.mem_of_getElem? (i := 917) (by decide +kernel)⟩
theorem lw_p50 : lw_okq (⟨"TideSeatsModel", "findLeaps", "(I)V"⟩, 33) := ⟨⟨by decide +kernel, by decide +kernel⟩, List.mem_of_getElem? (i := 635) (by decide +kernel), List.mem_of_getElem? (i := 924) (by decide +kernel), List.mem_of_getElem? (i := 925) (by decide +kernel)⟩
theorem lw_p51 : lw_okq (⟨"TideSeatsModel", "isLeap", "(II)Z"⟩, 33) := ⟨⟨by decide +kernel, by decide +kernel⟩, List.mem_of_getElem? (i := 635) (by decide +kernel), List.mem_of_getElem? (i := 928) (by decide +kernel), List.mem_of_getElem? (i := 929) (by decide +kernel)⟩
theorem lw_p52 : lw_okq (⟨"TideSeatsModel", "nextLeap", "(I)I"⟩, 33) := ⟨⟨by decide +kernel, by decide +kernel⟩, List.mem_of_getElem? (i := 635) (by decide +kernel), List.mem_of_getElem? (i := 932) (by decide +kernel), List.mem_of_getElem? (i := 933) (by decide +kernel)⟩
theorem lw_p53 : lw_okq (⟨"TideSeatsModel", "findTides", "(II)V"⟩, 33) := ⟨⟨by decide +kernel, by decide +kernel⟩, List.mem_of_getElem? (i := 635) (by decide +kernel), List.mem_of_getElem? (i := 940) (by decide +kernel), List.mem_of_getElem? (i := 941) (by decide +kernel)⟩
theorem lw_p54 : lw_okq (⟨"TideSeatsModel", "nextTide", "(II)I"⟩, 33) := ⟨⟨by decide +kernel, by decide +kernel⟩, List.mem_of_getElem? (i := 635) (by decide +kernel), List.mem_of_getElem? (i := 944) (by decide +kernel), List.mem_of_getElem? (i := 945) (by decide +kernel)⟩
theorem lw_p55 : lw_okq (⟨"TideSeatsModel", "areSo", "()Z"⟩, 33) := ⟨⟨by decide +kernel, by decide +kernel⟩, List.mem_of_getElem? (i := 635) (by decide +kernel), List.mem_of_getElem? (i := 960) (by decide +kernel), List.mem_of_getElem? (i := 961) (by decide +kernel)⟩
theorem lw_p56 : lw_okq (⟨"TideSeatsModel", "lost", "(I)J"⟩, 33) := ⟨⟨by decide +kernel, by decide +kernel⟩, List.mem_of_getElem? (i := 635) (by decide +kernel), List.mem_of_getElem? (i := 997) (by decide +kernel), List.mem_of_getElem? (i := 998) (by decide +kernel)⟩
theorem lw_p57 : lw_okq (⟨"TideSeatsModel", "begins", "(I)V"⟩, 33) := ⟨⟨by decide +kernel, by decide +kernel⟩, List.mem_of_getElem? (i := 635) (by decide +kernel), List.mem_of_getElem? (i := 1009) (by decide +kernel), List.mem_of_getElem? (i := 1010) (by decide +kernel)⟩
def lw_privs_4 : List (MethodName × Nat) := [(⟨"TideSeatsModel", "tellYear", "(I)I"⟩, 33), (⟨"TideSeatsModel", "driftOf", "(III)I"⟩, 33), (⟨"TideSeatsModel", "findLeaps", "(I)V"⟩, 33), (⟨"TideSeatsModel", "isLeap", "(II)Z"⟩, 33), (⟨"TideSeatsModel", "nextLeap", "(I)I"⟩, 33), (⟨"TideSeatsModel", "findTides", "(II)V"⟩, 33), (⟨"TideSeatsModel", "nextTide", "(II)I"⟩, 33), (⟨"TideSeatsModel", "areSo", "()Z"⟩, 33), (⟨"TideSeatsModel", "lost", "(I)J"⟩, 33), (⟨"TideSeatsModel", "begins", "(I)V"⟩, 33)]
theorem lw_r4 : ∀ q ∈ lw_privs_4, lw_okq q := List.forall_mem_cons.mpr ⟨lw_p48, List.forall_mem_cons.mpr ⟨lw_p49, List.forall_mem_cons.mpr ⟨lw_p50, List.forall_mem_cons.mpr ⟨lw_p51, List.forall_mem_cons.mpr ⟨lw_p52, List.forall_mem_cons.mpr ⟨lw_p53, List.forall_mem_cons.mpr ⟨lw_p54, List.forall_mem_cons.mpr ⟨lw_p55, List.forall_mem_cons.mpr ⟨lw_p56, List.forall_mem_cons.mpr ⟨lw_p57, fun _ h => absurd h List.not_mem_nil⟩⟩⟩⟩⟩⟩⟩⟩⟩⟩
def lw_privs : List (MethodName × Nat) := lw_privs_1 ++ (lw_privs_2 ++ (lw_privs_3 ++ (lw_privs_4)))
def lw_tbl : List Cond := k2_sels lw_privs ++ tables_1
theorem lw_privs_ok : ∀ q ∈ lw_privs, lw_okq q := by
  show ∀ q ∈ lw_privs_1 ++ (lw_privs_2 ++ (lw_privs_3 ++ (lw_privs_4))), lw_okq q
  exact List.forall_mem_append.mpr ⟨lw_r1, List.forall_mem_append.mpr ⟨lw_r2, List.forall_mem_append.mpr ⟨lw_r3, lw_r4⟩⟩⟩
end
section
/-! ===== BEGIN words of one list among another's, by their places ===== -/
theorem goodIn_r {big : List Cond} (ws : List Cond) (ps : List Nat) (hp : ws = ps.filterMap (fun i => big[i]?)) (h : ws.all goodWord = true) : GoodIn big ws := by
  intro w hw
  have h1 := List.all_eq_true.mp h w hw
  rw [hp] at hw
  obtain ⟨i, -, hi⟩ := List.mem_filterMap.mp hw
  have hm : w ∈ big := by first | exact List.mem_of_getElem? hi | exact List.getElem?_mem hi
  exact ⟨hm, good_of_word h1⟩
theorem goodIn_app {big a b : List Cond} (ha : GoodIn big a) (hb : GoodIn big b) : GoodIn big (a ++ b) := fun w h => (List.mem_append.mp h).elim (ha w) (hb w)
theorem goodIn_ca {big a b : List Cond} {c : Cond} (ha : GoodIn big (c :: a)) (hb : GoodIn big b) : GoodIn big (c :: (a ++ b)) := fun w h => (List.mem_cons.mp h).elim (fun e => ha w (List.mem_cons.mpr (Or.inl e))) (fun h => (List.mem_append.mp h).elim (fun h => ha w (List.mem_cons.mpr (Or.inr h))) (hb w))
theorem goodIn_sub {big ws : List Cond} (hm : ∀ w ∈ ws, w ∈ big) (h : ws.all goodWord = true) : GoodIn big ws := fun w hw => ⟨hm w hw, good_of_word (List.all_eq_true.mp h w hw)⟩
/-! ===== END ===== -/
/-! ===== BEGIN printed: names, fields, word lists, decode rows ===== -/
def RX0 : String := "TideSeats$Reader"
def TX0 : u_T := fun k => match k with
  | 0 => ("TideSeats$Reader", "sheet", "LTideSeats$Sheet;", false)
  | 1 => ("TideSeats$Reader", "start", "I", false)
  | 2 => ("TideSeats$Reader", "end", "I", false)
  | _ => ("TideSeats$Reader", "at", "I", false)
def tyX0 : Nat → FieldType := fun k => match k with
  | 0 => .object "TideSeats$Sheet"
  | 1 => .int
  | 2 => .int
  | _ => .int
abbrev wsX00 : List Cond := u_ws RX0 TX0 4
theorem nmX0 : ∀ a, a < 4 → ∀ b, b < 4 → a ≠ b → (TX0 a).2.1 ≠ (TX0 b).2.1 := by decide +kernel
theorem tyX0_ok : ∀ k, k < 4 → parseFieldDescriptor (TX0 k).2.2.1 = some (tyX0 k) := by decide +kernel
abbrev cX0_init : ByteArray := prog_2_method_1_code
def yX0_init : MethodName := ⟨RX0, "<init>", "()V"⟩
abbrev cX0_begin : ByteArray := prog_2_method_2_code
def yX0_begin : MethodName := ⟨RX0, "begin", "(LTideSeats$Sheet;II)V"⟩
abbrev cX0_place : ByteArray := prog_2_method_3_code
def yX0_place : MethodName := ⟨RX0, "place", "()I"⟩
abbrev cX0_isAtEnd : ByteArray := prog_2_method_4_code
def yX0_isAtEnd : MethodName := ⟨RX0, "isAtEnd", "()Z"⟩
abbrev cX0_takes : ByteArray := prog_2_method_5_code
def yX0_takes : MethodName := ⟨RX0, "takes", "(I)Z"⟩
abbrev cX0_digit : ByteArray := prog_2_method_6_code
def yX0_digit : MethodName := ⟨RX0, "digit", "(II)I"⟩
abbrev cX0_kind : ByteArray := prog_2_method_7_code
def yX0_kind : MethodName := ⟨RX0, "kind", "()I"⟩
def RX1 : String := "TideSeats$Readings"
def TX1 : u_T := fun k => match k with
  | 0 => ("TideSeats$Readings", "who", "[I", true)
  | 1 => ("TideSeats$Readings", "when", "[I", true)
  | 2 => ("TideSeats$Readings", "where", "[I", true)
  | _ => ("TideSeats$Readings", "count", "I", false)
def tyX1 : Nat → FieldType := fun k => match k with
  | 0 => .array .int
  | 1 => .array .int
  | 2 => .array .int
  | _ => .int
abbrev wsX10 : List Cond := u_ws RX1 TX1 4
theorem nmX1 : ∀ a, a < 4 → ∀ b, b < 4 → a ≠ b → (TX1 a).2.1 ≠ (TX1 b).2.1 := by decide +kernel
theorem tyX1_ok : ∀ k, k < 4 → parseFieldDescriptor (TX1 k).2.2.1 = some (tyX1 k) := by decide +kernel
abbrev cX1_init : ByteArray := prog_3_method_1_code
def yX1_init : MethodName := ⟨RX1, "<init>", "()V"⟩
abbrev cX1_take : ByteArray := prog_3_method_2_code
def yX1_take : MethodName := ⟨RX1, "take", "(III)I"⟩
abbrev cX1_areSoIn : ByteArray := prog_3_method_3_code
def yX1_areSoIn : MethodName := ⟨RX1, "areSoIn", "(LTideSeats$Shore;)Z"⟩
def RX2 : String := "TideSeats$Route"
def TX2 : u_T := fun k => match k with
  | 0 => ("TideSeats$Route", "behind", "[[I", true)
  | 1 => ("TideSeats$Route", "far", "[I", true)
  | 2 => ("TideSeats$Route", "row", "[I", true)
  | 3 => ("TideSeats$Route", "pools", "I", false)
  | 4 => ("TideSeats$Route", "moves", "I", false)
  | _ => ("TideSeats$Route", "length", "I", false)
def tyX2 : Nat → FieldType := fun k => match k with
  | 0 => .array (.array .int)
  | 1 => .array .int
  | 2 => .array .int
  | 3 => .int
  | 4 => .int
  | _ => .int
abbrev wsX20 : List Cond := u_ws RX2 TX2 6
theorem nmX2 : ∀ a, a < 6 → ∀ b, b < 6 → a ≠ b → (TX2 a).2.1 ≠ (TX2 b).2.1 := by decide +kernel
theorem tyX2_ok : ∀ k, k < 6 → parseFieldDescriptor (TX2 k).2.2.1 = some (tyX2 k) := by decide +kernel
abbrev cX2_init : ByteArray := prog_4_method_1_code
def yX2_init : MethodName := ⟨RX2, "<init>", "()V"⟩
abbrev cX2_begin : ByteArray := prog_4_method_2_code
def yX2_begin : MethodName := ⟨RX2, "begin", "(II)V"⟩
abbrev cX2_lay : ByteArray := prog_4_method_3_code
def yX2_lay : MethodName := ⟨RX2, "lay", "(III)V"⟩
abbrev cX2_find : ByteArray := prog_4_method_4_code
def yX2_find : MethodName := ⟨RX2, "find", "(II)V"⟩
abbrev cX2_moveAt : ByteArray := prog_4_method_5_code
def yX2_moveAt : MethodName := ⟨RX2, "moveAt", "(I)I"⟩
abbrev cX2_measure : ByteArray := prog_4_method_6_code
def yX2_measure : MethodName := ⟨RX2, "measure", "(I)V"⟩
abbrev cX2_moveTo : ByteArray := prog_4_method_7_code
def yX2_moveTo : MethodName := ⟨RX2, "moveTo", "(II)I"⟩
def RX3 : String := "TideSeats$Sheet"
def TX3 : u_T := fun k => match k with
  | 0 => ("TideSeats$Sheet", "cells", "[I", true)
  | 1 => ("TideSeats$Sheet", "isThere", "Z", false)
  | 2 => ("TideSeats$Sheet", "lane", "I", false)
  | _ => ("TideSeats$Sheet", "size", "I", false)
def tyX3 : Nat → FieldType := fun k => match k with
  | 0 => .array .int
  | 1 => .boolean
  | 2 => .int
  | _ => .int
abbrev wsX30 : List Cond := u_ws RX3 TX3 4
theorem nmX3 : ∀ a, a < 4 → ∀ b, b < 4 → a ≠ b → (TX3 a).2.1 ≠ (TX3 b).2.1 := by decide +kernel
theorem tyX3_ok : ∀ k, k < 4 → parseFieldDescriptor (TX3 k).2.2.1 = some (tyX3 k) := by decide +kernel
abbrev cX3_init : ByteArray := prog_5_method_1_code
def yX3_init : MethodName := ⟨RX3, "<init>", "()V"⟩
abbrev cX3_renew : ByteArray := prog_5_method_2_code
def yX3_renew : MethodName := ⟨RX3, "renew", "(II)V"⟩
abbrev cX3_has : ByteArray := prog_5_method_3_code
def yX3_has : MethodName := ⟨RX3, "has", "(II)Z"⟩
abbrev cX3_areWithin : ByteArray := prog_5_method_4_code
def yX3_areWithin : MethodName := ⟨RX3, "areWithin", "(III)Z"⟩
abbrev cX3_cut : ByteArray := prog_5_method_5_code
def yX3_cut : MethodName := ⟨RX3, "cut", "(I)I"⟩
def RX4 : String := "TideSeats$Shore"
def TX4 : u_T := fun k => match k with
  | 0 => ("TideSeats$Shore", "stream", "I", false)
  | 1 => ("TideSeats$Shore", "mild", "I", false)
  | 2 => ("TideSeats$Shore", "reach", "I", false)
  | 3 => ("TideSeats$Shore", "pools", "I", false)
  | 4 => ("TideSeats$Shore", "heights", "[I", true)
  | 5 => ("TideSeats$Shore", "depths", "[I", true)
  | 6 => ("TideSeats$Shore", "members", "I", false)
  | 7 => ("TideSeats$Shore", "kindOf", "[I", true)
  | 8 => ("TideSeats$Shore", "seats", "[I", true)
  | _ => ("TideSeats$Shore", "views", "[I", true)
def tyX4 : Nat → FieldType := fun k => match k with
  | 0 => .int
  | 1 => .int
  | 2 => .int
  | 3 => .int
  | 4 => .array .int
  | 5 => .array .int
  | 6 => .int
  | 7 => .array .int
  | 8 => .array .int
  | _ => .array .int
abbrev wsX40 : List Cond := u_ws RX4 TX4 10
theorem nmX4 : ∀ a, a < 10 → ∀ b, b < 10 → a ≠ b → (TX4 a).2.1 ≠ (TX4 b).2.1 := by decide +kernel
theorem tyX4_ok : ∀ k, k < 10 → parseFieldDescriptor (TX4 k).2.2.1 = some (tyX4 k) := by decide +kernel
abbrev cX4_init : ByteArray := prog_6_method_1_code
def yX4_init : MethodName := ⟨RX4, "<init>", "()V"⟩
abbrev cX4_become : ByteArray := prog_6_method_2_code
def yX4_become : MethodName := ⟨RX4, "become", "(LTideSeats$Shore;)V"⟩
abbrev cX4_readsAll : ByteArray := prog_6_method_3_code
def yX4_readsAll : MethodName := ⟨RX4, "readsAll", "(LTideSeats$Reader;)Z"⟩
abbrev cX4_readsHead : ByteArray := prog_6_method_4_code
def yX4_readsHead : MethodName := ⟨RX4, "readsHead", "(LTideSeats$Reader;)Z"⟩
abbrev cX4_readsPools : ByteArray := prog_6_method_5_code
def yX4_readsPools : MethodName := ⟨RX4, "readsPools", "(LTideSeats$Reader;)Z"⟩
abbrev cX4_readsPool : ByteArray := prog_6_method_6_code
def yX4_readsPool : MethodName := ⟨RX4, "readsPool", "(LTideSeats$Reader;)Z"⟩
abbrev cX4_readsMembers : ByteArray := prog_6_method_7_code
def yX4_readsMembers : MethodName := ⟨RX4, "readsMembers", "(LTideSeats$Reader;)Z"⟩
abbrev cX4_readsMember : ByteArray := prog_6_method_8_code
def yX4_readsMember : MethodName := ⟨RX4, "readsMember", "(LTideSeats$Reader;)Z"⟩
abbrev cX4_sittersOf : ByteArray := prog_6_method_9_code
def yX4_sittersOf : MethodName := ⟨RX4, "sittersOf", "(I)I"⟩
abbrev cX4_sittersIn : ByteArray := prog_6_method_10_code
def yX4_sittersIn : MethodName := ⟨RX4, "sittersIn", "(I)I"⟩
abbrev cX4_spanOf : ByteArray := prog_6_method_11_code
def yX4_spanOf : MethodName := ⟨RX4, "spanOf", "(I)I"⟩
abbrev cX4_poolsSatIn : ByteArray := prog_6_method_12_code
def yX4_poolsSatIn : MethodName := ⟨RX4, "poolsSatIn", "()I"⟩
abbrev cX4_fullestPool : ByteArray := prog_6_method_13_code
def yX4_fullestPool : MethodName := ⟨RX4, "fullestPool", "()I"⟩
abbrev cX4_stepsOf : ByteArray := prog_6_method_14_code
def yX4_stepsOf : MethodName := ⟨RX4, "stepsOf", "(I)I"⟩
abbrev cX4_isWashed : ByteArray := prog_6_method_15_code
def yX4_isWashed : MethodName := ⟨RX4, "isWashed", "(II)Z"⟩
abbrev cX4_washedBy : ByteArray := prog_6_method_16_code
def yX4_washedBy : MethodName := ⟨RX4, "washedBy", "(I)I"⟩
abbrev cX4_poolBehind : ByteArray := prog_6_method_17_code
def yX4_poolBehind : MethodName := ⟨RX4, "poolBehind", "(III)I"⟩
abbrev cX4_nextWashed : ByteArray := prog_6_method_18_code
def yX4_nextWashed : MethodName := ⟨RX4, "nextWashed", "(II)I"⟩
abbrev cX4_seatBehind : ByteArray := prog_6_method_19_code
def yX4_seatBehind : MethodName := ⟨RX4, "seatBehind", "(II)I"⟩
abbrev cX4_carryAll : ByteArray := prog_6_method_20_code
def yX4_carryAll : MethodName := ⟨RX4, "carryAll", "(I)I"⟩
abbrev cX4_friendsOf : ByteArray := prog_6_method_21_code
def yX4_friendsOf : MethodName := ⟨RX4, "friendsOf", "(I)I"⟩
abbrev cX4_poolsWon : ByteArray := prog_6_method_22_code
def yX4_poolsWon : MethodName := ⟨RX4, "poolsWon", "(I)I"⟩
abbrev cX4_isLawBy : ByteArray := prog_6_method_23_code
def yX4_isLawBy : MethodName := ⟨RX4, "isLawBy", "(I)Z"⟩
abbrev cX4_driftIn : ByteArray := prog_6_method_24_code
def yX4_driftIn : MethodName := ⟨RX4, "driftIn", "(II)I"⟩
abbrev cX4_isInReach : ByteArray := prog_6_method_25_code
def yX4_isInReach : MethodName := ⟨RX4, "isInReach", "(II)Z"⟩
def RX5 : String := "TideSeats"
def TX5 : u_T := fun k => match k with
  | 0 => ("TideSeats", "sheets", "[LTideSeats$Sheet;", true)
  | 1 => ("TideSeats", "reader", "LTideSeats$Reader;", true)
  | 2 => ("TideSeats", "readings", "LTideSeats$Readings;", true)
  | 3 => ("TideSeats", "route", "LTideSeats$Route;", true)
  | 4 => ("TideSeats", "shore", "LTideSeats$Shore;", false)
  | 5 => ("TideSeats", "trial", "LTideSeats$Shore;", false)
  | 6 => ("TideSeats", "traced", "I", false)
  | _ => ("TideSeats", "latestFault", "I", false)
def tyX5 : Nat → FieldType := fun k => match k with
  | 0 => .array (.object "TideSeats$Sheet")
  | 1 => .object "TideSeats$Reader"
  | 2 => .object "TideSeats$Readings"
  | 3 => .object "TideSeats$Route"
  | 4 => .object "TideSeats$Shore"
  | 5 => .object "TideSeats$Shore"
  | 6 => .int
  | _ => .int
abbrev wsX50 : List Cond := u_ws RX5 TX5 8
theorem nmX5 : ∀ a, a < 8 → ∀ b, b < 8 → a ≠ b → (TX5 a).2.1 ≠ (TX5 b).2.1 := by decide +kernel
theorem tyX5_ok : ∀ k, k < 8 → parseFieldDescriptor (TX5 k).2.2.1 = some (tyX5 k) := by decide +kernel
abbrev cX5_init : ByteArray := prog_1_method_1_code
def yX5_init : MethodName := ⟨RX5, "<init>", "()V"⟩
abbrev cX5_shore : ByteArray := prog_1_method_2_code
def yX5_shore : MethodName := ⟨RX5, "shore", "(IIII)I"⟩
abbrev cX5_ofPool : ByteArray := prog_1_method_3_code
def yX5_ofPool : MethodName := ⟨RX5, "ofPool", "(II)I"⟩
abbrev cX5_ofMember : ByteArray := prog_1_method_4_code
def yX5_ofMember : MethodName := ⟨RX5, "ofMember", "(II)I"⟩
abbrev cX5_raise : ByteArray := prog_1_method_5_code
def yX5_raise : MethodName := ⟨RX5, "raise", "(II)I"⟩
abbrev cX5_sway : ByteArray := prog_1_method_6_code
def yX5_sway : MethodName := ⟨RX5, "sway", "(II)I"⟩
abbrev cX5_seat : ByteArray := prog_1_method_7_code
def yX5_seat : MethodName := ⟨RX5, "seat", "(II)I"⟩
abbrev cX5_flow : ByteArray := prog_1_method_8_code
def yX5_flow : MethodName := ⟨RX5, "flow", "(I)I"⟩
abbrev cX5_calm : ByteArray := prog_1_method_9_code
def yX5_calm : MethodName := ⟨RX5, "calm", "(I)I"⟩
abbrev cX5_leap : ByteArray := prog_1_method_10_code
def yX5_leap : MethodName := ⟨RX5, "leap", "(I)I"⟩
abbrev cX5_washed : ByteArray := prog_1_method_11_code
def yX5_washed : MethodName := ⟨RX5, "washed", "(I)I"⟩
abbrev cX5_carried : ByteArray := prog_1_method_12_code
def yX5_carried : MethodName := ⟨RX5, "carried", "(II)I"⟩
abbrev cX5_tide : ByteArray := prog_1_method_13_code
def yX5_tide : MethodName := ⟨RX5, "tide", "(I)I"⟩
abbrev cX5_ayes : ByteArray := prog_1_method_14_code
def yX5_ayes : MethodName := ⟨RX5, "ayes", "(I)I"⟩
abbrev cX5_passes : ByteArray := prog_1_method_15_code
def yX5_passes : MethodName := ⟨RX5, "passes", "(I)I"⟩
abbrev cX5_law : ByteArray := prog_1_method_16_code
def yX5_law : MethodName := ⟨RX5, "law", "(I)I"⟩
abbrev cX5_year : ByteArray := prog_1_method_17_code
def yX5_year : MethodName := ⟨RX5, "year", "(IIIII)I"⟩
abbrev cX5_yearTold : ByteArray := prog_1_method_18_code
def yX5_yearTold : MethodName := ⟨RX5, "yearTold", "(LTideSeats$Sheet;III)I"⟩
abbrev cX5_firstWrong : ByteArray := prog_1_method_19_code
def yX5_firstWrong : MethodName := ⟨RX5, "firstWrong", "(LTideSeats$Sheet;II)I"⟩
abbrev cX5_endOfYear : ByteArray := prog_1_method_20_code
def yX5_endOfYear : MethodName := ⟨RX5, "endOfYear", "(I)I"⟩
abbrev cX5_best : ByteArray := prog_1_method_21_code
def yX5_best : MethodName := ⟨RX5, "best", "(I)I"⟩
abbrev cX5_turn : ByteArray := prog_1_method_22_code
def yX5_turn : MethodName := ⟨RX5, "turn", "(I)I"⟩
abbrev cX5_fewestToTurn : ByteArray := prog_1_method_23_code
def yX5_fewestToTurn : MethodName := ⟨RX5, "fewestToTurn", "(I)I"⟩
abbrev cX5_drift : ByteArray := prog_1_method_24_code
def yX5_drift : MethodName := ⟨RX5, "drift", "(IIIIII)I"⟩
abbrev cX5_driftOf : ByteArray := prog_1_method_25_code
def yX5_driftOf : MethodName := ⟨RX5, "driftOf", "(ILTideSeats$Sheet;II)I"⟩
abbrev cX5_originsOf : ByteArray := prog_1_method_26_code
def yX5_originsOf : MethodName := ⟨RX5, "originsOf", "(ILTideSeats$Sheet;II)I"⟩
abbrev cX5_leaps : ByteArray := prog_1_method_27_code
def yX5_leaps : MethodName := ⟨RX5, "leaps", "(III)I"⟩
abbrev cX5_layLeaps : ByteArray := prog_1_method_28_code
def yX5_layLeaps : MethodName := ⟨RX5, "layLeaps", "()V"⟩
abbrev cX5_elect : ByteArray := prog_1_method_29_code
def yX5_elect : MethodName := ⟨RX5, "elect", "(III)I"⟩
abbrev cX5_layTides : ByteArray := prog_1_method_30_code
def yX5_layTides : MethodName := ⟨RX5, "layTides", "(I)V"⟩
abbrev cX5_reading : ByteArray := prog_1_method_31_code
def yX5_reading : MethodName := ⟨RX5, "reading", "(III)I"⟩
abbrev cX5_back : ByteArray := prog_1_method_32_code
def yX5_back : MethodName := ⟨RX5, "back", "(I)I"⟩
abbrev cX5_heights : ByteArray := prog_1_method_33_code
def yX5_heights : MethodName := ⟨RX5, "heights", "(I)I"⟩
abbrev cX5_kinds : ByteArray := prog_1_method_34_code
def yX5_kinds : MethodName := ⟨RX5, "kinds", "(I)I"⟩
abbrev cX5_streams : ByteArray := prog_1_method_35_code
def yX5_streams : MethodName := ⟨RX5, "streams", "()I"⟩
abbrev cX5_odds : ByteArray := prog_1_method_36_code
def yX5_odds : MethodName := ⟨RX5, "odds", "(III)J"⟩
abbrev cX5_pairsOfTides : ByteArray := prog_1_method_37_code
def yX5_pairsOfTides : MethodName := ⟨RX5, "pairsOfTides", "(II)I"⟩
abbrev cX5_commonDivisor : ByteArray := prog_1_method_38_code
def yX5_commonDivisor : MethodName := ⟨RX5, "commonDivisor", "(II)I"⟩
abbrev cX5_sheet : ByteArray := prog_1_method_39_code
def yX5_sheet : MethodName := ⟨RX5, "sheet", "(III)I"⟩
abbrev cX5_lose : ByteArray := prog_1_method_40_code
def yX5_lose : MethodName := ⟨RX5, "lose", "(I)I"⟩
abbrev cX5_put : ByteArray := prog_1_method_41_code
def yX5_put : MethodName := ⟨RX5, "put", "(III)I"⟩
abbrev cX5_cell : ByteArray := prog_1_method_42_code
def yX5_cell : MethodName := ⟨RX5, "cell", "(III)J"⟩
abbrev cX5_copy : ByteArray := prog_1_method_43_code
def yX5_copy : MethodName := ⟨RX5, "copy", "(IIIII)I"⟩
abbrev cX5_tell : ByteArray := prog_1_method_44_code
def yX5_tell : MethodName := ⟨RX5, "tell", "(I)I"⟩
abbrev cX5_shrimpBody : ByteArray := prog_1_method_45_code
def yX5_shrimpBody : MethodName := ⟨RX5, "shrimpBody", "(I)I"⟩
abbrev cX5_crabBody : ByteArray := prog_1_method_46_code
def yX5_crabBody : MethodName := ⟨RX5, "crabBody", "(I)I"⟩
abbrev cX5_limpetBody : ByteArray := prog_1_method_47_code
def yX5_limpetBody : MethodName := ⟨RX5, "limpetBody", "(I)I"⟩
abbrev cX5_name : ByteArray := prog_1_method_48_code
def yX5_name : MethodName := ⟨RX5, "name", "(I)I"⟩
abbrev cX5_leave : ByteArray := prog_1_method_49_code
def yX5_leave : MethodName := ⟨RX5, "leave", "(I)V"⟩
abbrev cX5_as : ByteArray := prog_1_method_50_code
def yX5_as : MethodName := ⟨RX5, "as", "(II)I"⟩
abbrev cX5_trace : ByteArray := prog_1_method_51_code
def yX5_trace : MethodName := ⟨RX5, "trace", "()I"⟩
abbrev cX5_fault : ByteArray := prog_1_method_52_code
def yX5_fault : MethodName := ⟨RX5, "fault", "()I"⟩
abbrev cX5_many : ByteArray := prog_1_method_53_code
def yX5_many : MethodName := ⟨RX5, "many", "(I)I"⟩
abbrev cX5_isWithin : ByteArray := prog_1_method_54_code
def yX5_isWithin : MethodName := ⟨RX5, "isWithin", "(III)Z"⟩
abbrev cX5_isDigit : ByteArray := prog_1_method_55_code
def yX5_isDigit : MethodName := ⟨RX5, "isDigit", "(I)Z"⟩
abbrev cX5_isSheet : ByteArray := prog_1_method_56_code
def yX5_isSheet : MethodName := ⟨RX5, "isSheet", "(I)Z"⟩
abbrev cX5_isLane : ByteArray := prog_1_method_57_code
def yX5_isLane : MethodName := ⟨RX5, "isLane", "(I)Z"⟩
abbrev cX5_isToldOfYears : ByteArray := prog_1_method_58_code
def yX5_isToldOfYears : MethodName := ⟨RX5, "isToldOfYears", "(I)Z"⟩
abbrev cX5_oneIf : ByteArray := prog_1_method_59_code
def yX5_oneIf : MethodName := ⟨RX5, "oneIf", "(Z)I"⟩
abbrev cX5_isPool : ByteArray := prog_1_method_60_code
def yX5_isPool : MethodName := ⟨RX5, "isPool", "(I)Z"⟩
abbrev cX5_isMember : ByteArray := prog_1_method_61_code
def yX5_isMember : MethodName := ⟨RX5, "isMember", "(I)Z"⟩
abbrev cX5_hasShore : ByteArray := prog_1_method_62_code
def yX5_hasShore : MethodName := ⟨RX5, "hasShore", "()Z"⟩
abbrev cX5_refusalUnless : ByteArray := prog_1_method_63_code
def yX5_refusalUnless : MethodName := ⟨RX5, "refusalUnless", "(Z)I"⟩
abbrev cX5_refusalOfRow : ByteArray := prog_1_method_64_code
def yX5_refusalOfRow : MethodName := ⟨RX5, "refusalOfRow", "(IIIIZ)I"⟩
abbrev cX5_faulted : ByteArray := prog_1_method_65_code
def yX5_faulted : MethodName := ⟨RX5, "faulted", "(I)I"⟩
abbrev cX5_rowFault : ByteArray := prog_1_method_66_code
def yX5_rowFault : MethodName := ⟨RX5, "rowFault", "(LTideSeats$Sheet;III)I"⟩
abbrev cX5_swapShores : ByteArray := prog_1_method_67_code
def yX5_swapShores : MethodName := ⟨RX5, "swapShores", "()V"⟩
def RX6 : String := "TideSeatsModel"
def TX6 : u_T := fun k => match k with
  | 0 => ("TideSeatsModel", "fault", "I", false)
  | 1 => ("TideSeatsModel", "trace", "I", false)
  | 2 => ("TideSeatsModel", "sorts", "[I", true)
  | 3 => ("TideSeatsModel", "sheetLong", "[I", true)
  | 4 => ("TideSeatsModel", "cells", "[I", true)
  | 5 => ("TideSeatsModel", "pools", "I", false)
  | 6 => ("TideSeatsModel", "members", "I", false)
  | 7 => ("TideSeatsModel", "stream", "I", false)
  | 8 => ("TideSeatsModel", "mild", "I", false)
  | 9 => ("TideSeatsModel", "leapNow", "I", false)
  | 10 => ("TideSeatsModel", "height", "[I", true)
  | 11 => ("TideSeatsModel", "depth", "[I", true)
  | 12 => ("TideSeatsModel", "kind", "[I", true)
  | 13 => ("TideSeatsModel", "poolOf", "[I", true)
  | 14 => ("TideSeatsModel", "view", "[I", true)
  | 15 => ("TideSeatsModel", "at", "I", false)
  | 16 => ("TideSeatsModel", "readStream", "I", false)
  | 17 => ("TideSeatsModel", "readMild", "I", false)
  | 18 => ("TideSeatsModel", "readLeap", "I", false)
  | 19 => ("TideSeatsModel", "readPools", "I", false)
  | 20 => ("TideSeatsModel", "readMembers", "I", false)
  | 21 => ("TideSeatsModel", "readHeight", "[I", true)
  | 22 => ("TideSeatsModel", "readDepth", "[I", true)
  | 23 => ("TideSeatsModel", "readKind", "[I", true)
  | 24 => ("TideSeatsModel", "readPoolOf", "[I", true)
  | 25 => ("TideSeatsModel", "readView", "[I", true)
  | 26 => ("TideSeatsModel", "kept", "[I", true)
  | 27 => ("TideSeatsModel", "moved", "I", false)
  | 28 => ("TideSeatsModel", "left", "[I", true)
  | 29 => ("TideSeatsModel", "readings", "I", false)
  | 30 => ("TideSeatsModel", "readWho", "[I", true)
  | 31 => ("TideSeatsModel", "readTide", "[I", true)
  | _ => ("TideSeatsModel", "readTo", "[I", true)
def tyX6 : Nat → FieldType := fun k => match k with
  | 0 => .int
  | 1 => .int
  | 2 => .array .int
  | 3 => .array .int
  | 4 => .array .int
  | 5 => .int
  | 6 => .int
  | 7 => .int
  | 8 => .int
  | 9 => .int
  | 10 => .array .int
  | 11 => .array .int
  | 12 => .array .int
  | 13 => .array .int
  | 14 => .array .int
  | 15 => .int
  | 16 => .int
  | 17 => .int
  | 18 => .int
  | 19 => .int
  | 20 => .int
  | 21 => .array .int
  | 22 => .array .int
  | 23 => .array .int
  | 24 => .array .int
  | 25 => .array .int
  | 26 => .array .int
  | 27 => .int
  | 28 => .array .int
  | 29 => .int
  | 30 => .array .int
  | 31 => .array .int
  | _ => .array .int
abbrev wsX60 : List Cond := u_ws RX6 TX6 33
theorem nmX6 : ∀ a, a < 33 → ∀ b, b < 33 → a ≠ b → (TX6 a).2.1 ≠ (TX6 b).2.1 := by decide +kernel
theorem tyX6_ok : ∀ k, k < 33 → parseFieldDescriptor (TX6 k).2.2.1 = some (tyX6 k) := by decide +kernel
abbrev cX6_init : ByteArray := prog_8_method_1_code
def yX6_init : MethodName := ⟨RX6, "<init>", "()V"⟩
abbrev cX6_fails : ByteArray := prog_8_method_3_code
def yX6_fails : MethodName := ⟨RX6, "fails", "(I)I"⟩
abbrev cX6_lost : ByteArray := prog_8_method_4_code
def yX6_lost : MethodName := ⟨RX6, "lost", "(I)J"⟩
abbrev cX6_within : ByteArray := prog_8_method_5_code
def yX6_within : MethodName := ⟨RX6, "within", "(III)Z"⟩
abbrev cX6_isSheet : ByteArray := prog_8_method_6_code
def yX6_isSheet : MethodName := ⟨RX6, "isSheet", "(I)Z"⟩
abbrev cX6_isSort : ByteArray := prog_8_method_7_code
def yX6_isSort : MethodName := ⟨RX6, "isSort", "(I)Z"⟩
abbrev cX6_against : ByteArray := prog_8_method_8_code
def yX6_against : MethodName := ⟨RX6, "against", "(IIII)I"⟩
abbrev cX6_isPool : ByteArray := prog_8_method_9_code
def yX6_isPool : MethodName := ⟨RX6, "isPool", "(I)Z"⟩
abbrev cX6_isMember : ByteArray := prog_8_method_10_code
def yX6_isMember : MethodName := ⟨RX6, "isMember", "(I)Z"⟩
abbrev cX6_isDigit : ByteArray := prog_8_method_11_code
def yX6_isDigit : MethodName := ⟨RX6, "isDigit", "(I)Z"⟩
abbrev cX6_digit : ByteArray := prog_8_method_12_code
def yX6_digit : MethodName := ⟨RX6, "digit", "(III)I"⟩
abbrev cX6_isSign : ByteArray := prog_8_method_13_code
def yX6_isSign : MethodName := ⟨RX6, "isSign", "(II)Z"⟩
abbrev cX6_shore : ByteArray := prog_8_method_14_code
def yX6_shore : MethodName := ⟨RX6, "shore", "(IIII)I"⟩
abbrev cX6_takeShore : ByteArray := prog_8_method_15_code
def yX6_takeShore : MethodName := ⟨RX6, "takeShore", "()V"⟩
abbrev cX6_readShore : ByteArray := prog_8_method_16_code
def yX6_readShore : MethodName := ⟨RX6, "readShore", "(I)Z"⟩
abbrev cX6_readPool : ByteArray := prog_8_method_17_code
def yX6_readPool : MethodName := ⟨RX6, "readPool", "(I)Z"⟩
abbrev cX6_readMember : ByteArray := prog_8_method_18_code
def yX6_readMember : MethodName := ⟨RX6, "readMember", "(I)Z"⟩
abbrev cX6_sitters : ByteArray := prog_8_method_19_code
def yX6_sitters : MethodName := ⟨RX6, "sitters", "(I)I"⟩
abbrev cX6_size : ByteArray := prog_8_method_20_code
def yX6_size : MethodName := ⟨RX6, "size", "(I)I"⟩
abbrev cX6_farOf : ByteArray := prog_8_method_21_code
def yX6_farOf : MethodName := ⟨RX6, "farOf", "(I)I"⟩
abbrev cX6_ofPool : ByteArray := prog_8_method_22_code
def yX6_ofPool : MethodName := ⟨RX6, "ofPool", "(II)I"⟩
abbrev cX6_ofMember : ByteArray := prog_8_method_23_code
def yX6_ofMember : MethodName := ⟨RX6, "ofMember", "(II)I"⟩
abbrev cX6_raise : ByteArray := prog_8_method_24_code
def yX6_raise : MethodName := ⟨RX6, "raise", "(II)I"⟩
abbrev cX6_sway : ByteArray := prog_8_method_25_code
def yX6_sway : MethodName := ⟨RX6, "sway", "(II)I"⟩
abbrev cX6_seat : ByteArray := prog_8_method_26_code
def yX6_seat : MethodName := ⟨RX6, "seat", "(II)I"⟩
abbrev cX6_flow : ByteArray := prog_8_method_27_code
def yX6_flow : MethodName := ⟨RX6, "flow", "(I)I"⟩
abbrev cX6_calm : ByteArray := prog_8_method_28_code
def yX6_calm : MethodName := ⟨RX6, "calm", "(I)I"⟩
abbrev cX6_leap : ByteArray := prog_8_method_29_code
def yX6_leap : MethodName := ⟨RX6, "leap", "(I)I"⟩
abbrev cX6_washedBy : ByteArray := prog_8_method_30_code
def yX6_washedBy : MethodName := ⟨RX6, "washedBy", "(I)I"⟩
abbrev cX6_carriedFrom : ByteArray := prog_8_method_31_code
def yX6_carriedFrom : MethodName := ⟨RX6, "carriedFrom", "(III)I"⟩
abbrev cX6_washed : ByteArray := prog_8_method_32_code
def yX6_washed : MethodName := ⟨RX6, "washed", "(I)I"⟩
abbrev cX6_carried : ByteArray := prog_8_method_33_code
def yX6_carried : MethodName := ⟨RX6, "carried", "(II)I"⟩
abbrev cX6_carryAll : ByteArray := prog_8_method_34_code
def yX6_carryAll : MethodName := ⟨RX6, "carryAll", "(I)I"⟩
abbrev cX6_tide : ByteArray := prog_8_method_35_code
def yX6_tide : MethodName := ⟨RX6, "tide", "(I)I"⟩
abbrev cX6_ayesOf : ByteArray := prog_8_method_36_code
def yX6_ayesOf : MethodName := ⟨RX6, "ayesOf", "(I)I"⟩
abbrev cX6_passesBy : ByteArray := prog_8_method_37_code
def yX6_passesBy : MethodName := ⟨RX6, "passesBy", "(I)I"⟩
abbrev cX6_occupied : ByteArray := prog_8_method_38_code
def yX6_occupied : MethodName := ⟨RX6, "occupied", "()I"⟩
abbrev cX6_isLawBy : ByteArray := prog_8_method_39_code
def yX6_isLawBy : MethodName := ⟨RX6, "isLawBy", "(I)Z"⟩
abbrev cX6_ayes : ByteArray := prog_8_method_40_code
def yX6_ayes : MethodName := ⟨RX6, "ayes", "(I)I"⟩
abbrev cX6_passes : ByteArray := prog_8_method_41_code
def yX6_passes : MethodName := ⟨RX6, "passes", "(I)I"⟩
abbrev cX6_law : ByteArray := prog_8_method_42_code
def yX6_law : MethodName := ⟨RX6, "law", "(I)I"⟩
abbrev cX6_goYear : ByteArray := prog_8_method_43_code
def yX6_goYear : MethodName := ⟨RX6, "goYear", "(II)I"⟩
abbrev cX6_year : ByteArray := prog_8_method_44_code
def yX6_year : MethodName := ⟨RX6, "year", "(IIIII)I"⟩
abbrev cX6_tellYear : ByteArray := prog_8_method_45_code
def yX6_tellYear : MethodName := ⟨RX6, "tellYear", "(I)I"⟩
abbrev cX6_best : ByteArray := prog_8_method_46_code
def yX6_best : MethodName := ⟨RX6, "best", "(I)I"⟩
abbrev cX6_turn : ByteArray := prog_8_method_47_code
def yX6_turn : MethodName := ⟨RX6, "turn", "(I)I"⟩
abbrev cX6_driftOf : ByteArray := prog_8_method_48_code
def yX6_driftOf : MethodName := ⟨RX6, "driftOf", "(III)I"⟩
abbrev cX6_drift : ByteArray := prog_8_method_49_code
def yX6_drift : MethodName := ⟨RX6, "drift", "(IIIIII)I"⟩
abbrev cX6_isLeap : ByteArray := prog_8_method_50_code
def yX6_isLeap : MethodName := ⟨RX6, "isLeap", "(II)Z"⟩
abbrev cX6_findLeaps : ByteArray := prog_8_method_51_code
def yX6_findLeaps : MethodName := ⟨RX6, "findLeaps", "(I)V"⟩
abbrev cX6_nextLeap : ByteArray := prog_8_method_52_code
def yX6_nextLeap : MethodName := ⟨RX6, "nextLeap", "(I)I"⟩
abbrev cX6_leaps : ByteArray := prog_8_method_53_code
def yX6_leaps : MethodName := ⟨RX6, "leaps", "(III)I"⟩
abbrev cX6_findTides : ByteArray := prog_8_method_54_code
def yX6_findTides : MethodName := ⟨RX6, "findTides", "(II)V"⟩
abbrev cX6_nextTide : ByteArray := prog_8_method_55_code
def yX6_nextTide : MethodName := ⟨RX6, "nextTide", "(II)I"⟩
abbrev cX6_elect : ByteArray := prog_8_method_56_code
def yX6_elect : MethodName := ⟨RX6, "elect", "(III)I"⟩
abbrev cX6_reading : ByteArray := prog_8_method_57_code
def yX6_reading : MethodName := ⟨RX6, "reading", "(III)I"⟩
abbrev cX6_back : ByteArray := prog_8_method_58_code
def yX6_back : MethodName := ⟨RX6, "back", "(I)I"⟩
abbrev cX6_areSo : ByteArray := prog_8_method_59_code
def yX6_areSo : MethodName := ⟨RX6, "areSo", "()Z"⟩
abbrev cX6_heights : ByteArray := prog_8_method_60_code
def yX6_heights : MethodName := ⟨RX6, "heights", "(I)I"⟩
abbrev cX6_kinds : ByteArray := prog_8_method_61_code
def yX6_kinds : MethodName := ⟨RX6, "kinds", "(I)I"⟩
abbrev cX6_streams : ByteArray := prog_8_method_62_code
def yX6_streams : MethodName := ⟨RX6, "streams", "()I"⟩
abbrev cX6_inLeastTerms : ByteArray := prog_8_method_63_code
def yX6_inLeastTerms : MethodName := ⟨RX6, "inLeastTerms", "(JJI)J"⟩
abbrev cX6_odds : ByteArray := prog_8_method_64_code
def yX6_odds : MethodName := ⟨RX6, "odds", "(III)J"⟩
abbrev cX6_sheet : ByteArray := prog_8_method_65_code
def yX6_sheet : MethodName := ⟨RX6, "sheet", "(III)I"⟩
abbrev cX6_lose : ByteArray := prog_8_method_66_code
def yX6_lose : MethodName := ⟨RX6, "lose", "(I)I"⟩
abbrev cX6_put : ByteArray := prog_8_method_67_code
def yX6_put : MethodName := ⟨RX6, "put", "(III)I"⟩
abbrev cX6_cell : ByteArray := prog_8_method_68_code
def yX6_cell : MethodName := ⟨RX6, "cell", "(III)J"⟩
abbrev cX6_copy : ByteArray := prog_8_method_69_code
def yX6_copy : MethodName := ⟨RX6, "copy", "(IIIII)I"⟩
abbrev cX6_begins : ByteArray := prog_8_method_70_code
def yX6_begins : MethodName := ⟨RX6, "begins", "(I)V"⟩
abbrev cX6_tell : ByteArray := prog_8_method_71_code
def yX6_tell : MethodName := ⟨RX6, "tell", "(I)I"⟩
abbrev cX6_name : ByteArray := prog_8_method_72_code
def yX6_name : MethodName := ⟨RX6, "name", "(I)I"⟩
abbrev cX6_as : ByteArray := prog_8_method_73_code
def yX6_as : MethodName := ⟨RX6, "as", "(II)I"⟩
abbrev cX6_trace : ByteArray := prog_8_method_74_code
def yX6_trace : MethodName := ⟨RX6, "trace", "()I"⟩
abbrev cX6_fault : ByteArray := prog_8_method_75_code
def yX6_fault : MethodName := ⟨RX6, "fault", "()I"⟩
abbrev cX6_many : ByteArray := prog_8_method_76_code
def yX6_many : MethodName := ⟨RX6, "many", "(I)I"⟩
def RJ6 : String := "java/lang/Integer"
def TJ6 : u_T := fun k => match k with
  | _ => ("", "", "", false)
def tyJ6 : Nat → FieldType := fun k => match k with
  | _ => .int
abbrev wsJ60 : List Cond := u_ws RJ6 TJ6 0
theorem nmJ6 : ∀ a, a < 0 → ∀ b, b < 0 → a ≠ b → (TJ6 a).2.1 ≠ (TJ6 b).2.1 := by decide +kernel
theorem tyJ6_ok : ∀ k, k < 0 → parseFieldDescriptor (TJ6 k).2.2.1 = some (tyJ6 k) := by decide +kernel
abbrev cJ6_bitCount_0f7a4 : ByteArray := prog_9_method_49_code
def yJ6_bitCount_0f7a4 : MethodName := ⟨RJ6, "bitCount", "(I)I"⟩
def RJ9 : String := "java/lang/Math"
def TJ9 : u_T := fun k => match k with
  | _ => ("", "", "", false)
def tyJ9 : Nat → FieldType := fun k => match k with
  | _ => .int
abbrev wsJ90 : List Cond := u_ws RJ9 TJ9 0
theorem nmJ9 : ∀ a, a < 0 → ∀ b, b < 0 → a ≠ b → (TJ9 a).2.1 ≠ (TJ9 b).2.1 := by decide +kernel
theorem tyJ9_ok : ∀ k, k < 0 → parseFieldDescriptor (TJ9 k).2.2.1 = some (tyJ9 k) := by decide +kernel
abbrev cJ9_abs_0f7a4 : ByteArray := prog_10_method_59_code
def yJ9_abs_0f7a4 : MethodName := ⟨RJ9, "abs", "(I)I"⟩
def RJ10 : String := "java/lang/System"
def TJ10 : u_T := fun k => match k with
  | _ => ("", "", "", false)
def tyJ10 : Nat → FieldType := fun k => match k with
  | _ => .int
abbrev wsJ100 : List Cond := u_ws RJ10 TJ10 0
theorem nmJ10 : ∀ a, a < 0 → ∀ b, b < 0 → a ≠ b → (TJ10 a).2.1 ≠ (TJ10 b).2.1 := by decide +kernel
theorem tyJ10_ok : ∀ k, k < 0 → parseFieldDescriptor (TJ10 k).2.2.1 = some (tyJ10 k) := by decide +kernel
def RL : String := "TideSeatsLaw"
abbrev cL_law : ByteArray := code
def yL_law : MethodName := ⟨RL, "law", "([I)Z"⟩
def wsL_law_r1 : List Cond := [Cond.classLink RL 7 RX5, Cond.instantiable RX5 8, Cond.initialized RX5, Cond.classLink RL 10 RX6, Cond.instantiable RX6 33, Cond.initialized RX6, Cond.methodLink RL 9 yX5_init, Cond.instanceMethod yX5_init, Cond.code yX5_init cX5_init 2 none, Cond.methodLink RX5 3 objectInit, Cond.instanceMethod objectInit, Cond.code objectInit ⟨#[0xb1]⟩ 1 none, Cond.classLink RX5 11 RX3, Cond.fieldLink RX5 13 "TideSeats" "sheets" "[LTideSeats$Sheet;", Cond.instantiable RX3 4, Cond.initialized RX3, Cond.classLink RX5 18 RX0, Cond.instantiable RX0 4, Cond.initialized RX0, Cond.fieldLink RX5 21 "TideSeats" "reader" "LTideSeats$Reader;", Cond.classLink RX5 25 RX1, Cond.instantiable RX1 4, Cond.initialized RX1, Cond.fieldLink RX5 28 "TideSeats" "readings" "LTideSeats$Readings;"]
def wsL_law_r2 : List Cond := [Cond.classLink RX5 32 RX2, Cond.instantiable RX2 6, Cond.initialized RX2, Cond.fieldLink RX5 35 "TideSeats" "route" "LTideSeats$Route;", Cond.classLink RX5 39 RX4, Cond.instantiable RX4 10, Cond.initialized RX4, Cond.fieldLink RX5 42 "TideSeats" "shore" "LTideSeats$Shore;", Cond.fieldLink RX5 46 "TideSeats" "trial" "LTideSeats$Shore;", Cond.instanceMethod yX3_init, Cond.code yX3_init cX3_init 1 none, Cond.methodLink RX3 3 objectInit, Cond.arrayClass .int, Cond.fieldLink RX3 9 "TideSeats$Sheet" "cells" "[I", Cond.instanceMethod yX0_init, Cond.code yX0_init cX0_init 1 none, Cond.methodLink RX0 3 objectInit, Cond.instanceMethod yX1_init, Cond.code yX1_init cX1_init 1 none, Cond.methodLink RX1 3 objectInit, Cond.fieldLink RX1 9 "TideSeats$Readings" "who" "[I", Cond.fieldLink RX1 15 "TideSeats$Readings" "when" "[I", Cond.fieldLink RX1 18 "TideSeats$Readings" "where" "[I", Cond.instanceMethod yX2_init]
def wsL_law_r3 : List Cond := [Cond.code yX2_init cX2_init 1 none, Cond.methodLink RX2 3 objectInit, Cond.classLink RX2 11 "[[I", Cond.fieldLink RX2 13 "TideSeats$Route" "behind" "[[I", Cond.fieldLink RX2 16 "TideSeats$Route" "far" "[I", Cond.fieldLink RX2 20 "TideSeats$Route" "row" "[I", Cond.instanceMethod yX4_init, Cond.code yX4_init cX4_init 1 none, Cond.methodLink RX4 3 objectInit, Cond.fieldLink RX4 9 "TideSeats$Shore" "heights" "[I", Cond.fieldLink RX4 15 "TideSeats$Shore" "depths" "[I", Cond.fieldLink RX4 18 "TideSeats$Shore" "kindOf" "[I", Cond.fieldLink RX4 21 "TideSeats$Shore" "seats" "[I", Cond.fieldLink RX4 24 "TideSeats$Shore" "views" "[I", Cond.methodLink RL 12 yX6_init, Cond.instanceMethod yX6_init, Cond.code yX6_init cX6_init 1 none, Cond.methodLink RX6 1 objectInit, Cond.fieldLink RX6 9 "TideSeatsModel" "sorts" "[I", Cond.fieldLink RX6 13 "TideSeatsModel" "sheetLong" "[I", Cond.fieldLink RX6 16 "TideSeatsModel" "cells" "[I", Cond.fieldLink RX6 19 "TideSeatsModel" "height" "[I", Cond.fieldLink RX6 22 "TideSeatsModel" "depth" "[I", Cond.fieldLink RX6 25 "TideSeatsModel" "kind" "[I"]
def wsL_law_r4 : List Cond := [Cond.fieldLink RX6 28 "TideSeatsModel" "poolOf" "[I", Cond.fieldLink RX6 31 "TideSeatsModel" "view" "[I", Cond.fieldLink RX6 34 "TideSeatsModel" "readHeight" "[I", Cond.fieldLink RX6 37 "TideSeatsModel" "readDepth" "[I", Cond.fieldLink RX6 40 "TideSeatsModel" "readKind" "[I", Cond.fieldLink RX6 43 "TideSeatsModel" "readPoolOf" "[I", Cond.fieldLink RX6 46 "TideSeatsModel" "readView" "[I", Cond.fieldLink RX6 49 "TideSeatsModel" "kept" "[I", Cond.fieldLink RX6 52 "TideSeatsModel" "left" "[I", Cond.fieldLink RX6 55 "TideSeatsModel" "readWho" "[I", Cond.fieldLink RX6 58 "TideSeatsModel" "readTide" "[I", Cond.fieldLink RX6 61 "TideSeatsModel" "readTo" "[I", Cond.methodLink RL 13 yX5_shore, Cond.instanceMethod yX5_shore, Cond.selects RX5 yX5_shore yX5_shore, Cond.code yX5_shore cX5_shore 6 (some .int), Cond.fieldLink RX5 49 "TideSeats" "latestFault" "I", Cond.fieldLink RX5 83 "TideSeats$Readings" "count" "I", Cond.fieldLink RX5 86 "TideSeats$Shore" "members" "I", Cond.methodLink RX5 53 yX5_isSheet, Cond.static yX5_isSheet, Cond.code yX5_isSheet cX5_isSheet 1 (some .boolean), Cond.methodLink RX5 120 yX5_isWithin, Cond.static yX5_isWithin]
def wsL_law_r5 : List Cond := [Cond.code yX5_isWithin cX5_isWithin 3 (some .boolean), Cond.methodLink RX5 57 yX5_isLane, Cond.static yX5_isLane, Cond.code yX5_isLane cX5_isLane 1 (some .boolean), Cond.methodLink RX5 60 yX5_rowFault, Cond.static yX5_rowFault, Cond.code yX5_rowFault cX5_rowFault 4 (some .int), Cond.fieldLink RX5 269 "TideSeats$Sheet" "isThere" "Z", Cond.fieldLink RX5 279 "TideSeats$Sheet" "lane" "I", Cond.methodLink RX5 273 yX3_has, Cond.instanceMethod yX3_has, Cond.selects RX3 yX3_has yX3_has, Cond.code yX3_has cX3_has 3 (some .boolean), Cond.fieldLink RX3 23 "TideSeats$Sheet" "size" "I", Cond.methodLink RX5 64 yX5_faulted, Cond.instanceMethod yX5_faulted, Cond.selects RX5 yX5_faulted yX5_faulted, Cond.code yX5_faulted cX5_faulted 2 (some .int), Cond.methodLink RX5 68 yX0_begin, Cond.instanceMethod yX0_begin, Cond.selects RX0 yX0_begin yX0_begin, Cond.code yX0_begin cX0_begin 4 none, Cond.fieldLink RX0 9 "TideSeats$Reader" "sheet" "LTideSeats$Sheet;", Cond.fieldLink RX0 15 "TideSeats$Reader" "start" "I"]
def wsL_law_r6 : List Cond := [Cond.fieldLink RX0 19 "TideSeats$Reader" "end" "I", Cond.fieldLink RX0 22 "TideSeats$Reader" "at" "I", Cond.methodLink RX5 72 yX4_readsAll, Cond.instanceMethod yX4_readsAll, Cond.selects RX4 yX4_readsAll yX4_readsAll, Cond.code yX4_readsAll cX4_readsAll 2 (some .boolean), Cond.methodLink RX4 43 yX4_readsHead, Cond.instanceMethod yX4_readsHead, Cond.selects RX4 yX4_readsHead yX4_readsHead, Cond.code yX4_readsHead cX4_readsHead 2 (some .boolean), Cond.fieldLink RX4 27 "TideSeats$Shore" "stream" "I", Cond.fieldLink RX4 31 "TideSeats$Shore" "mild" "I", Cond.fieldLink RX4 34 "TideSeats$Shore" "reach" "I", Cond.methodLink RX4 59 yX0_takes, Cond.instanceMethod yX0_takes, Cond.selects RX0 yX0_takes yX0_takes, Cond.code yX0_takes cX0_takes 2 (some .boolean), Cond.fieldLink RX0 29 "TideSeats$Sheet" "cells" "[I", Cond.methodLink RX0 25 yX0_isAtEnd, Cond.instanceMethod yX0_isAtEnd, Cond.selects RX0 yX0_isAtEnd yX0_isAtEnd, Cond.code yX0_isAtEnd cX0_isAtEnd 1 (some .boolean), Cond.methodLink RX4 63 yX0_digit, Cond.instanceMethod yX0_digit]
def wsL_law_r7 : List Cond := [Cond.selects RX0 yX0_digit yX0_digit, Cond.code yX0_digit cX0_digit 4 (some .int), Cond.methodLink RX4 47 yX4_readsPools, Cond.instanceMethod yX4_readsPools, Cond.selects RX4 yX4_readsPools yX4_readsPools, Cond.code yX4_readsPools cX4_readsPools 2 (some .boolean), Cond.fieldLink RX4 37 "TideSeats$Shore" "pools" "I", Cond.methodLink RX4 67 yX4_readsPool, Cond.instanceMethod yX4_readsPool, Cond.selects RX4 yX4_readsPool yX4_readsPool, Cond.code yX4_readsPool cX4_readsPool 2 (some .boolean), Cond.methodLink RX4 50 yX4_readsMembers, Cond.instanceMethod yX4_readsMembers, Cond.selects RX4 yX4_readsMembers yX4_readsMembers, Cond.code yX4_readsMembers cX4_readsMembers 2 (some .boolean), Cond.fieldLink RX4 40 "TideSeats$Shore" "members" "I", Cond.methodLink RX4 70 yX4_readsMember, Cond.instanceMethod yX4_readsMember, Cond.selects RX4 yX4_readsMember yX4_readsMember, Cond.code yX4_readsMember cX4_readsMember 2 (some .boolean), Cond.methodLink RX4 73 yX0_kind, Cond.instanceMethod yX0_kind, Cond.selects RX0 yX0_kind yX0_kind, Cond.code yX0_kind cX0_kind 1 (some .int)]
def wsL_law_r8 : List Cond := [Cond.methodLink RX0 39 yX0_takes, Cond.methodLink RX4 53 yX0_isAtEnd, Cond.methodLink RX5 76 yX0_place, Cond.instanceMethod yX0_place, Cond.selects RX0 yX0_place yX0_place, Cond.code yX0_place cX0_place 1 (some .int), Cond.methodLink RX5 80 yX5_swapShores, Cond.instanceMethod yX5_swapShores, Cond.selects RX5 yX5_swapShores yX5_swapShores, Cond.code yX5_swapShores cX5_swapShores 2 none, Cond.methodLink RL 17 yX6_shore, Cond.instanceMethod yX6_shore, Cond.selects RX6 yX6_shore yX6_shore, Cond.code yX6_shore cX6_shore 7 (some .int), Cond.fieldLink RX6 64 "TideSeatsModel" "fault" "I", Cond.fieldLink RX6 80 "TideSeatsModel" "at" "I", Cond.fieldLink RX6 77 "TideSeatsModel" "members" "I", Cond.methodLink RX6 83 yX6_isSheet, Cond.static yX6_isSheet, Cond.code yX6_isSheet cX6_isSheet 1 (some .boolean), Cond.methodLink RX6 70 yX6_within, Cond.static yX6_within, Cond.code yX6_within cX6_within 3 (some .boolean), Cond.methodLink RX6 87 yX6_isSort]
def wsL_law_r9 : List Cond := [Cond.static yX6_isSort, Cond.code yX6_isSort cX6_isSort 1 (some .boolean), Cond.methodLink RX6 90 yX6_against, Cond.instanceMethod yX6_against, Cond.selects RX6 yX6_against yX6_against, Cond.code yX6_against cX6_against 5 (some .int), Cond.methodLink RX6 94 yX6_fails, Cond.instanceMethod yX6_fails, Cond.selects RX6 yX6_fails yX6_fails, Cond.code yX6_fails cX6_fails 2 (some .int), Cond.methodLink RX6 98 yX6_readShore, Cond.instanceMethod yX6_readShore, Cond.selects RX6 yX6_readShore yX6_readShore, Cond.code yX6_readShore cX6_readShore 2 (some .boolean), Cond.fieldLink RX6 122 "TideSeatsModel" "readPools" "I", Cond.fieldLink RX6 125 "TideSeatsModel" "readMembers" "I", Cond.fieldLink RX6 104 "TideSeatsModel" "readStream" "I", Cond.fieldLink RX6 110 "TideSeatsModel" "readMild" "I", Cond.fieldLink RX6 116 "TideSeatsModel" "readLeap" "I", Cond.methodLink RX6 131 yX6_isSign, Cond.instanceMethod yX6_isSign, Cond.selects RX6 yX6_isSign yX6_isSign, Cond.code yX6_isSign cX6_isSign 3 (some .boolean), Cond.methodLink RX6 135 yX6_digit]
def wsL_law_r10 : List Cond := [Cond.instanceMethod yX6_digit, Cond.selects RX6 yX6_digit yX6_digit, Cond.code yX6_digit cX6_digit 4 (some .int), Cond.methodLink RX6 139 yX6_readPool, Cond.instanceMethod yX6_readPool, Cond.selects RX6 yX6_readPool yX6_readPool, Cond.code yX6_readPool cX6_readPool 2 (some .boolean), Cond.methodLink RX6 142 yX6_readMember, Cond.instanceMethod yX6_readMember, Cond.selects RX6 yX6_readMember yX6_readMember, Cond.code yX6_readMember cX6_readMember 3 (some .boolean), Cond.methodLink RX6 101 yX6_takeShore, Cond.instanceMethod yX6_takeShore, Cond.selects RX6 yX6_takeShore yX6_takeShore, Cond.code yX6_takeShore cX6_takeShore 2 none, Cond.fieldLink RX6 107 "TideSeatsModel" "stream" "I", Cond.fieldLink RX6 113 "TideSeatsModel" "mild" "I", Cond.fieldLink RX6 119 "TideSeatsModel" "leapNow" "I", Cond.fieldLink RX6 74 "TideSeatsModel" "pools" "I", Cond.fieldLink RX6 128 "TideSeatsModel" "readings" "I", Cond.methodLink RL 18 yX5_ofPool, Cond.instanceMethod yX5_ofPool, Cond.selects RX5 yX5_ofPool yX5_ofPool, Cond.code yX5_ofPool cX5_ofPool 3 (some .int)]
def wsL_law_r11 : List Cond := [Cond.fieldLink RX5 92 "TideSeats$Shore" "heights" "[I", Cond.fieldLink RX5 96 "TideSeats$Shore" "depths" "[I", Cond.methodLink RX5 89 yX5_isPool, Cond.instanceMethod yX5_isPool, Cond.selects RX5 yX5_isPool yX5_isPool, Cond.code yX5_isPool cX5_isPool 2 (some .boolean), Cond.fieldLink RX5 203 "TideSeats$Shore" "pools" "I", Cond.methodLink RX5 99 yX4_sittersOf, Cond.instanceMethod yX4_sittersOf, Cond.selects RX4 yX4_sittersOf yX4_sittersOf, Cond.code yX4_sittersOf cX4_sittersOf 4 (some .int), Cond.methodLink RX5 102 yX4_spanOf, Cond.instanceMethod yX4_spanOf, Cond.selects RX4 yX4_spanOf yX4_spanOf, Cond.code yX4_spanOf cX4_spanOf 2 (some .int), Cond.methodLink RX4 86 yX4_sittersIn, Cond.instanceMethod yX4_sittersIn, Cond.selects RX4 yX4_sittersIn yX4_sittersIn, Cond.code yX4_sittersIn cX4_sittersIn 2 (some .int), Cond.methodLink RX4 77 yX4_sittersOf, Cond.methodLink RX4 81 yJ6_bitCount_0f7a4, Cond.static yJ6_bitCount_0f7a4, Cond.initialized RJ6, Cond.code yJ6_bitCount_0f7a4 cJ6_bitCount_0f7a4 1 (some .int)]
def wsL_law_r12 : List Cond := [Cond.constant RJ6 265 (1431655765), Cond.constant RJ6 266 (858993459), Cond.constant RJ6 267 (252645135), Cond.methodLink RL 22 yX6_ofPool, Cond.instanceMethod yX6_ofPool, Cond.selects RX6 yX6_ofPool yX6_ofPool, Cond.code yX6_ofPool cX6_ofPool 3 (some .int), Cond.methodLink RX6 145 yX6_isPool, Cond.instanceMethod yX6_isPool, Cond.selects RX6 yX6_isPool yX6_isPool, Cond.code yX6_isPool cX6_isPool 2 (some .boolean), Cond.methodLink RX6 148 yX6_sitters, Cond.instanceMethod yX6_sitters, Cond.selects RX6 yX6_sitters yX6_sitters, Cond.code yX6_sitters cX6_sitters 4 (some .int), Cond.methodLink RX6 151 yX6_size, Cond.static yX6_size, Cond.code yX6_size cX6_size 3 (some .int), Cond.methodLink RL 23 yX5_ofMember, Cond.instanceMethod yX5_ofMember, Cond.selects RX5 yX5_ofMember yX5_ofMember, Cond.code yX5_ofMember cX5_ofMember 3 (some .int), Cond.fieldLink RX5 108 "TideSeats$Shore" "kindOf" "[I", Cond.fieldLink RX5 111 "TideSeats$Shore" "seats" "[I"]
def wsL_law_r13 : List Cond := [Cond.fieldLink RX5 114 "TideSeats$Shore" "views" "[I", Cond.methodLink RX5 105 yX5_isMember, Cond.instanceMethod yX5_isMember, Cond.selects RX5 yX5_isMember yX5_isMember, Cond.code yX5_isMember cX5_isMember 2 (some .boolean), Cond.methodLink RX5 117 yX4_stepsOf, Cond.instanceMethod yX4_stepsOf, Cond.selects RX4 yX4_stepsOf yX4_stepsOf, Cond.code yX4_stepsOf cX4_stepsOf 2 (some .int), Cond.methodLink RL 26 yX6_ofMember, Cond.instanceMethod yX6_ofMember, Cond.selects RX6 yX6_ofMember yX6_ofMember, Cond.code yX6_ofMember cX6_ofMember 3 (some .int), Cond.methodLink RX6 154 yX6_isMember, Cond.instanceMethod yX6_isMember, Cond.selects RX6 yX6_isMember yX6_isMember, Cond.code yX6_isMember cX6_isMember 2 (some .boolean), Cond.methodLink RX6 157 yX6_farOf, Cond.instanceMethod yX6_farOf, Cond.selects RX6 yX6_farOf yX6_farOf, Cond.code yX6_farOf cX6_farOf 2 (some .int), Cond.methodLink RL 27 yX5_raise, Cond.instanceMethod yX5_raise, Cond.selects RX5 yX5_raise yX5_raise]
def wsL_law_r14 : List Cond := [Cond.code yX5_raise cX5_raise 4 (some .int), Cond.methodLink RL 30 yX6_raise, Cond.instanceMethod yX6_raise, Cond.selects RX6 yX6_raise yX6_raise, Cond.code yX6_raise cX6_raise 4 (some .int), Cond.methodLink RL 31 yX5_sway, Cond.instanceMethod yX5_sway, Cond.selects RX5 yX5_sway yX5_sway, Cond.code yX5_sway cX5_sway 4 (some .int), Cond.methodLink RX5 124 yX5_isDigit, Cond.static yX5_isDigit, Cond.code yX5_isDigit cX5_isDigit 1 (some .boolean), Cond.methodLink RL 34 yX6_sway, Cond.instanceMethod yX6_sway, Cond.selects RX6 yX6_sway yX6_sway, Cond.code yX6_sway cX6_sway 4 (some .int), Cond.methodLink RX6 160 yX6_isDigit, Cond.static yX6_isDigit, Cond.code yX6_isDigit cX6_isDigit 1 (some .boolean), Cond.methodLink RL 35 yX5_seat, Cond.instanceMethod yX5_seat, Cond.selects RX5 yX5_seat yX5_seat, Cond.code yX5_seat cX5_seat 4 (some .int), Cond.methodLink RL 38 yX6_seat]
def wsL_law_r15 : List Cond := [Cond.instanceMethod yX6_seat, Cond.selects RX6 yX6_seat yX6_seat, Cond.code yX6_seat cX6_seat 4 (some .int), Cond.methodLink RL 39 yX5_flow, Cond.instanceMethod yX5_flow, Cond.selects RX5 yX5_flow yX5_flow, Cond.code yX5_flow cX5_flow 4 (some .int), Cond.fieldLink RX5 131 "TideSeats$Shore" "stream" "I", Cond.methodLink RX5 127 yX5_refusalUnless, Cond.instanceMethod yX5_refusalUnless, Cond.selects RX5 yX5_refusalUnless yX5_refusalUnless, Cond.code yX5_refusalUnless cX5_refusalUnless 2 (some .int), Cond.methodLink RX5 254 yX5_hasShore, Cond.instanceMethod yX5_hasShore, Cond.selects RX5 yX5_hasShore yX5_hasShore, Cond.code yX5_hasShore cX5_hasShore 1 (some .boolean), Cond.methodLink RL 43 yX6_flow, Cond.instanceMethod yX6_flow, Cond.selects RX6 yX6_flow yX6_flow, Cond.code yX6_flow cX6_flow 3 (some .int), Cond.methodLink RL 44 yX5_calm, Cond.instanceMethod yX5_calm, Cond.selects RX5 yX5_calm yX5_calm, Cond.code yX5_calm cX5_calm 4 (some .int)]
def wsL_law_r16 : List Cond := [Cond.fieldLink RX5 134 "TideSeats$Shore" "mild" "I", Cond.methodLink RL 47 yX6_calm, Cond.instanceMethod yX6_calm, Cond.selects RX6 yX6_calm yX6_calm, Cond.code yX6_calm cX6_calm 3 (some .int), Cond.methodLink RL 48 yX5_leap, Cond.instanceMethod yX5_leap, Cond.selects RX5 yX5_leap yX5_leap, Cond.code yX5_leap cX5_leap 4 (some .int), Cond.fieldLink RX5 137 "TideSeats$Shore" "reach" "I", Cond.methodLink RL 51 yX6_leap, Cond.instanceMethod yX6_leap, Cond.selects RX6 yX6_leap yX6_leap, Cond.code yX6_leap cX6_leap 3 (some .int), Cond.methodLink RL 52 yX5_washed, Cond.instanceMethod yX5_washed, Cond.selects RX5 yX5_washed yX5_washed, Cond.code yX5_washed cX5_washed 3 (some .int), Cond.methodLink RX5 140 yX4_washedBy, Cond.instanceMethod yX4_washedBy, Cond.selects RX4 yX4_washedBy yX4_washedBy, Cond.code yX4_washedBy cX4_washedBy 4 (some .int), Cond.methodLink RX4 93 yX4_isWashed, Cond.instanceMethod yX4_isWashed]
def wsL_law_r17 : List Cond := [Cond.selects RX4 yX4_isWashed yX4_isWashed, Cond.code yX4_isWashed cX4_isWashed 3 (some .boolean), Cond.methodLink RL 55 yX6_washed, Cond.instanceMethod yX6_washed, Cond.selects RX6 yX6_washed yX6_washed, Cond.code yX6_washed cX6_washed 2 (some .int), Cond.methodLink RX6 163 yX6_washedBy, Cond.instanceMethod yX6_washedBy, Cond.selects RX6 yX6_washedBy yX6_washedBy, Cond.code yX6_washedBy cX6_washedBy 4 (some .int), Cond.methodLink RL 56 yX5_carried, Cond.instanceMethod yX5_carried, Cond.selects RX5 yX5_carried yX5_carried, Cond.code yX5_carried cX5_carried 3 (some .int), Cond.methodLink RX5 143 yX4_seatBehind, Cond.instanceMethod yX4_seatBehind, Cond.selects RX4 yX4_seatBehind yX4_seatBehind, Cond.code yX4_seatBehind cX4_seatBehind 3 (some .int), Cond.methodLink RX4 103 yX4_poolBehind, Cond.instanceMethod yX4_poolBehind, Cond.selects RX4 yX4_poolBehind yX4_poolBehind, Cond.code yX4_poolBehind cX4_poolBehind 6 (some .int), Cond.methodLink RX4 97 yX4_stepsOf, Cond.methodLink RX4 100 yX4_nextWashed]
def wsL_law_r18 : List Cond := [Cond.instanceMethod yX4_nextWashed, Cond.selects RX4 yX4_nextWashed yX4_nextWashed, Cond.code yX4_nextWashed cX4_nextWashed 5 (some .int), Cond.methodLink RL 59 yX6_carried, Cond.instanceMethod yX6_carried, Cond.selects RX6 yX6_carried yX6_carried, Cond.code yX6_carried cX6_carried 3 (some .int), Cond.methodLink RX6 166 yX6_carriedFrom, Cond.instanceMethod yX6_carriedFrom, Cond.selects RX6 yX6_carriedFrom yX6_carriedFrom, Cond.code yX6_carriedFrom cX6_carriedFrom 6 (some .int), Cond.methodLink RL 60 yX5_tide, Cond.instanceMethod yX5_tide, Cond.selects RX5 yX5_tide yX5_tide, Cond.code yX5_tide cX5_tide 3 (some .int), Cond.methodLink RX5 147 yX4_carryAll, Cond.instanceMethod yX4_carryAll, Cond.selects RX4 yX4_carryAll yX4_carryAll, Cond.code yX4_carryAll cX4_carryAll 5 (some .int), Cond.methodLink RX4 107 yX4_seatBehind, Cond.static yX5_oneIf, Cond.code yX5_oneIf cX5_oneIf 1 (some .int), Cond.methodLink RL 63 yX6_tide, Cond.instanceMethod yX6_tide]
def wsL_law_r19 : List Cond := [Cond.selects RX6 yX6_tide yX6_tide, Cond.code yX6_tide cX6_tide 2 (some .int), Cond.methodLink RX6 169 yX6_carryAll, Cond.instanceMethod yX6_carryAll, Cond.selects RX6 yX6_carryAll yX6_carryAll, Cond.code yX6_carryAll cX6_carryAll 5 (some .int), Cond.methodLink RL 64 yX5_ayes, Cond.instanceMethod yX5_ayes, Cond.selects RX5 yX5_ayes yX5_ayes, Cond.code yX5_ayes cX5_ayes 3 (some .int), Cond.methodLink RX5 150 yX4_friendsOf, Cond.instanceMethod yX4_friendsOf, Cond.selects RX4 yX4_friendsOf yX4_friendsOf, Cond.code yX4_friendsOf cX4_friendsOf 4 (some .int), Cond.methodLink RX4 110 Lib.Math.abs.name, Cond.static Lib.Math.abs.name, Cond.initialized "java/lang/Math", Cond.code Lib.Math.abs.name Lib.Math.abs.code 1 (some .int), Cond.methodLink RL 67 yX6_ayes, Cond.instanceMethod yX6_ayes, Cond.selects RX6 yX6_ayes yX6_ayes, Cond.code yX6_ayes cX6_ayes 2 (some .int), Cond.methodLink RX6 179 yX6_ayesOf, Cond.instanceMethod yX6_ayesOf]
def wsL_law_r20 : List Cond := [Cond.selects RX6 yX6_ayesOf yX6_ayesOf, Cond.code yX6_ayesOf cX6_ayesOf 5 (some .int), Cond.methodLink RL 68 yX5_passes, Cond.instanceMethod yX5_passes, Cond.selects RX5 yX5_passes yX5_passes, Cond.code yX5_passes cX5_passes 3 (some .int), Cond.methodLink RX5 153 yX4_poolsWon, Cond.instanceMethod yX4_poolsWon, Cond.selects RX4 yX4_poolsWon yX4_poolsWon, Cond.code yX4_poolsWon cX4_poolsWon 5 (some .int), Cond.methodLink RL 71 yX6_passes, Cond.instanceMethod yX6_passes, Cond.selects RX6 yX6_passes yX6_passes, Cond.code yX6_passes cX6_passes 2 (some .int), Cond.methodLink RX6 172 yX6_passesBy, Cond.instanceMethod yX6_passesBy, Cond.selects RX6 yX6_passesBy yX6_passesBy, Cond.code yX6_passesBy cX6_passesBy 5 (some .int), Cond.methodLink RL 72 yX5_law, Cond.instanceMethod yX5_law, Cond.selects RX5 yX5_law yX5_law, Cond.code yX5_law cX5_law 3 (some .int), Cond.methodLink RX5 156 yX4_isLawBy, Cond.instanceMethod yX4_isLawBy]
def wsL_law_r21 : List Cond := [Cond.selects RX4 yX4_isLawBy yX4_isLawBy, Cond.code yX4_isLawBy cX4_isLawBy 2 (some .boolean), Cond.methodLink RX4 115 yX4_poolsWon, Cond.methodLink RX4 118 yX4_poolsSatIn, Cond.instanceMethod yX4_poolsSatIn, Cond.selects RX4 yX4_poolsSatIn yX4_poolsSatIn, Cond.code yX4_poolsSatIn cX4_poolsSatIn 3 (some .int), Cond.methodLink RX5 159 yX5_oneIf, Cond.methodLink RL 75 yX6_law, Cond.instanceMethod yX6_law, Cond.selects RX6 yX6_law yX6_law, Cond.code yX6_law cX6_law 2 (some .int), Cond.methodLink RX6 182 yX6_isLawBy, Cond.instanceMethod yX6_isLawBy, Cond.selects RX6 yX6_isLawBy yX6_isLawBy, Cond.code yX6_isLawBy cX6_isLawBy 2 (some .boolean), Cond.methodLink RX6 175 yX6_occupied, Cond.instanceMethod yX6_occupied, Cond.selects RX6 yX6_occupied yX6_occupied, Cond.code yX6_occupied cX6_occupied 3 (some .int), Cond.methodLink RL 76 yX5_year, Cond.instanceMethod yX5_year, Cond.selects RX5 yX5_year yX5_year, Cond.code yX5_year cX5_year 7 (some .int)]
def wsL_law_r22 : List Cond := [Cond.methodLink RX5 162 yX5_isToldOfYears, Cond.static yX5_isToldOfYears, Cond.code yX5_isToldOfYears cX5_isToldOfYears 1 (some .boolean), Cond.methodLink RX5 165 yX5_refusalOfRow, Cond.instanceMethod yX5_refusalOfRow, Cond.selects RX5 yX5_refusalOfRow yX5_refusalOfRow, Cond.code yX5_refusalOfRow cX5_refusalOfRow 7 (some .int), Cond.methodLink RX5 169 yX3_areWithin, Cond.instanceMethod yX3_areWithin, Cond.selects RX3 yX3_areWithin yX3_areWithin, Cond.code yX3_areWithin cX3_areWithin 5 (some .boolean), Cond.methodLink RX5 172 yX5_yearTold, Cond.instanceMethod yX5_yearTold, Cond.selects RX5 yX5_yearTold yX5_yearTold, Cond.code yX5_yearTold cX5_yearTold 8 (some .int), Cond.fieldLink RX5 183 "TideSeats$Sheet" "cells" "[I", Cond.methodLink RX5 175 yX5_firstWrong, Cond.instanceMethod yX5_firstWrong, Cond.selects RX5 yX5_firstWrong yX5_firstWrong, Cond.code yX5_firstWrong cX5_firstWrong 5 (some .int), Cond.methodLink RX5 179 yX4_become, Cond.instanceMethod yX4_become, Cond.selects RX4 yX4_become yX4_become, Cond.code yX4_become cX4_become 3 none]
def wsL_law_r23 : List Cond := [Cond.methodLink RX5 186 yX5_endOfYear, Cond.instanceMethod yX5_endOfYear, Cond.selects RX5 yX5_endOfYear yX5_endOfYear, Cond.code yX5_endOfYear cX5_endOfYear 3 (some .int), Cond.methodLink RX5 189 yX4_poolsSatIn, Cond.methodLink RX5 192 yX4_fullestPool, Cond.instanceMethod yX4_fullestPool, Cond.selects RX4 yX4_fullestPool yX4_fullestPool, Cond.code yX4_fullestPool cX4_fullestPool 3 (some .int), Cond.methodLink RL 80 yX6_year, Cond.instanceMethod yX6_year, Cond.selects RX6 yX6_year yX6_year, Cond.code yX6_year cX6_year 11 (some .int), Cond.methodLink RX6 188 yX6_goYear, Cond.instanceMethod yX6_goYear, Cond.selects RX6 yX6_goYear yX6_goYear, Cond.code yX6_goYear cX6_goYear 4 (some .int), Cond.fieldLink RX6 185 "TideSeatsModel" "moved" "I", Cond.methodLink RX6 192 yX6_tellYear, Cond.instanceMethod yX6_tellYear, Cond.selects RX6 yX6_tellYear yX6_tellYear, Cond.code yX6_tellYear cX6_tellYear 4 (some .int), Cond.methodLink RL 81 yX5_best, Cond.instanceMethod yX5_best]
def wsL_law_r24 : List Cond := [Cond.selects RX5 yX5_best yX5_best, Cond.code yX5_best cX5_best 7 (some .int), Cond.methodLink RX5 195 yJ6_bitCount_0f7a4, Cond.methodLink RL 84 yX6_best, Cond.instanceMethod yX6_best, Cond.selects RX6 yX6_best yX6_best, Cond.code yX6_best cX6_best 6 (some .int), Cond.methodLink RL 85 yX5_turn, Cond.instanceMethod yX5_turn, Cond.selects RX5 yX5_turn yX5_turn, Cond.code yX5_turn cX5_turn 3 (some .int), Cond.methodLink RX5 200 yX5_fewestToTurn, Cond.instanceMethod yX5_fewestToTurn, Cond.selects RX5 yX5_fewestToTurn yX5_fewestToTurn, Cond.code yX5_fewestToTurn cX5_fewestToTurn 4 (some .int), Cond.methodLink RL 88 yX6_turn, Cond.instanceMethod yX6_turn, Cond.selects RX6 yX6_turn yX6_turn, Cond.code yX6_turn cX6_turn 5 (some .int), Cond.methodLink RL 89 yX5_drift, Cond.instanceMethod yX5_drift, Cond.selects RX5 yX5_drift yX5_drift, Cond.code yX5_drift cX5_drift 8 (some .int), Cond.methodLink RX5 206 yX5_driftOf]
def wsL_law_r25 : List Cond := [Cond.instanceMethod yX5_driftOf, Cond.selects RX5 yX5_driftOf yX5_driftOf, Cond.code yX5_driftOf cX5_driftOf 7 (some .int), Cond.methodLink RX5 213 yX4_driftIn, Cond.instanceMethod yX4_driftIn, Cond.selects RX4 yX4_driftIn yX4_driftIn, Cond.code yX4_driftIn cX4_driftIn 5 (some .int), Cond.methodLink RX5 210 yX5_originsOf, Cond.instanceMethod yX5_originsOf, Cond.selects RX5 yX5_originsOf yX5_originsOf, Cond.code yX5_originsOf cX5_originsOf 7 (some .int), Cond.methodLink RL 93 yX6_drift, Cond.instanceMethod yX6_drift, Cond.selects RX6 yX6_drift yX6_drift, Cond.code yX6_drift cX6_drift 11 (some .int), Cond.methodLink RX6 195 yX6_driftOf, Cond.instanceMethod yX6_driftOf, Cond.selects RX6 yX6_driftOf yX6_driftOf, Cond.code yX6_driftOf cX6_driftOf 9 (some .int), Cond.methodLink RL 94 yX5_leaps, Cond.instanceMethod yX5_leaps, Cond.selects RX5 yX5_leaps yX5_leaps, Cond.code yX5_leaps cX5_leaps 4 (some .int), Cond.fieldLink RX5 223 "TideSeats$Route" "length" "I"]
def wsL_law_r26 : List Cond := [Cond.methodLink RX5 216 yX5_layLeaps, Cond.instanceMethod yX5_layLeaps, Cond.selects RX5 yX5_layLeaps yX5_layLeaps, Cond.code yX5_layLeaps cX5_layLeaps 3 none, Cond.methodLink RX5 229 yX2_begin, Cond.instanceMethod yX2_begin, Cond.selects RX2 yX2_begin yX2_begin, Cond.code yX2_begin cX2_begin 3 none, Cond.fieldLink RX2 23 "TideSeats$Route" "pools" "I", Cond.fieldLink RX2 27 "TideSeats$Route" "moves" "I", Cond.methodLink RX5 231 yX4_isInReach, Cond.instanceMethod yX4_isInReach, Cond.selects RX4 yX4_isInReach yX4_isInReach, Cond.code yX4_isInReach cX4_isInReach 3 (some .boolean), Cond.methodLink RX5 235 yX2_lay, Cond.instanceMethod yX2_lay, Cond.selects RX2 yX2_lay yX2_lay, Cond.code yX2_lay cX2_lay 4 none, Cond.methodLink RX5 219 yX2_find, Cond.instanceMethod yX2_find, Cond.selects RX2 yX2_find yX2_find, Cond.code yX2_find cX2_find 6 none, Cond.fieldLink RX2 34 "TideSeats$Route" "length" "I", Cond.methodLink RX2 30 yX2_measure]
def wsL_law_r27 : List Cond := [Cond.instanceMethod yX2_measure, Cond.selects RX2 yX2_measure yX2_measure, Cond.code yX2_measure cX2_measure 4 none, Cond.methodLink RX2 37 yX2_moveTo, Cond.instanceMethod yX2_moveTo, Cond.selects RX2 yX2_moveTo yX2_moveTo, Cond.code yX2_moveTo cX2_moveTo 4 (some .int), Cond.methodLink RX5 226 yX2_moveAt, Cond.instanceMethod yX2_moveAt, Cond.selects RX2 yX2_moveAt yX2_moveAt, Cond.code yX2_moveAt cX2_moveAt 2 (some .int), Cond.methodLink RL 98 yX6_leaps, Cond.instanceMethod yX6_leaps, Cond.selects RX6 yX6_leaps yX6_leaps, Cond.code yX6_leaps cX6_leaps 6 (some .int), Cond.methodLink RX6 201 yX6_findLeaps, Cond.instanceMethod yX6_findLeaps, Cond.selects RX6 yX6_findLeaps yX6_findLeaps, Cond.code yX6_findLeaps cX6_findLeaps 5 none, Cond.methodLink RX6 198 yX6_isLeap, Cond.instanceMethod yX6_isLeap, Cond.selects RX6 yX6_isLeap yX6_isLeap, Cond.code yX6_isLeap cX6_isLeap 4 (some .boolean), Cond.methodLink RX6 205 yX6_nextLeap]
def wsL_law_r28 : List Cond := [Cond.instanceMethod yX6_nextLeap, Cond.selects RX6 yX6_nextLeap yX6_nextLeap, Cond.code yX6_nextLeap cX6_nextLeap 3 (some .int), Cond.methodLink RL 99 yX5_elect, Cond.instanceMethod yX5_elect, Cond.selects RX5 yX5_elect yX5_elect, Cond.code yX5_elect cX5_elect 4 (some .int), Cond.methodLink RX5 239 yX5_layTides, Cond.instanceMethod yX5_layTides, Cond.selects RX5 yX5_layTides yX5_layTides, Cond.code yX5_layTides cX5_layTides 4 none, Cond.methodLink RX5 243 yX4_poolBehind, Cond.methodLink RL 102 yX6_elect, Cond.instanceMethod yX6_elect, Cond.selects RX6 yX6_elect yX6_elect, Cond.code yX6_elect cX6_elect 8 (some .int), Cond.methodLink RX6 208 yX6_findTides, Cond.instanceMethod yX6_findTides, Cond.selects RX6 yX6_findTides yX6_findTides, Cond.code yX6_findTides cX6_findTides 6 none, Cond.methodLink RX6 212 yX6_nextTide, Cond.instanceMethod yX6_nextTide, Cond.selects RX6 yX6_nextTide yX6_nextTide, Cond.code yX6_nextTide cX6_nextTide 4 (some .int)]
def wsL_law_r29 : List Cond := [Cond.methodLink RL 103 yX5_reading, Cond.instanceMethod yX5_reading, Cond.selects RX5 yX5_reading yX5_reading, Cond.code yX5_reading cX5_reading 4 (some .int), Cond.methodLink RX5 247 yX1_take, Cond.instanceMethod yX1_take, Cond.selects RX1 yX1_take yX1_take, Cond.code yX1_take cX1_take 4 (some .int), Cond.fieldLink RX1 21 "TideSeats$Readings" "count" "I", Cond.methodLink RL 106 yX6_reading, Cond.instanceMethod yX6_reading, Cond.selects RX6 yX6_reading yX6_reading, Cond.code yX6_reading cX6_reading 4 (some .int), Cond.methodLink RL 107 yX5_back, Cond.instanceMethod yX5_back, Cond.selects RX5 yX5_back yX5_back, Cond.code yX5_back cX5_back 2 (some .int), Cond.methodLink RL 110 yX6_back, Cond.instanceMethod yX6_back, Cond.selects RX6 yX6_back yX6_back, Cond.code yX6_back cX6_back 2 (some .int), Cond.methodLink RL 111 yX5_heights, Cond.instanceMethod yX5_heights, Cond.selects RX5 yX5_heights yX5_heights]
def wsL_law_r30 : List Cond := [Cond.code yX5_heights cX5_heights 4 (some .int), Cond.methodLink RX5 250 yX1_areSoIn, Cond.instanceMethod yX1_areSoIn, Cond.selects RX1 yX1_areSoIn yX1_areSoIn, Cond.code yX1_areSoIn cX1_areSoIn 3 (some .boolean), Cond.methodLink RX1 25 yX4_seatBehind, Cond.methodLink RL 114 yX6_heights, Cond.instanceMethod yX6_heights, Cond.selects RX6 yX6_heights yX6_heights, Cond.code yX6_heights cX6_heights 5 (some .int), Cond.methodLink RX6 215 yX6_areSo, Cond.instanceMethod yX6_areSo, Cond.selects RX6 yX6_areSo yX6_areSo, Cond.code yX6_areSo cX6_areSo 3 (some .boolean), Cond.methodLink RL 115 yX5_kinds, Cond.instanceMethod yX5_kinds, Cond.selects RX5 yX5_kinds yX5_kinds, Cond.code yX5_kinds cX5_kinds 4 (some .int), Cond.methodLink RL 118 yX6_kinds, Cond.instanceMethod yX6_kinds, Cond.selects RX6 yX6_kinds yX6_kinds, Cond.code yX6_kinds cX6_kinds 5 (some .int), Cond.methodLink RL 119 yX5_streams, Cond.instanceMethod yX5_streams]
def wsL_law_r31 : List Cond := [Cond.selects RX5 yX5_streams yX5_streams, Cond.code yX5_streams cX5_streams 3 (some .int), Cond.methodLink RL 123 yX6_streams, Cond.instanceMethod yX6_streams, Cond.selects RX6 yX6_streams yX6_streams, Cond.code yX6_streams cX6_streams 4 (some .int), Cond.methodLink RL 124 yX5_odds, Cond.instanceMethod yX5_odds, Cond.selects RX5 yX5_odds yX5_odds, Cond.code yX5_odds cX5_odds 7 (some .long), Cond.constantLong RX5 258 (-9223372036854775808), Cond.methodLink RX5 260 yX5_pairsOfTides, Cond.instanceMethod yX5_pairsOfTides, Cond.selects RX5 yX5_pairsOfTides yX5_pairsOfTides, Cond.code yX5_pairsOfTides cX5_pairsOfTides 8 (some .int), Cond.methodLink RX5 263 yX5_commonDivisor, Cond.static yX5_commonDivisor, Cond.code yX5_commonDivisor cX5_commonDivisor 3 (some .int), Cond.methodLink RL 128 yX6_odds, Cond.instanceMethod yX6_odds, Cond.selects RX6 yX6_odds yX6_odds, Cond.code yX6_odds cX6_odds 8 (some .long), Cond.constantLong RX6 68 (-9223372036854775808), Cond.constantLong RX6 219 (100)]
def wsL_law_r32 : List Cond := [Cond.methodLink RX6 221 yX6_inLeastTerms, Cond.static yX6_inLeastTerms, Cond.code yX6_inLeastTerms cX6_inLeastTerms 11 (some .long), Cond.methodLink RL 129 yX5_sheet, Cond.instanceMethod yX5_sheet, Cond.selects RX5 yX5_sheet yX5_sheet, Cond.code yX5_sheet cX5_sheet 4 (some .int), Cond.methodLink RX5 266 yX3_renew, Cond.instanceMethod yX3_renew, Cond.selects RX3 yX3_renew yX3_renew, Cond.code yX3_renew cX3_renew 4 none, Cond.fieldLink RX3 15 "TideSeats$Sheet" "isThere" "Z", Cond.fieldLink RX3 19 "TideSeats$Sheet" "lane" "I", Cond.methodLink RL 132 yX6_sheet, Cond.instanceMethod yX6_sheet, Cond.selects RX6 yX6_sheet yX6_sheet, Cond.code yX6_sheet cX6_sheet 5 (some .int), Cond.methodLink RL 133 yX5_lose, Cond.instanceMethod yX5_lose, Cond.selects RX5 yX5_lose yX5_lose, Cond.code yX5_lose cX5_lose 3 (some .int), Cond.methodLink RL 136 yX6_lose, Cond.instanceMethod yX6_lose, Cond.selects RX6 yX6_lose yX6_lose]
def wsL_law_r33 : List Cond := [Cond.code yX6_lose cX6_lose 3 (some .int), Cond.methodLink RL 137 yX5_put, Cond.instanceMethod yX5_put, Cond.selects RX5 yX5_put yX5_put, Cond.code yX5_put cX5_put 4 (some .int), Cond.methodLink RX5 276 yX3_cut, Cond.instanceMethod yX3_cut, Cond.selects RX3 yX3_cut yX3_cut, Cond.code yX3_cut cX3_cut 2 (some .int), Cond.methodLink RL 140 yX6_put, Cond.instanceMethod yX6_put, Cond.selects RX6 yX6_put yX6_put, Cond.code yX6_put cX6_put 4 (some .int), Cond.methodLink RL 141 yX5_cell, Cond.instanceMethod yX5_cell, Cond.selects RX5 yX5_cell yX5_cell, Cond.code yX5_cell cX5_cell 5 (some .long), Cond.methodLink RL 144 yX6_cell, Cond.instanceMethod yX6_cell, Cond.selects RX6 yX6_cell yX6_cell, Cond.code yX6_cell cX6_cell 4 (some .long), Cond.methodLink RX6 225 yX6_lost, Cond.instanceMethod yX6_lost, Cond.selects RX6 yX6_lost yX6_lost]
def wsL_law_r34 : List Cond := [Cond.code yX6_lost cX6_lost 2 (some .long), Cond.methodLink RL 145 yX5_copy, Cond.instanceMethod yX5_copy, Cond.selects RX5 yX5_copy yX5_copy, Cond.code yX5_copy cX5_copy 8 (some .int), Cond.methodLink RX5 282 arraycopyName, Cond.native arraycopyName, Cond.static arraycopyName, Cond.initialized "java/lang/System", Cond.methodLink RL 148 yX6_copy, Cond.instanceMethod yX6_copy, Cond.selects RX6 yX6_copy yX6_copy, Cond.code yX6_copy cX6_copy 10 (some .int), Cond.methodLink RL 149 yX5_tell, Cond.instanceMethod yX5_tell, Cond.selects RX5 yX5_tell yX5_tell, Cond.code yX5_tell cX5_tell 2 (some .int), Cond.methodLink RX5 288 yX5_shrimpBody, Cond.instanceMethod yX5_shrimpBody, Cond.selects RX5 yX5_shrimpBody yX5_shrimpBody, Cond.code yX5_shrimpBody cX5_shrimpBody 2 (some .int), Cond.methodLink RX5 297 yX5_leave, Cond.instanceMethod yX5_leave, Cond.selects RX5 yX5_leave yX5_leave]
def wsL_law_r35 : List Cond := [Cond.code yX5_leave cX5_leave 2 none, Cond.fieldLink RX5 300 "TideSeats" "traced" "I", Cond.methodLink RX5 291 yX5_crabBody, Cond.instanceMethod yX5_crabBody, Cond.selects RX5 yX5_crabBody yX5_crabBody, Cond.code yX5_crabBody cX5_crabBody 2 (some .int), Cond.methodLink RX5 294 yX5_limpetBody, Cond.instanceMethod yX5_limpetBody, Cond.selects RX5 yX5_limpetBody yX5_limpetBody, Cond.code yX5_limpetBody cX5_limpetBody 3 (some .int), Cond.methodLink RL 152 yX6_tell, Cond.instanceMethod yX6_tell, Cond.selects RX6 yX6_tell yX6_tell, Cond.code yX6_tell cX6_tell 3 (some .int), Cond.methodLink RX6 232 yX6_begins, Cond.instanceMethod yX6_begins, Cond.selects RX6 yX6_begins yX6_begins, Cond.code yX6_begins cX6_begins 2 none, Cond.fieldLink RX6 229 "TideSeatsModel" "trace" "I", Cond.methodLink RL 153 yX5_name, Cond.instanceMethod yX5_name, Cond.selects RX5 yX5_name yX5_name, Cond.code yX5_name cX5_name 3 (some .int), Cond.methodLink RL 156 yX6_name]
def wsL_law_r36 : List Cond := [Cond.instanceMethod yX6_name, Cond.selects RX6 yX6_name yX6_name, Cond.code yX6_name cX6_name 2 (some .int), Cond.methodLink RL 157 yX5_as, Cond.instanceMethod yX5_as, Cond.selects RX5 yX5_as yX5_as, Cond.code yX5_as cX5_as 3 (some .int), Cond.methodLink RL 160 yX6_as, Cond.instanceMethod yX6_as, Cond.selects RX6 yX6_as yX6_as, Cond.code yX6_as cX6_as 3 (some .int), Cond.methodLink RL 161 yX5_trace, Cond.instanceMethod yX5_trace, Cond.selects RX5 yX5_trace yX5_trace, Cond.code yX5_trace cX5_trace 1 (some .int), Cond.methodLink RL 164 yX6_trace, Cond.instanceMethod yX6_trace, Cond.selects RX6 yX6_trace yX6_trace, Cond.code yX6_trace cX6_trace 1 (some .int), Cond.methodLink RL 165 yX5_fault, Cond.instanceMethod yX5_fault, Cond.selects RX5 yX5_fault yX5_fault, Cond.code yX5_fault cX5_fault 1 (some .int), Cond.methodLink RL 168 yX6_fault]
def wsL_law_r37 : List Cond := [Cond.instanceMethod yX6_fault, Cond.selects RX6 yX6_fault yX6_fault, Cond.code yX6_fault cX6_fault 1 (some .int), Cond.methodLink RL 169 yX5_many, Cond.instanceMethod yX5_many, Cond.selects RX5 yX5_many yX5_many, Cond.code yX5_many cX5_many 2 (some .int), Cond.methodLink RL 172 yX6_many, Cond.instanceMethod yX6_many, Cond.selects RX6 yX6_many yX6_many, Cond.code yX6_many cX6_many 2 (some .int)]
def wsL_law : List Cond := (wsL_law_r1 ++ (wsL_law_r2 ++ (wsL_law_r3 ++ (wsL_law_r4 ++ (wsL_law_r5 ++ (wsL_law_r6 ++ (wsL_law_r7 ++ (wsL_law_r8 ++ (wsL_law_r9 ++ (wsL_law_r10 ++ (wsL_law_r11 ++ (wsL_law_r12 ++ (wsL_law_r13 ++ (wsL_law_r14 ++ (wsL_law_r15 ++ (wsL_law_r16 ++ (wsL_law_r17 ++ (wsL_law_r18 ++ (wsL_law_r19 ++ (wsL_law_r20 ++ (wsL_law_r21 ++ (wsL_law_r22 ++ (wsL_law_r23 ++ (wsL_law_r24 ++ (wsL_law_r25 ++ (wsL_law_r26 ++ (wsL_law_r27 ++ (wsL_law_r28 ++ (wsL_law_r29 ++ (wsL_law_r30 ++ (wsL_law_r31 ++ (wsL_law_r32 ++ (wsL_law_r33 ++ (wsL_law_r34 ++ (wsL_law_r35 ++ (wsL_law_r36 ++ wsL_law_r37)))))))))))))))))))))))))))))))))))) ++ wsX50 ++ wsX60 ++ wsX30 ++ wsX00 ++ wsX10 ++ wsX20 ++ wsX40 ++ ([] : List Cond)
set_option maxRecDepth 20000 in
theorem inlX0 : ∀ w ∈ wsX00, w ∈ wsL_law := fun _ h => List.mem_append_left _ (List.mem_append_left _ (List.mem_append_left _ (List.mem_append_left _ (List.mem_append_right _ h))))
theorem inlX1 : ∀ w ∈ wsX10, w ∈ wsL_law := fun _ h => List.mem_append_left _ (List.mem_append_left _ (List.mem_append_left _ (List.mem_append_right _ h)))
theorem inlX2 : ∀ w ∈ wsX20, w ∈ wsL_law := fun _ h => List.mem_append_left _ (List.mem_append_left _ (List.mem_append_right _ h))
theorem inlX3 : ∀ w ∈ wsX30, w ∈ wsL_law := fun _ h => List.mem_append_left _ (List.mem_append_left _ (List.mem_append_left _ (List.mem_append_left _ (List.mem_append_left _ (List.mem_append_right _ h)))))
theorem inlX4 : ∀ w ∈ wsX40, w ∈ wsL_law := fun _ h => List.mem_append_left _ (List.mem_append_right _ h)
theorem inlX5 : ∀ w ∈ wsX50, w ∈ wsL_law := fun _ h => List.mem_append_left _ (List.mem_append_left _ (List.mem_append_left _ (List.mem_append_left _ (List.mem_append_left _ (List.mem_append_left _ (List.mem_append_left _ (List.mem_append_right _ h)))))))
theorem inlX6 : ∀ w ∈ wsX60, w ∈ wsL_law := fun _ h => List.mem_append_left _ (List.mem_append_left _ (List.mem_append_left _ (List.mem_append_left _ (List.mem_append_left _ (List.mem_append_left _ (List.mem_append_right _ h))))))
abbrev vwCl : List vw_C := [(RX0, TX0, 4), (RX1, TX1, 4), (RX2, TX2, 6), (RX3, TX3, 4), (RX4, TX4, 10), (RX5, TX5, 8), (RX6, TX6, 33)]
end
section
theorem dX0_init_0 : decode cX0_init 0 = .ok (.aload_n 0, 1) := by decide +kernel
theorem dX0_init_1 : decode cX0_init 1 = .ok (.invokespecial 3, 3) := by decide +kernel
theorem dX0_init_4 : decode cX0_init 4 = .ok (.return_, 1) := by decide +kernel
theorem dX0_begin_0 : decode cX0_begin 0 = .ok (.aload_n 0, 1) := by decide +kernel
theorem dX0_begin_1 : decode cX0_begin 1 = .ok (.aload_n 1, 1) := by decide +kernel
theorem dX0_begin_2 : decode cX0_begin 2 = .ok (.putfield 9, 3) := by decide +kernel
theorem dX0_begin_5 : decode cX0_begin 5 = .ok (.aload_n 0, 1) := by decide +kernel
theorem dX0_begin_6 : decode cX0_begin 6 = .ok (.iload_n 2, 1) := by decide +kernel
theorem dX0_begin_7 : decode cX0_begin 7 = .ok (.putfield 15, 3) := by decide +kernel
theorem dX0_begin_10 : decode cX0_begin 10 = .ok (.aload_n 0, 1) := by decide +kernel
theorem dX0_begin_11 : decode cX0_begin 11 = .ok (.iload_n 2, 1) := by decide +kernel
theorem dX0_begin_12 : decode cX0_begin 12 = .ok (.iload_n 3, 1) := by decide +kernel
theorem dX0_begin_13 : decode cX0_begin 13 = .ok (.iadd, 1) := by decide +kernel
theorem dX0_begin_14 : decode cX0_begin 14 = .ok (.putfield 19, 3) := by decide +kernel
theorem dX0_begin_17 : decode cX0_begin 17 = .ok (.aload_n 0, 1) := by decide +kernel
theorem dX0_begin_18 : decode cX0_begin 18 = .ok (.iload_n 2, 1) := by decide +kernel
theorem dX0_begin_19 : decode cX0_begin 19 = .ok (.putfield 22, 3) := by decide +kernel
theorem dX0_begin_22 : decode cX0_begin 22 = .ok (.return_, 1) := by decide +kernel
theorem dX0_place_0 : decode cX0_place 0 = .ok (.aload_n 0, 1) := by decide +kernel
theorem dX0_place_1 : decode cX0_place 1 = .ok (.getfield 22, 3) := by decide +kernel
theorem dX0_place_4 : decode cX0_place 4 = .ok (.aload_n 0, 1) := by decide +kernel
theorem dX0_place_5 : decode cX0_place 5 = .ok (.getfield 15, 3) := by decide +kernel
theorem dX0_place_8 : decode cX0_place 8 = .ok (.isub, 1) := by decide +kernel
theorem dX0_place_9 : decode cX0_place 9 = .ok (.ireturn, 1) := by decide +kernel
theorem dX0_isAtEnd_0 : decode cX0_isAtEnd 0 = .ok (.aload_n 0, 1) := by decide +kernel
theorem dX0_isAtEnd_1 : decode cX0_isAtEnd 1 = .ok (.getfield 22, 3) := by decide +kernel
theorem dX0_isAtEnd_4 : decode cX0_isAtEnd 4 = .ok (.aload_n 0, 1) := by decide +kernel
theorem dX0_isAtEnd_5 : decode cX0_isAtEnd 5 = .ok (.getfield 19, 3) := by decide +kernel
theorem dX0_isAtEnd_8 : decode cX0_isAtEnd 8 = .ok (.if_icmp .lt 7, 3) := by decide +kernel
theorem dX0_isAtEnd_11 : decode cX0_isAtEnd 11 = .ok (.iconst 1, 1) := by decide +kernel
theorem dX0_isAtEnd_12 : decode cX0_isAtEnd 12 = .ok (.goto 4, 3) := by decide +kernel
theorem dX0_isAtEnd_15 : decode cX0_isAtEnd 15 = .ok (.iconst 0, 1) := by decide +kernel
theorem dX0_isAtEnd_16 : decode cX0_isAtEnd 16 = .ok (.ireturn, 1) := by decide +kernel
theorem dX0_takes_0 : decode cX0_takes 0 = .ok (.aload_n 0, 1) := by decide +kernel
theorem dX0_takes_1 : decode cX0_takes 1 = .ok (.invokevirtual 25, 3) := by decide +kernel
theorem dX0_takes_4 : decode cX0_takes 4 = .ok (.ifCond .ne 19, 3) := by decide +kernel
theorem dX0_takes_7 : decode cX0_takes 7 = .ok (.aload_n 0, 1) := by decide +kernel
theorem dX0_takes_8 : decode cX0_takes 8 = .ok (.getfield 9, 3) := by decide +kernel
theorem dX0_takes_11 : decode cX0_takes 11 = .ok (.getfield 29, 3) := by decide +kernel
theorem dX0_takes_14 : decode cX0_takes 14 = .ok (.aload_n 0, 1) := by decide +kernel
theorem dX0_takes_15 : decode cX0_takes 15 = .ok (.getfield 22, 3) := by decide +kernel
theorem dX0_takes_18 : decode cX0_takes 18 = .ok (.iaload, 1) := by decide +kernel
theorem dX0_takes_19 : decode cX0_takes 19 = .ok (.iload_n 1, 1) := by decide +kernel
theorem dX0_takes_20 : decode cX0_takes 20 = .ok (.if_icmp .eq 5, 3) := by decide +kernel
theorem dX0_takes_23 : decode cX0_takes 23 = .ok (.iconst 0, 1) := by decide +kernel
theorem dX0_takes_24 : decode cX0_takes 24 = .ok (.ireturn, 1) := by decide +kernel
theorem dX0_takes_25 : decode cX0_takes 25 = .ok (.aload_n 0, 1) := by decide +kernel
theorem dX0_takes_26 : decode cX0_takes 26 = .ok (.dup, 1) := by decide +kernel
theorem dX0_takes_27 : decode cX0_takes 27 = .ok (.getfield 22, 3) := by decide +kernel
theorem dX0_takes_30 : decode cX0_takes 30 = .ok (.iconst 1, 1) := by decide +kernel
theorem dX0_takes_31 : decode cX0_takes 31 = .ok (.iadd, 1) := by decide +kernel
theorem dX0_takes_32 : decode cX0_takes 32 = .ok (.putfield 22, 3) := by decide +kernel
theorem dX0_takes_35 : decode cX0_takes 35 = .ok (.iconst 1, 1) := by decide +kernel
theorem dX0_takes_36 : decode cX0_takes 36 = .ok (.ireturn, 1) := by decide +kernel
theorem dX0_digit_0 : decode cX0_digit 0 = .ok (.aload_n 0, 1) := by decide +kernel
theorem dX0_digit_1 : decode cX0_digit 1 = .ok (.invokevirtual 25, 3) := by decide +kernel
theorem dX0_digit_4 : decode cX0_digit 4 = .ok (.ifCond .ne 29, 3) := by decide +kernel
theorem dX0_digit_7 : decode cX0_digit 7 = .ok (.aload_n 0, 1) := by decide +kernel
theorem dX0_digit_8 : decode cX0_digit 8 = .ok (.getfield 9, 3) := by decide +kernel
theorem dX0_digit_11 : decode cX0_digit 11 = .ok (.getfield 29, 3) := by decide +kernel
theorem dX0_digit_14 : decode cX0_digit 14 = .ok (.aload_n 0, 1) := by decide +kernel
theorem dX0_digit_15 : decode cX0_digit 15 = .ok (.getfield 22, 3) := by decide +kernel
theorem dX0_digit_18 : decode cX0_digit 18 = .ok (.iaload, 1) := by decide +kernel
theorem dX0_digit_19 : decode cX0_digit 19 = .ok (.bipush 48, 2) := by decide +kernel
theorem dX0_digit_21 : decode cX0_digit 21 = .ok (.iload_n 1, 1) := by decide +kernel
theorem dX0_digit_22 : decode cX0_digit 22 = .ok (.iadd, 1) := by decide +kernel
theorem dX0_digit_23 : decode cX0_digit 23 = .ok (.bipush 48, 2) := by decide +kernel
theorem dX0_digit_25 : decode cX0_digit 25 = .ok (.iload_n 2, 1) := by decide +kernel
theorem dX0_digit_26 : decode cX0_digit 26 = .ok (.iadd, 1) := by decide +kernel
theorem dX0_digit_27 : decode cX0_digit 27 = .ok (.invokestatic 35, 3) := by decide +kernel
theorem dX0_digit_30 : decode cX0_digit 30 = .ok (.ifCond .ne 6, 3) := by decide +kernel
theorem dX0_digit_33 : decode cX0_digit 33 = .ok (.bipush (-9), 2) := by decide +kernel
theorem dX0_digit_35 : decode cX0_digit 35 = .ok (.ireturn, 1) := by decide +kernel
theorem dX0_digit_36 : decode cX0_digit 36 = .ok (.aload_n 0, 1) := by decide +kernel
theorem dX0_digit_37 : decode cX0_digit 37 = .ok (.getfield 9, 3) := by decide +kernel
theorem dX0_digit_40 : decode cX0_digit 40 = .ok (.getfield 29, 3) := by decide +kernel
theorem dX0_digit_43 : decode cX0_digit 43 = .ok (.aload_n 0, 1) := by decide +kernel
theorem dX0_digit_44 : decode cX0_digit 44 = .ok (.getfield 22, 3) := by decide +kernel
theorem dX0_digit_47 : decode cX0_digit 47 = .ok (.iaload, 1) := by decide +kernel
theorem dX0_digit_48 : decode cX0_digit 48 = .ok (.bipush 48, 2) := by decide +kernel
theorem dX0_digit_50 : decode cX0_digit 50 = .ok (.isub, 1) := by decide +kernel
theorem dX0_digit_51 : decode cX0_digit 51 = .ok (.istore_n 3, 1) := by decide +kernel
theorem dX0_digit_52 : decode cX0_digit 52 = .ok (.aload_n 0, 1) := by decide +kernel
theorem dX0_digit_53 : decode cX0_digit 53 = .ok (.dup, 1) := by decide +kernel
theorem dX0_digit_54 : decode cX0_digit 54 = .ok (.getfield 22, 3) := by decide +kernel
theorem dX0_digit_57 : decode cX0_digit 57 = .ok (.iconst 1, 1) := by decide +kernel
theorem dX0_digit_58 : decode cX0_digit 58 = .ok (.iadd, 1) := by decide +kernel
theorem dX0_digit_59 : decode cX0_digit 59 = .ok (.putfield 22, 3) := by decide +kernel
theorem dX0_digit_62 : decode cX0_digit 62 = .ok (.iload_n 3, 1) := by decide +kernel
theorem dX0_digit_63 : decode cX0_digit 63 = .ok (.ireturn, 1) := by decide +kernel
theorem dX0_kind_0 : decode cX0_kind 0 = .ok (.aload_n 0, 1) := by decide +kernel
theorem dX0_kind_1 : decode cX0_kind 1 = .ok (.bipush 115, 2) := by decide +kernel
theorem dX0_kind_3 : decode cX0_kind 3 = .ok (.invokevirtual 39, 3) := by decide +kernel
theorem dX0_kind_6 : decode cX0_kind 6 = .ok (.ifCond .eq 5, 3) := by decide +kernel
theorem dX0_kind_9 : decode cX0_kind 9 = .ok (.iconst 0, 1) := by decide +kernel
theorem dX0_kind_10 : decode cX0_kind 10 = .ok (.ireturn, 1) := by decide +kernel
theorem dX0_kind_11 : decode cX0_kind 11 = .ok (.aload_n 0, 1) := by decide +kernel
theorem dX0_kind_12 : decode cX0_kind 12 = .ok (.bipush 99, 2) := by decide +kernel
theorem dX0_kind_14 : decode cX0_kind 14 = .ok (.invokevirtual 39, 3) := by decide +kernel
theorem dX0_kind_17 : decode cX0_kind 17 = .ok (.ifCond .eq 5, 3) := by decide +kernel
theorem dX0_kind_20 : decode cX0_kind 20 = .ok (.iconst 1, 1) := by decide +kernel
theorem dX0_kind_21 : decode cX0_kind 21 = .ok (.ireturn, 1) := by decide +kernel
theorem dX0_kind_22 : decode cX0_kind 22 = .ok (.aload_n 0, 1) := by decide +kernel
theorem dX0_kind_23 : decode cX0_kind 23 = .ok (.bipush 108, 2) := by decide +kernel
theorem dX0_kind_25 : decode cX0_kind 25 = .ok (.invokevirtual 39, 3) := by decide +kernel
theorem dX0_kind_28 : decode cX0_kind 28 = .ok (.ifCond .eq 7, 3) := by decide +kernel
theorem dX0_kind_31 : decode cX0_kind 31 = .ok (.iconst 2, 1) := by decide +kernel
theorem dX0_kind_32 : decode cX0_kind 32 = .ok (.goto 5, 3) := by decide +kernel
theorem dX0_kind_35 : decode cX0_kind 35 = .ok (.bipush (-9), 2) := by decide +kernel
theorem dX0_kind_37 : decode cX0_kind 37 = .ok (.ireturn, 1) := by decide +kernel
theorem dX1_init_0 : decode cX1_init 0 = .ok (.aload_n 0, 1) := by decide +kernel
theorem dX1_init_1 : decode cX1_init 1 = .ok (.invokespecial 3, 3) := by decide +kernel
theorem dX1_init_4 : decode cX1_init 4 = .ok (.aload_n 0, 1) := by decide +kernel
theorem dX1_init_5 : decode cX1_init 5 = .ok (.bipush 8, 2) := by decide +kernel
theorem dX1_init_7 : decode cX1_init 7 = .ok (.newarray .int, 2) := by decide +kernel
theorem dX1_init_9 : decode cX1_init 9 = .ok (.putfield 9, 3) := by decide +kernel
theorem dX1_init_12 : decode cX1_init 12 = .ok (.aload_n 0, 1) := by decide +kernel
theorem dX1_init_13 : decode cX1_init 13 = .ok (.bipush 8, 2) := by decide +kernel
theorem dX1_init_15 : decode cX1_init 15 = .ok (.newarray .int, 2) := by decide +kernel
theorem dX1_init_17 : decode cX1_init 17 = .ok (.putfield 15, 3) := by decide +kernel
theorem dX1_init_20 : decode cX1_init 20 = .ok (.aload_n 0, 1) := by decide +kernel
theorem dX1_init_21 : decode cX1_init 21 = .ok (.bipush 8, 2) := by decide +kernel
theorem dX1_init_23 : decode cX1_init 23 = .ok (.newarray .int, 2) := by decide +kernel
theorem dX1_init_25 : decode cX1_init 25 = .ok (.putfield 18, 3) := by decide +kernel
theorem dX1_init_28 : decode cX1_init 28 = .ok (.return_, 1) := by decide +kernel
theorem dX1_take_0 : decode cX1_take 0 = .ok (.aload_n 0, 1) := by decide +kernel
theorem dX1_take_1 : decode cX1_take 1 = .ok (.getfield 9, 3) := by decide +kernel
theorem dX1_take_4 : decode cX1_take 4 = .ok (.aload_n 0, 1) := by decide +kernel
theorem dX1_take_5 : decode cX1_take 5 = .ok (.getfield 21, 3) := by decide +kernel
theorem dX1_take_8 : decode cX1_take 8 = .ok (.iload_n 1, 1) := by decide +kernel
theorem dX1_take_9 : decode cX1_take 9 = .ok (.iastore, 1) := by decide +kernel
theorem dX1_take_10 : decode cX1_take 10 = .ok (.aload_n 0, 1) := by decide +kernel
theorem dX1_take_11 : decode cX1_take 11 = .ok (.getfield 15, 3) := by decide +kernel
theorem dX1_take_14 : decode cX1_take 14 = .ok (.aload_n 0, 1) := by decide +kernel
theorem dX1_take_15 : decode cX1_take 15 = .ok (.getfield 21, 3) := by decide +kernel
theorem dX1_take_18 : decode cX1_take 18 = .ok (.iload_n 2, 1) := by decide +kernel
theorem dX1_take_19 : decode cX1_take 19 = .ok (.iastore, 1) := by decide +kernel
theorem dX1_take_20 : decode cX1_take 20 = .ok (.aload_n 0, 1) := by decide +kernel
theorem dX1_take_21 : decode cX1_take 21 = .ok (.getfield 18, 3) := by decide +kernel
theorem dX1_take_24 : decode cX1_take 24 = .ok (.aload_n 0, 1) := by decide +kernel
theorem dX1_take_25 : decode cX1_take 25 = .ok (.getfield 21, 3) := by decide +kernel
theorem dX1_take_28 : decode cX1_take 28 = .ok (.iload_n 3, 1) := by decide +kernel
theorem dX1_take_29 : decode cX1_take 29 = .ok (.iastore, 1) := by decide +kernel
theorem dX1_take_30 : decode cX1_take 30 = .ok (.aload_n 0, 1) := by decide +kernel
theorem dX1_take_31 : decode cX1_take 31 = .ok (.dup, 1) := by decide +kernel
theorem dX1_take_32 : decode cX1_take 32 = .ok (.getfield 21, 3) := by decide +kernel
theorem dX1_take_35 : decode cX1_take 35 = .ok (.iconst 1, 1) := by decide +kernel
theorem dX1_take_36 : decode cX1_take 36 = .ok (.iadd, 1) := by decide +kernel
theorem dX1_take_37 : decode cX1_take 37 = .ok (.putfield 21, 3) := by decide +kernel
theorem dX1_take_40 : decode cX1_take 40 = .ok (.aload_n 0, 1) := by decide +kernel
theorem dX1_take_41 : decode cX1_take 41 = .ok (.getfield 21, 3) := by decide +kernel
theorem dX1_take_44 : decode cX1_take 44 = .ok (.iconst 1, 1) := by decide +kernel
theorem dX1_take_45 : decode cX1_take 45 = .ok (.isub, 1) := by decide +kernel
theorem dX1_take_46 : decode cX1_take 46 = .ok (.ireturn, 1) := by decide +kernel
theorem dX1_areSoIn_0 : decode cX1_areSoIn 0 = .ok (.iconst 0, 1) := by decide +kernel
theorem dX1_areSoIn_1 : decode cX1_areSoIn 1 = .ok (.istore_n 2, 1) := by decide +kernel
theorem dX1_areSoIn_2 : decode cX1_areSoIn 2 = .ok (.iload_n 2, 1) := by decide +kernel
theorem dX1_areSoIn_3 : decode cX1_areSoIn 3 = .ok (.aload_n 0, 1) := by decide +kernel
theorem dX1_areSoIn_4 : decode cX1_areSoIn 4 = .ok (.getfield 21, 3) := by decide +kernel
theorem dX1_areSoIn_7 : decode cX1_areSoIn 7 = .ok (.if_icmp .ge 36, 3) := by decide +kernel
theorem dX1_areSoIn_10 : decode cX1_areSoIn 10 = .ok (.aload_n 1, 1) := by decide +kernel
theorem dX1_areSoIn_11 : decode cX1_areSoIn 11 = .ok (.aload_n 0, 1) := by decide +kernel
theorem dX1_areSoIn_12 : decode cX1_areSoIn 12 = .ok (.getfield 9, 3) := by decide +kernel
theorem dX1_areSoIn_15 : decode cX1_areSoIn 15 = .ok (.iload_n 2, 1) := by decide +kernel
theorem dX1_areSoIn_16 : decode cX1_areSoIn 16 = .ok (.iaload, 1) := by decide +kernel
theorem dX1_areSoIn_17 : decode cX1_areSoIn 17 = .ok (.aload_n 0, 1) := by decide +kernel
theorem dX1_areSoIn_18 : decode cX1_areSoIn 18 = .ok (.getfield 15, 3) := by decide +kernel
theorem dX1_areSoIn_21 : decode cX1_areSoIn 21 = .ok (.iload_n 2, 1) := by decide +kernel
theorem dX1_areSoIn_22 : decode cX1_areSoIn 22 = .ok (.iaload, 1) := by decide +kernel
theorem dX1_areSoIn_23 : decode cX1_areSoIn 23 = .ok (.invokevirtual 25, 3) := by decide +kernel
theorem dX1_areSoIn_26 : decode cX1_areSoIn 26 = .ok (.aload_n 0, 1) := by decide +kernel
theorem dX1_areSoIn_27 : decode cX1_areSoIn 27 = .ok (.getfield 18, 3) := by decide +kernel
theorem dX1_areSoIn_30 : decode cX1_areSoIn 30 = .ok (.iload_n 2, 1) := by decide +kernel
theorem dX1_areSoIn_31 : decode cX1_areSoIn 31 = .ok (.iaload, 1) := by decide +kernel
theorem dX1_areSoIn_32 : decode cX1_areSoIn 32 = .ok (.if_icmp .eq 5, 3) := by decide +kernel
theorem dX1_areSoIn_35 : decode cX1_areSoIn 35 = .ok (.iconst 0, 1) := by decide +kernel
theorem dX1_areSoIn_36 : decode cX1_areSoIn 36 = .ok (.ireturn, 1) := by decide +kernel
theorem dX1_areSoIn_37 : decode cX1_areSoIn 37 = .ok (.iinc 2 1, 3) := by decide +kernel
theorem dX1_areSoIn_40 : decode cX1_areSoIn 40 = .ok (.goto (-38), 3) := by decide +kernel
theorem dX1_areSoIn_43 : decode cX1_areSoIn 43 = .ok (.iconst 1, 1) := by decide +kernel
theorem dX1_areSoIn_44 : decode cX1_areSoIn 44 = .ok (.ireturn, 1) := by decide +kernel
theorem dX2_init_0 : decode cX2_init 0 = .ok (.aload_n 0, 1) := by decide +kernel
theorem dX2_init_1 : decode cX2_init 1 = .ok (.invokespecial 3, 3) := by decide +kernel
theorem dX2_init_4 : decode cX2_init 4 = .ok (.aload_n 0, 1) := by decide +kernel
theorem dX2_init_5 : decode cX2_init 5 = .ok (.bipush 6, 2) := by decide +kernel
theorem dX2_init_7 : decode cX2_init 7 = .ok (.bipush 10, 2) := by decide +kernel
theorem dX2_init_9 : decode cX2_init 9 = .ok (.multianewarray 11 2, 4) := by decide +kernel
theorem dX2_init_13 : decode cX2_init 13 = .ok (.putfield 13, 3) := by decide +kernel
theorem dX2_init_16 : decode cX2_init 16 = .ok (.aload_n 0, 1) := by decide +kernel
theorem dX2_init_17 : decode cX2_init 17 = .ok (.bipush 6, 2) := by decide +kernel
theorem dX2_init_19 : decode cX2_init 19 = .ok (.newarray .int, 2) := by decide +kernel
theorem dX2_init_21 : decode cX2_init 21 = .ok (.putfield 16, 3) := by decide +kernel
theorem dX2_init_24 : decode cX2_init 24 = .ok (.aload_n 0, 1) := by decide +kernel
theorem dX2_init_25 : decode cX2_init 25 = .ok (.bipush 6, 2) := by decide +kernel
theorem dX2_init_27 : decode cX2_init 27 = .ok (.newarray .int, 2) := by decide +kernel
theorem dX2_init_29 : decode cX2_init 29 = .ok (.putfield 20, 3) := by decide +kernel
theorem dX2_init_32 : decode cX2_init 32 = .ok (.return_, 1) := by decide +kernel
theorem dX2_begin_0 : decode cX2_begin 0 = .ok (.aload_n 0, 1) := by decide +kernel
theorem dX2_begin_1 : decode cX2_begin 1 = .ok (.iload_n 1, 1) := by decide +kernel
theorem dX2_begin_2 : decode cX2_begin 2 = .ok (.putfield 23, 3) := by decide +kernel
theorem dX2_begin_5 : decode cX2_begin 5 = .ok (.aload_n 0, 1) := by decide +kernel
theorem dX2_begin_6 : decode cX2_begin 6 = .ok (.iload_n 2, 1) := by decide +kernel
theorem dX2_begin_7 : decode cX2_begin 7 = .ok (.putfield 27, 3) := by decide +kernel
theorem dX2_begin_10 : decode cX2_begin 10 = .ok (.return_, 1) := by decide +kernel
theorem dX2_lay_0 : decode cX2_lay 0 = .ok (.aload_n 0, 1) := by decide +kernel
theorem dX2_lay_1 : decode cX2_lay 1 = .ok (.getfield 13, 3) := by decide +kernel
theorem dX2_lay_4 : decode cX2_lay 4 = .ok (.iload_n 1, 1) := by decide +kernel
theorem dX2_lay_5 : decode cX2_lay 5 = .ok (.aaload, 1) := by decide +kernel
theorem dX2_lay_6 : decode cX2_lay 6 = .ok (.iload_n 2, 1) := by decide +kernel
theorem dX2_lay_7 : decode cX2_lay 7 = .ok (.iload_n 3, 1) := by decide +kernel
theorem dX2_lay_8 : decode cX2_lay 8 = .ok (.iastore, 1) := by decide +kernel
theorem dX2_lay_9 : decode cX2_lay 9 = .ok (.return_, 1) := by decide +kernel
theorem dX2_find_0 : decode cX2_find 0 = .ok (.aload_n 0, 1) := by decide +kernel
theorem dX2_find_1 : decode cX2_find 1 = .ok (.iload_n 2, 1) := by decide +kernel
theorem dX2_find_2 : decode cX2_find 2 = .ok (.invokevirtual 30, 3) := by decide +kernel
theorem dX2_find_5 : decode cX2_find 5 = .ok (.aload_n 0, 1) := by decide +kernel
theorem dX2_find_6 : decode cX2_find 6 = .ok (.aload_n 0, 1) := by decide +kernel
theorem dX2_find_7 : decode cX2_find 7 = .ok (.getfield 16, 3) := by decide +kernel
theorem dX2_find_10 : decode cX2_find 10 = .ok (.iload_n 1, 1) := by decide +kernel
theorem dX2_find_11 : decode cX2_find 11 = .ok (.iaload, 1) := by decide +kernel
theorem dX2_find_12 : decode cX2_find 12 = .ok (.putfield 34, 3) := by decide +kernel
theorem dX2_find_15 : decode cX2_find 15 = .ok (.iload_n 1, 1) := by decide +kernel
theorem dX2_find_16 : decode cX2_find 16 = .ok (.istore_n 3, 1) := by decide +kernel
theorem dX2_find_17 : decode cX2_find 17 = .ok (.iconst 0, 1) := by decide +kernel
theorem dX2_find_18 : decode cX2_find 18 = .ok (.istore 4, 2) := by decide +kernel
theorem dX2_find_20 : decode cX2_find 20 = .ok (.iload 4, 2) := by decide +kernel
theorem dX2_find_22 : decode cX2_find 22 = .ok (.aload_n 0, 1) := by decide +kernel
theorem dX2_find_23 : decode cX2_find 23 = .ok (.getfield 34, 3) := by decide +kernel
theorem dX2_find_26 : decode cX2_find 26 = .ok (.if_icmp .ge 50, 3) := by decide +kernel
theorem dX2_find_29 : decode cX2_find 29 = .ok (.aload_n 0, 1) := by decide +kernel
theorem dX2_find_30 : decode cX2_find 30 = .ok (.iload_n 3, 1) := by decide +kernel
theorem dX2_find_31 : decode cX2_find 31 = .ok (.aload_n 0, 1) := by decide +kernel
theorem dX2_find_32 : decode cX2_find 32 = .ok (.getfield 16, 3) := by decide +kernel
theorem dX2_find_35 : decode cX2_find 35 = .ok (.iload_n 3, 1) := by decide +kernel
theorem dX2_find_36 : decode cX2_find 36 = .ok (.iaload, 1) := by decide +kernel
theorem dX2_find_37 : decode cX2_find 37 = .ok (.iconst 1, 1) := by decide +kernel
theorem dX2_find_38 : decode cX2_find 38 = .ok (.isub, 1) := by decide +kernel
theorem dX2_find_39 : decode cX2_find 39 = .ok (.invokevirtual 37, 3) := by decide +kernel
theorem dX2_find_42 : decode cX2_find 42 = .ok (.istore 5, 2) := by decide +kernel
theorem dX2_find_44 : decode cX2_find 44 = .ok (.iload 5, 2) := by decide +kernel
theorem dX2_find_46 : decode cX2_find 46 = .ok (.bipush (-9), 2) := by decide +kernel
theorem dX2_find_48 : decode cX2_find 48 = .ok (.if_icmp .eq 22, 3) := by decide +kernel
theorem dX2_find_51 : decode cX2_find 51 = .ok (.aload_n 0, 1) := by decide +kernel
theorem dX2_find_52 : decode cX2_find 52 = .ok (.getfield 20, 3) := by decide +kernel
theorem dX2_find_55 : decode cX2_find 55 = .ok (.iload 4, 2) := by decide +kernel
theorem dX2_find_57 : decode cX2_find 57 = .ok (.iload 5, 2) := by decide +kernel
theorem dX2_find_59 : decode cX2_find 59 = .ok (.iastore, 1) := by decide +kernel
theorem dX2_find_60 : decode cX2_find 60 = .ok (.aload_n 0, 1) := by decide +kernel
theorem dX2_find_61 : decode cX2_find 61 = .ok (.getfield 13, 3) := by decide +kernel
theorem dX2_find_64 : decode cX2_find 64 = .ok (.iload_n 3, 1) := by decide +kernel
theorem dX2_find_65 : decode cX2_find 65 = .ok (.aaload, 1) := by decide +kernel
theorem dX2_find_66 : decode cX2_find 66 = .ok (.iload 5, 2) := by decide +kernel
theorem dX2_find_68 : decode cX2_find 68 = .ok (.iaload, 1) := by decide +kernel
theorem dX2_find_69 : decode cX2_find 69 = .ok (.istore_n 3, 1) := by decide +kernel
theorem dX2_find_70 : decode cX2_find 70 = .ok (.iinc 4 1, 3) := by decide +kernel
theorem dX2_find_73 : decode cX2_find 73 = .ok (.goto (-53), 3) := by decide +kernel
theorem dX2_find_76 : decode cX2_find 76 = .ok (.return_, 1) := by decide +kernel
theorem dX2_moveAt_0 : decode cX2_moveAt 0 = .ok (.iload_n 1, 1) := by decide +kernel
theorem dX2_moveAt_1 : decode cX2_moveAt 1 = .ok (.iconst 0, 1) := by decide +kernel
theorem dX2_moveAt_2 : decode cX2_moveAt 2 = .ok (.aload_n 0, 1) := by decide +kernel
theorem dX2_moveAt_3 : decode cX2_moveAt 3 = .ok (.getfield 34, 3) := by decide +kernel
theorem dX2_moveAt_6 : decode cX2_moveAt 6 = .ok (.iconst 1, 1) := by decide +kernel
theorem dX2_moveAt_7 : decode cX2_moveAt 7 = .ok (.isub, 1) := by decide +kernel
theorem dX2_moveAt_8 : decode cX2_moveAt 8 = .ok (.invokestatic 41, 3) := by decide +kernel
theorem dX2_moveAt_11 : decode cX2_moveAt 11 = .ok (.ifCond .eq 12, 3) := by decide +kernel
theorem dX2_moveAt_14 : decode cX2_moveAt 14 = .ok (.aload_n 0, 1) := by decide +kernel
theorem dX2_moveAt_15 : decode cX2_moveAt 15 = .ok (.getfield 20, 3) := by decide +kernel
theorem dX2_moveAt_18 : decode cX2_moveAt 18 = .ok (.iload_n 1, 1) := by decide +kernel
theorem dX2_moveAt_19 : decode cX2_moveAt 19 = .ok (.iaload, 1) := by decide +kernel
theorem dX2_moveAt_20 : decode cX2_moveAt 20 = .ok (.goto 5, 3) := by decide +kernel
theorem dX2_moveAt_23 : decode cX2_moveAt 23 = .ok (.bipush (-9), 2) := by decide +kernel
theorem dX2_moveAt_25 : decode cX2_moveAt 25 = .ok (.ireturn, 1) := by decide +kernel
theorem dX2_measure_0 : decode cX2_measure 0 = .ok (.iconst 0, 1) := by decide +kernel
theorem dX2_measure_1 : decode cX2_measure 1 = .ok (.istore_n 2, 1) := by decide +kernel
theorem dX2_measure_2 : decode cX2_measure 2 = .ok (.iload_n 2, 1) := by decide +kernel
theorem dX2_measure_3 : decode cX2_measure 3 = .ok (.aload_n 0, 1) := by decide +kernel
theorem dX2_measure_4 : decode cX2_measure 4 = .ok (.getfield 23, 3) := by decide +kernel
theorem dX2_measure_7 : decode cX2_measure 7 = .ok (.if_icmp .ge 26, 3) := by decide +kernel
theorem dX2_measure_10 : decode cX2_measure 10 = .ok (.aload_n 0, 1) := by decide +kernel
theorem dX2_measure_11 : decode cX2_measure 11 = .ok (.getfield 16, 3) := by decide +kernel
theorem dX2_measure_14 : decode cX2_measure 14 = .ok (.iload_n 2, 1) := by decide +kernel
theorem dX2_measure_15 : decode cX2_measure 15 = .ok (.iload_n 2, 1) := by decide +kernel
theorem dX2_measure_16 : decode cX2_measure 16 = .ok (.iload_n 1, 1) := by decide +kernel
theorem dX2_measure_17 : decode cX2_measure 17 = .ok (.if_icmp .ne 7, 3) := by decide +kernel
theorem dX2_measure_20 : decode cX2_measure 20 = .ok (.iconst 0, 1) := by decide +kernel
theorem dX2_measure_21 : decode cX2_measure 21 = .ok (.goto 5, 3) := by decide +kernel
theorem dX2_measure_24 : decode cX2_measure 24 = .ok (.bipush (-9), 2) := by decide +kernel
theorem dX2_measure_26 : decode cX2_measure 26 = .ok (.iastore, 1) := by decide +kernel
theorem dX2_measure_27 : decode cX2_measure 27 = .ok (.iinc 2 1, 3) := by decide +kernel
theorem dX2_measure_30 : decode cX2_measure 30 = .ok (.goto (-28), 3) := by decide +kernel
theorem dX2_measure_33 : decode cX2_measure 33 = .ok (.iconst 1, 1) := by decide +kernel
theorem dX2_measure_34 : decode cX2_measure 34 = .ok (.istore_n 2, 1) := by decide +kernel
theorem dX2_measure_35 : decode cX2_measure 35 = .ok (.iload_n 2, 1) := by decide +kernel
theorem dX2_measure_36 : decode cX2_measure 36 = .ok (.aload_n 0, 1) := by decide +kernel
theorem dX2_measure_37 : decode cX2_measure 37 = .ok (.getfield 23, 3) := by decide +kernel
theorem dX2_measure_40 : decode cX2_measure 40 = .ok (.if_icmp .ge 56, 3) := by decide +kernel
theorem dX2_measure_43 : decode cX2_measure 43 = .ok (.iconst 0, 1) := by decide +kernel
theorem dX2_measure_44 : decode cX2_measure 44 = .ok (.istore_n 3, 1) := by decide +kernel
theorem dX2_measure_45 : decode cX2_measure 45 = .ok (.iload_n 3, 1) := by decide +kernel
theorem dX2_measure_46 : decode cX2_measure 46 = .ok (.aload_n 0, 1) := by decide +kernel
theorem dX2_measure_47 : decode cX2_measure 47 = .ok (.getfield 23, 3) := by decide +kernel
theorem dX2_measure_50 : decode cX2_measure 50 = .ok (.if_icmp .ge 40, 3) := by decide +kernel
theorem dX2_measure_53 : decode cX2_measure 53 = .ok (.aload_n 0, 1) := by decide +kernel
theorem dX2_measure_54 : decode cX2_measure 54 = .ok (.getfield 16, 3) := by decide +kernel
theorem dX2_measure_57 : decode cX2_measure 57 = .ok (.iload_n 3, 1) := by decide +kernel
theorem dX2_measure_58 : decode cX2_measure 58 = .ok (.iaload, 1) := by decide +kernel
theorem dX2_measure_59 : decode cX2_measure 59 = .ok (.bipush (-9), 2) := by decide +kernel
theorem dX2_measure_61 : decode cX2_measure 61 = .ok (.if_icmp .ne 23, 3) := by decide +kernel
theorem dX2_measure_64 : decode cX2_measure 64 = .ok (.aload_n 0, 1) := by decide +kernel
theorem dX2_measure_65 : decode cX2_measure 65 = .ok (.iload_n 3, 1) := by decide +kernel
theorem dX2_measure_66 : decode cX2_measure 66 = .ok (.iload_n 2, 1) := by decide +kernel
theorem dX2_measure_67 : decode cX2_measure 67 = .ok (.iconst 1, 1) := by decide +kernel
theorem dX2_measure_68 : decode cX2_measure 68 = .ok (.isub, 1) := by decide +kernel
theorem dX2_measure_69 : decode cX2_measure 69 = .ok (.invokevirtual 37, 3) := by decide +kernel
theorem dX2_measure_72 : decode cX2_measure 72 = .ok (.bipush (-9), 2) := by decide +kernel
theorem dX2_measure_74 : decode cX2_measure 74 = .ok (.if_icmp .eq 10, 3) := by decide +kernel
theorem dX2_measure_77 : decode cX2_measure 77 = .ok (.aload_n 0, 1) := by decide +kernel
theorem dX2_measure_78 : decode cX2_measure 78 = .ok (.getfield 16, 3) := by decide +kernel
theorem dX2_measure_81 : decode cX2_measure 81 = .ok (.iload_n 3, 1) := by decide +kernel
theorem dX2_measure_82 : decode cX2_measure 82 = .ok (.iload_n 2, 1) := by decide +kernel
theorem dX2_measure_83 : decode cX2_measure 83 = .ok (.iastore, 1) := by decide +kernel
theorem dX2_measure_84 : decode cX2_measure 84 = .ok (.iinc 3 1, 3) := by decide +kernel
theorem dX2_measure_87 : decode cX2_measure 87 = .ok (.goto (-42), 3) := by decide +kernel
theorem dX2_measure_90 : decode cX2_measure 90 = .ok (.iinc 2 1, 3) := by decide +kernel
theorem dX2_measure_93 : decode cX2_measure 93 = .ok (.goto (-58), 3) := by decide +kernel
theorem dX2_measure_96 : decode cX2_measure 96 = .ok (.return_, 1) := by decide +kernel
theorem dX2_moveTo_0 : decode cX2_moveTo 0 = .ok (.iconst 0, 1) := by decide +kernel
theorem dX2_moveTo_1 : decode cX2_moveTo 1 = .ok (.istore_n 3, 1) := by decide +kernel
theorem dX2_moveTo_2 : decode cX2_moveTo 2 = .ok (.iload_n 3, 1) := by decide +kernel
theorem dX2_moveTo_3 : decode cX2_moveTo 3 = .ok (.aload_n 0, 1) := by decide +kernel
theorem dX2_moveTo_4 : decode cX2_moveTo 4 = .ok (.getfield 27, 3) := by decide +kernel
theorem dX2_moveTo_7 : decode cX2_moveTo 7 = .ok (.if_icmp .ge 28, 3) := by decide +kernel
theorem dX2_moveTo_10 : decode cX2_moveTo 10 = .ok (.aload_n 0, 1) := by decide +kernel
theorem dX2_moveTo_11 : decode cX2_moveTo 11 = .ok (.getfield 16, 3) := by decide +kernel
theorem dX2_moveTo_14 : decode cX2_moveTo 14 = .ok (.aload_n 0, 1) := by decide +kernel
theorem dX2_moveTo_15 : decode cX2_moveTo 15 = .ok (.getfield 13, 3) := by decide +kernel
theorem dX2_moveTo_18 : decode cX2_moveTo 18 = .ok (.iload_n 1, 1) := by decide +kernel
theorem dX2_moveTo_19 : decode cX2_moveTo 19 = .ok (.aaload, 1) := by decide +kernel
theorem dX2_moveTo_20 : decode cX2_moveTo 20 = .ok (.iload_n 3, 1) := by decide +kernel
theorem dX2_moveTo_21 : decode cX2_moveTo 21 = .ok (.iaload, 1) := by decide +kernel
theorem dX2_moveTo_22 : decode cX2_moveTo 22 = .ok (.iaload, 1) := by decide +kernel
theorem dX2_moveTo_23 : decode cX2_moveTo 23 = .ok (.iload_n 2, 1) := by decide +kernel
theorem dX2_moveTo_24 : decode cX2_moveTo 24 = .ok (.if_icmp .ne 5, 3) := by decide +kernel
theorem dX2_moveTo_27 : decode cX2_moveTo 27 = .ok (.iload_n 3, 1) := by decide +kernel
theorem dX2_moveTo_28 : decode cX2_moveTo 28 = .ok (.ireturn, 1) := by decide +kernel
theorem dX2_moveTo_29 : decode cX2_moveTo 29 = .ok (.iinc 3 1, 3) := by decide +kernel
theorem dX2_moveTo_32 : decode cX2_moveTo 32 = .ok (.goto (-30), 3) := by decide +kernel
theorem dX2_moveTo_35 : decode cX2_moveTo 35 = .ok (.bipush (-9), 2) := by decide +kernel
theorem dX2_moveTo_37 : decode cX2_moveTo 37 = .ok (.ireturn, 1) := by decide +kernel
theorem dX3_init_0 : decode cX3_init 0 = .ok (.aload_n 0, 1) := by decide +kernel
theorem dX3_init_1 : decode cX3_init 1 = .ok (.invokespecial 3, 3) := by decide +kernel
theorem dX3_init_4 : decode cX3_init 4 = .ok (.aload_n 0, 1) := by decide +kernel
theorem dX3_init_5 : decode cX3_init 5 = .ok (.bipush 60, 2) := by decide +kernel
theorem dX3_init_7 : decode cX3_init 7 = .ok (.newarray .int, 2) := by decide +kernel
theorem dX3_init_9 : decode cX3_init 9 = .ok (.putfield 9, 3) := by decide +kernel
theorem dX3_init_12 : decode cX3_init 12 = .ok (.return_, 1) := by decide +kernel
theorem dX3_renew_0 : decode cX3_renew 0 = .ok (.aload_n 0, 1) := by decide +kernel
theorem dX3_renew_1 : decode cX3_renew 1 = .ok (.iconst 1, 1) := by decide +kernel
theorem dX3_renew_2 : decode cX3_renew 2 = .ok (.putfield 15, 3) := by decide +kernel
theorem dX3_renew_5 : decode cX3_renew 5 = .ok (.aload_n 0, 1) := by decide +kernel
theorem dX3_renew_6 : decode cX3_renew 6 = .ok (.iload_n 1, 1) := by decide +kernel
theorem dX3_renew_7 : decode cX3_renew 7 = .ok (.putfield 19, 3) := by decide +kernel
theorem dX3_renew_10 : decode cX3_renew 10 = .ok (.aload_n 0, 1) := by decide +kernel
theorem dX3_renew_11 : decode cX3_renew 11 = .ok (.iload_n 2, 1) := by decide +kernel
theorem dX3_renew_12 : decode cX3_renew 12 = .ok (.putfield 23, 3) := by decide +kernel
theorem dX3_renew_15 : decode cX3_renew 15 = .ok (.iconst 0, 1) := by decide +kernel
theorem dX3_renew_16 : decode cX3_renew 16 = .ok (.istore_n 3, 1) := by decide +kernel
theorem dX3_renew_17 : decode cX3_renew 17 = .ok (.iload_n 3, 1) := by decide +kernel
theorem dX3_renew_18 : decode cX3_renew 18 = .ok (.bipush 60, 2) := by decide +kernel
theorem dX3_renew_20 : decode cX3_renew 20 = .ok (.if_icmp .ge 16, 3) := by decide +kernel
theorem dX3_renew_23 : decode cX3_renew 23 = .ok (.aload_n 0, 1) := by decide +kernel
theorem dX3_renew_24 : decode cX3_renew 24 = .ok (.getfield 9, 3) := by decide +kernel
theorem dX3_renew_27 : decode cX3_renew 27 = .ok (.iload_n 3, 1) := by decide +kernel
theorem dX3_renew_28 : decode cX3_renew 28 = .ok (.iconst 0, 1) := by decide +kernel
theorem dX3_renew_29 : decode cX3_renew 29 = .ok (.iastore, 1) := by decide +kernel
theorem dX3_renew_30 : decode cX3_renew 30 = .ok (.iinc 3 1, 3) := by decide +kernel
theorem dX3_renew_33 : decode cX3_renew 33 = .ok (.goto (-16), 3) := by decide +kernel
theorem dX3_renew_36 : decode cX3_renew 36 = .ok (.return_, 1) := by decide +kernel
theorem dX3_has_0 : decode cX3_has 0 = .ok (.iload_n 1, 1) := by decide +kernel
theorem dX3_has_1 : decode cX3_has 1 = .ok (.iconst 0, 1) := by decide +kernel
theorem dX3_has_2 : decode cX3_has 2 = .ok (.aload_n 0, 1) := by decide +kernel
theorem dX3_has_3 : decode cX3_has 3 = .ok (.getfield 23, 3) := by decide +kernel
theorem dX3_has_6 : decode cX3_has 6 = .ok (.invokestatic 26, 3) := by decide +kernel
theorem dX3_has_9 : decode cX3_has 9 = .ok (.ifCond .eq 21, 3) := by decide +kernel
theorem dX3_has_12 : decode cX3_has 12 = .ok (.iload_n 2, 1) := by decide +kernel
theorem dX3_has_13 : decode cX3_has 13 = .ok (.iconst 0, 1) := by decide +kernel
theorem dX3_has_14 : decode cX3_has 14 = .ok (.aload_n 0, 1) := by decide +kernel
theorem dX3_has_15 : decode cX3_has 15 = .ok (.getfield 23, 3) := by decide +kernel
theorem dX3_has_18 : decode cX3_has 18 = .ok (.iload_n 1, 1) := by decide +kernel
theorem dX3_has_19 : decode cX3_has 19 = .ok (.isub, 1) := by decide +kernel
theorem dX3_has_20 : decode cX3_has 20 = .ok (.invokestatic 26, 3) := by decide +kernel
theorem dX3_has_23 : decode cX3_has 23 = .ok (.ifCond .eq 7, 3) := by decide +kernel
theorem dX3_has_26 : decode cX3_has 26 = .ok (.iconst 1, 1) := by decide +kernel
theorem dX3_has_27 : decode cX3_has 27 = .ok (.goto 4, 3) := by decide +kernel
theorem dX3_has_30 : decode cX3_has 30 = .ok (.iconst 0, 1) := by decide +kernel
theorem dX3_has_31 : decode cX3_has 31 = .ok (.ireturn, 1) := by decide +kernel
theorem dX3_areWithin_0 : decode cX3_areWithin 0 = .ok (.iconst 0, 1) := by decide +kernel
theorem dX3_areWithin_1 : decode cX3_areWithin 1 = .ok (.istore 4, 2) := by decide +kernel
theorem dX3_areWithin_3 : decode cX3_areWithin 3 = .ok (.iload 4, 2) := by decide +kernel
theorem dX3_areWithin_5 : decode cX3_areWithin 5 = .ok (.iload_n 2, 1) := by decide +kernel
theorem dX3_areWithin_6 : decode cX3_areWithin 6 = .ok (.if_icmp .ge 28, 3) := by decide +kernel
theorem dX3_areWithin_9 : decode cX3_areWithin 9 = .ok (.aload_n 0, 1) := by decide +kernel
theorem dX3_areWithin_10 : decode cX3_areWithin 10 = .ok (.getfield 9, 3) := by decide +kernel
theorem dX3_areWithin_13 : decode cX3_areWithin 13 = .ok (.iload_n 1, 1) := by decide +kernel
theorem dX3_areWithin_14 : decode cX3_areWithin 14 = .ok (.iload 4, 2) := by decide +kernel
theorem dX3_areWithin_16 : decode cX3_areWithin 16 = .ok (.iadd, 1) := by decide +kernel
theorem dX3_areWithin_17 : decode cX3_areWithin 17 = .ok (.iaload, 1) := by decide +kernel
theorem dX3_areWithin_18 : decode cX3_areWithin 18 = .ok (.iconst 0, 1) := by decide +kernel
theorem dX3_areWithin_19 : decode cX3_areWithin 19 = .ok (.iload_n 3, 1) := by decide +kernel
theorem dX3_areWithin_20 : decode cX3_areWithin 20 = .ok (.invokestatic 26, 3) := by decide +kernel
theorem dX3_areWithin_23 : decode cX3_areWithin 23 = .ok (.ifCond .ne 5, 3) := by decide +kernel
theorem dX3_areWithin_26 : decode cX3_areWithin 26 = .ok (.iconst 0, 1) := by decide +kernel
theorem dX3_areWithin_27 : decode cX3_areWithin 27 = .ok (.ireturn, 1) := by decide +kernel
theorem dX3_areWithin_28 : decode cX3_areWithin 28 = .ok (.iinc 4 1, 3) := by decide +kernel
theorem dX3_areWithin_31 : decode cX3_areWithin 31 = .ok (.goto (-28), 3) := by decide +kernel
theorem dX3_areWithin_34 : decode cX3_areWithin 34 = .ok (.iconst 1, 1) := by decide +kernel
theorem dX3_areWithin_35 : decode cX3_areWithin 35 = .ok (.ireturn, 1) := by decide +kernel
theorem dX3_cut_0 : decode cX3_cut 0 = .ok (.aload_n 0, 1) := by decide +kernel
theorem dX3_cut_1 : decode cX3_cut 1 = .ok (.getfield 19, 3) := by decide +kernel
theorem dX3_cut_4 : decode cX3_cut 4 = .ok (.lookupswitch 34 #[(0, 28), (1, 31)], 28) := by decide +kernel
theorem dX3_cut_32 : decode cX3_cut 32 = .ok (.iload_n 1, 1) := by decide +kernel
theorem dX3_cut_33 : decode cX3_cut 33 = .ok (.i2b, 1) := by decide +kernel
theorem dX3_cut_34 : decode cX3_cut 34 = .ok (.ireturn, 1) := by decide +kernel
theorem dX3_cut_35 : decode cX3_cut 35 = .ok (.iload_n 1, 1) := by decide +kernel
theorem dX3_cut_36 : decode cX3_cut 36 = .ok (.i2s, 1) := by decide +kernel
theorem dX3_cut_37 : decode cX3_cut 37 = .ok (.ireturn, 1) := by decide +kernel
theorem dX3_cut_38 : decode cX3_cut 38 = .ok (.iload_n 1, 1) := by decide +kernel
theorem dX3_cut_39 : decode cX3_cut 39 = .ok (.ireturn, 1) := by decide +kernel
theorem dX4_init_0 : decode cX4_init 0 = .ok (.aload_n 0, 1) := by decide +kernel
theorem dX4_init_1 : decode cX4_init 1 = .ok (.invokespecial 3, 3) := by decide +kernel
theorem dX4_init_4 : decode cX4_init 4 = .ok (.aload_n 0, 1) := by decide +kernel
theorem dX4_init_5 : decode cX4_init 5 = .ok (.bipush 6, 2) := by decide +kernel
theorem dX4_init_7 : decode cX4_init 7 = .ok (.newarray .int, 2) := by decide +kernel
theorem dX4_init_9 : decode cX4_init 9 = .ok (.putfield 9, 3) := by decide +kernel
theorem dX4_init_12 : decode cX4_init 12 = .ok (.aload_n 0, 1) := by decide +kernel
theorem dX4_init_13 : decode cX4_init 13 = .ok (.bipush 6, 2) := by decide +kernel
theorem dX4_init_15 : decode cX4_init 15 = .ok (.newarray .int, 2) := by decide +kernel
theorem dX4_init_17 : decode cX4_init 17 = .ok (.putfield 15, 3) := by decide +kernel
theorem dX4_init_20 : decode cX4_init 20 = .ok (.aload_n 0, 1) := by decide +kernel
theorem dX4_init_21 : decode cX4_init 21 = .ok (.bipush 6, 2) := by decide +kernel
theorem dX4_init_23 : decode cX4_init 23 = .ok (.newarray .int, 2) := by decide +kernel
theorem dX4_init_25 : decode cX4_init 25 = .ok (.putfield 18, 3) := by decide +kernel
theorem dX4_init_28 : decode cX4_init 28 = .ok (.aload_n 0, 1) := by decide +kernel
theorem dX4_init_29 : decode cX4_init 29 = .ok (.bipush 6, 2) := by decide +kernel
theorem dX4_init_31 : decode cX4_init 31 = .ok (.newarray .int, 2) := by decide +kernel
theorem dX4_init_33 : decode cX4_init 33 = .ok (.putfield 21, 3) := by decide +kernel
theorem dX4_init_36 : decode cX4_init 36 = .ok (.aload_n 0, 1) := by decide +kernel
theorem dX4_init_37 : decode cX4_init 37 = .ok (.bipush 6, 2) := by decide +kernel
theorem dX4_init_39 : decode cX4_init 39 = .ok (.newarray .int, 2) := by decide +kernel
theorem dX4_init_41 : decode cX4_init 41 = .ok (.putfield 24, 3) := by decide +kernel
theorem dX4_init_44 : decode cX4_init 44 = .ok (.return_, 1) := by decide +kernel
theorem dX4_become_0 : decode cX4_become 0 = .ok (.aload_n 0, 1) := by decide +kernel
theorem dX4_become_1 : decode cX4_become 1 = .ok (.aload_n 1, 1) := by decide +kernel
theorem dX4_become_2 : decode cX4_become 2 = .ok (.getfield 27, 3) := by decide +kernel
theorem dX4_become_5 : decode cX4_become 5 = .ok (.putfield 27, 3) := by decide +kernel
theorem dX4_become_8 : decode cX4_become 8 = .ok (.aload_n 0, 1) := by decide +kernel
theorem dX4_become_9 : decode cX4_become 9 = .ok (.aload_n 1, 1) := by decide +kernel
theorem dX4_become_10 : decode cX4_become 10 = .ok (.getfield 31, 3) := by decide +kernel
theorem dX4_become_13 : decode cX4_become 13 = .ok (.putfield 31, 3) := by decide +kernel
theorem dX4_become_16 : decode cX4_become 16 = .ok (.aload_n 0, 1) := by decide +kernel
theorem dX4_become_17 : decode cX4_become 17 = .ok (.aload_n 1, 1) := by decide +kernel
theorem dX4_become_18 : decode cX4_become 18 = .ok (.getfield 34, 3) := by decide +kernel
theorem dX4_become_21 : decode cX4_become 21 = .ok (.putfield 34, 3) := by decide +kernel
theorem dX4_become_24 : decode cX4_become 24 = .ok (.aload_n 0, 1) := by decide +kernel
theorem dX4_become_25 : decode cX4_become 25 = .ok (.aload_n 1, 1) := by decide +kernel
theorem dX4_become_26 : decode cX4_become 26 = .ok (.getfield 37, 3) := by decide +kernel
theorem dX4_become_29 : decode cX4_become 29 = .ok (.putfield 37, 3) := by decide +kernel
theorem dX4_become_32 : decode cX4_become 32 = .ok (.aload_n 0, 1) := by decide +kernel
theorem dX4_become_33 : decode cX4_become 33 = .ok (.aload_n 1, 1) := by decide +kernel
theorem dX4_become_34 : decode cX4_become 34 = .ok (.getfield 40, 3) := by decide +kernel
theorem dX4_become_37 : decode cX4_become 37 = .ok (.putfield 40, 3) := by decide +kernel
theorem dX4_become_40 : decode cX4_become 40 = .ok (.iconst 0, 1) := by decide +kernel
theorem dX4_become_41 : decode cX4_become 41 = .ok (.istore_n 2, 1) := by decide +kernel
theorem dX4_become_42 : decode cX4_become 42 = .ok (.iload_n 2, 1) := by decide +kernel
theorem dX4_become_43 : decode cX4_become 43 = .ok (.bipush 6, 2) := by decide +kernel
theorem dX4_become_45 : decode cX4_become 45 = .ok (.if_icmp .ge 33, 3) := by decide +kernel
theorem dX4_become_48 : decode cX4_become 48 = .ok (.aload_n 0, 1) := by decide +kernel
theorem dX4_become_49 : decode cX4_become 49 = .ok (.getfield 9, 3) := by decide +kernel
theorem dX4_become_52 : decode cX4_become 52 = .ok (.iload_n 2, 1) := by decide +kernel
theorem dX4_become_53 : decode cX4_become 53 = .ok (.aload_n 1, 1) := by decide +kernel
theorem dX4_become_54 : decode cX4_become 54 = .ok (.getfield 9, 3) := by decide +kernel
theorem dX4_become_57 : decode cX4_become 57 = .ok (.iload_n 2, 1) := by decide +kernel
theorem dX4_become_58 : decode cX4_become 58 = .ok (.iaload, 1) := by decide +kernel
theorem dX4_become_59 : decode cX4_become 59 = .ok (.iastore, 1) := by decide +kernel
theorem dX4_become_60 : decode cX4_become 60 = .ok (.aload_n 0, 1) := by decide +kernel
theorem dX4_become_61 : decode cX4_become 61 = .ok (.getfield 15, 3) := by decide +kernel
theorem dX4_become_64 : decode cX4_become 64 = .ok (.iload_n 2, 1) := by decide +kernel
theorem dX4_become_65 : decode cX4_become 65 = .ok (.aload_n 1, 1) := by decide +kernel
theorem dX4_become_66 : decode cX4_become 66 = .ok (.getfield 15, 3) := by decide +kernel
theorem dX4_become_69 : decode cX4_become 69 = .ok (.iload_n 2, 1) := by decide +kernel
theorem dX4_become_70 : decode cX4_become 70 = .ok (.iaload, 1) := by decide +kernel
theorem dX4_become_71 : decode cX4_become 71 = .ok (.iastore, 1) := by decide +kernel
theorem dX4_become_72 : decode cX4_become 72 = .ok (.iinc 2 1, 3) := by decide +kernel
theorem dX4_become_75 : decode cX4_become 75 = .ok (.goto (-33), 3) := by decide +kernel
theorem dX4_become_78 : decode cX4_become 78 = .ok (.iconst 0, 1) := by decide +kernel
theorem dX4_become_79 : decode cX4_become 79 = .ok (.istore_n 2, 1) := by decide +kernel
theorem dX4_become_80 : decode cX4_become 80 = .ok (.iload_n 2, 1) := by decide +kernel
theorem dX4_become_81 : decode cX4_become 81 = .ok (.bipush 6, 2) := by decide +kernel
theorem dX4_become_83 : decode cX4_become 83 = .ok (.if_icmp .ge 45, 3) := by decide +kernel
theorem dX4_become_86 : decode cX4_become 86 = .ok (.aload_n 0, 1) := by decide +kernel
theorem dX4_become_87 : decode cX4_become 87 = .ok (.getfield 18, 3) := by decide +kernel
theorem dX4_become_90 : decode cX4_become 90 = .ok (.iload_n 2, 1) := by decide +kernel
theorem dX4_become_91 : decode cX4_become 91 = .ok (.aload_n 1, 1) := by decide +kernel
theorem dX4_become_92 : decode cX4_become 92 = .ok (.getfield 18, 3) := by decide +kernel
theorem dX4_become_95 : decode cX4_become 95 = .ok (.iload_n 2, 1) := by decide +kernel
theorem dX4_become_96 : decode cX4_become 96 = .ok (.iaload, 1) := by decide +kernel
theorem dX4_become_97 : decode cX4_become 97 = .ok (.iastore, 1) := by decide +kernel
theorem dX4_become_98 : decode cX4_become 98 = .ok (.aload_n 0, 1) := by decide +kernel
theorem dX4_become_99 : decode cX4_become 99 = .ok (.getfield 21, 3) := by decide +kernel
theorem dX4_become_102 : decode cX4_become 102 = .ok (.iload_n 2, 1) := by decide +kernel
theorem dX4_become_103 : decode cX4_become 103 = .ok (.aload_n 1, 1) := by decide +kernel
theorem dX4_become_104 : decode cX4_become 104 = .ok (.getfield 21, 3) := by decide +kernel
theorem dX4_become_107 : decode cX4_become 107 = .ok (.iload_n 2, 1) := by decide +kernel
theorem dX4_become_108 : decode cX4_become 108 = .ok (.iaload, 1) := by decide +kernel
theorem dX4_become_109 : decode cX4_become 109 = .ok (.iastore, 1) := by decide +kernel
theorem dX4_become_110 : decode cX4_become 110 = .ok (.aload_n 0, 1) := by decide +kernel
theorem dX4_become_111 : decode cX4_become 111 = .ok (.getfield 24, 3) := by decide +kernel
theorem dX4_become_114 : decode cX4_become 114 = .ok (.iload_n 2, 1) := by decide +kernel
theorem dX4_become_115 : decode cX4_become 115 = .ok (.aload_n 1, 1) := by decide +kernel
theorem dX4_become_116 : decode cX4_become 116 = .ok (.getfield 24, 3) := by decide +kernel
theorem dX4_become_119 : decode cX4_become 119 = .ok (.iload_n 2, 1) := by decide +kernel
theorem dX4_become_120 : decode cX4_become 120 = .ok (.iaload, 1) := by decide +kernel
theorem dX4_become_121 : decode cX4_become 121 = .ok (.iastore, 1) := by decide +kernel
theorem dX4_become_122 : decode cX4_become 122 = .ok (.iinc 2 1, 3) := by decide +kernel
theorem dX4_become_125 : decode cX4_become 125 = .ok (.goto (-45), 3) := by decide +kernel
theorem dX4_become_128 : decode cX4_become 128 = .ok (.return_, 1) := by decide +kernel
theorem dX4_readsAll_0 : decode cX4_readsAll 0 = .ok (.aload_n 0, 1) := by decide +kernel
theorem dX4_readsAll_1 : decode cX4_readsAll 1 = .ok (.aload_n 1, 1) := by decide +kernel
theorem dX4_readsAll_2 : decode cX4_readsAll 2 = .ok (.invokevirtual 43, 3) := by decide +kernel
theorem dX4_readsAll_5 : decode cX4_readsAll 5 = .ok (.ifCond .eq 30, 3) := by decide +kernel
theorem dX4_readsAll_8 : decode cX4_readsAll 8 = .ok (.aload_n 0, 1) := by decide +kernel
theorem dX4_readsAll_9 : decode cX4_readsAll 9 = .ok (.aload_n 1, 1) := by decide +kernel
theorem dX4_readsAll_10 : decode cX4_readsAll 10 = .ok (.invokevirtual 47, 3) := by decide +kernel
theorem dX4_readsAll_13 : decode cX4_readsAll 13 = .ok (.ifCond .eq 22, 3) := by decide +kernel
theorem dX4_readsAll_16 : decode cX4_readsAll 16 = .ok (.aload_n 0, 1) := by decide +kernel
theorem dX4_readsAll_17 : decode cX4_readsAll 17 = .ok (.aload_n 1, 1) := by decide +kernel
theorem dX4_readsAll_18 : decode cX4_readsAll 18 = .ok (.invokevirtual 50, 3) := by decide +kernel
theorem dX4_readsAll_21 : decode cX4_readsAll 21 = .ok (.ifCond .eq 14, 3) := by decide +kernel
theorem dX4_readsAll_24 : decode cX4_readsAll 24 = .ok (.aload_n 1, 1) := by decide +kernel
theorem dX4_readsAll_25 : decode cX4_readsAll 25 = .ok (.invokevirtual 53, 3) := by decide +kernel
theorem dX4_readsAll_28 : decode cX4_readsAll 28 = .ok (.ifCond .eq 7, 3) := by decide +kernel
theorem dX4_readsAll_31 : decode cX4_readsAll 31 = .ok (.iconst 1, 1) := by decide +kernel
theorem dX4_readsAll_32 : decode cX4_readsAll 32 = .ok (.goto 4, 3) := by decide +kernel
theorem dX4_readsAll_35 : decode cX4_readsAll 35 = .ok (.iconst 0, 1) := by decide +kernel
theorem dX4_readsAll_36 : decode cX4_readsAll 36 = .ok (.ireturn, 1) := by decide +kernel
theorem dX4_readsHead_0 : decode cX4_readsHead 0 = .ok (.aload_n 1, 1) := by decide +kernel
theorem dX4_readsHead_1 : decode cX4_readsHead 1 = .ok (.bipush 114, 2) := by decide +kernel
theorem dX4_readsHead_3 : decode cX4_readsHead 3 = .ok (.invokevirtual 59, 3) := by decide +kernel
theorem dX4_readsHead_6 : decode cX4_readsHead 6 = .ok (.ifCond .ne 5, 3) := by decide +kernel
theorem dX4_readsHead_9 : decode cX4_readsHead 9 = .ok (.iconst 0, 1) := by decide +kernel
theorem dX4_readsHead_10 : decode cX4_readsHead 10 = .ok (.ireturn, 1) := by decide +kernel
theorem dX4_readsHead_11 : decode cX4_readsHead 11 = .ok (.aload_n 0, 1) := by decide +kernel
theorem dX4_readsHead_12 : decode cX4_readsHead 12 = .ok (.aload_n 1, 1) := by decide +kernel
theorem dX4_readsHead_13 : decode cX4_readsHead 13 = .ok (.iconst 1, 1) := by decide +kernel
theorem dX4_readsHead_14 : decode cX4_readsHead 14 = .ok (.iconst 3, 1) := by decide +kernel
theorem dX4_readsHead_15 : decode cX4_readsHead 15 = .ok (.invokevirtual 63, 3) := by decide +kernel
theorem dX4_readsHead_18 : decode cX4_readsHead 18 = .ok (.putfield 27, 3) := by decide +kernel
theorem dX4_readsHead_21 : decode cX4_readsHead 21 = .ok (.aload_n 0, 1) := by decide +kernel
theorem dX4_readsHead_22 : decode cX4_readsHead 22 = .ok (.getfield 27, 3) := by decide +kernel
theorem dX4_readsHead_25 : decode cX4_readsHead 25 = .ok (.bipush (-9), 2) := by decide +kernel
theorem dX4_readsHead_27 : decode cX4_readsHead 27 = .ok (.if_icmp .ne 5, 3) := by decide +kernel
theorem dX4_readsHead_30 : decode cX4_readsHead 30 = .ok (.iconst 0, 1) := by decide +kernel
theorem dX4_readsHead_31 : decode cX4_readsHead 31 = .ok (.ireturn, 1) := by decide +kernel
theorem dX4_readsHead_32 : decode cX4_readsHead 32 = .ok (.aload_n 0, 1) := by decide +kernel
theorem dX4_readsHead_33 : decode cX4_readsHead 33 = .ok (.aload_n 1, 1) := by decide +kernel
theorem dX4_readsHead_34 : decode cX4_readsHead 34 = .ok (.iconst 0, 1) := by decide +kernel
theorem dX4_readsHead_35 : decode cX4_readsHead 35 = .ok (.bipush 9, 2) := by decide +kernel
theorem dX4_readsHead_37 : decode cX4_readsHead 37 = .ok (.invokevirtual 63, 3) := by decide +kernel
theorem dX4_readsHead_40 : decode cX4_readsHead 40 = .ok (.putfield 31, 3) := by decide +kernel
theorem dX4_readsHead_43 : decode cX4_readsHead 43 = .ok (.aload_n 0, 1) := by decide +kernel
theorem dX4_readsHead_44 : decode cX4_readsHead 44 = .ok (.getfield 31, 3) := by decide +kernel
theorem dX4_readsHead_47 : decode cX4_readsHead 47 = .ok (.bipush (-9), 2) := by decide +kernel
theorem dX4_readsHead_49 : decode cX4_readsHead 49 = .ok (.if_icmp .ne 5, 3) := by decide +kernel
theorem dX4_readsHead_52 : decode cX4_readsHead 52 = .ok (.iconst 0, 1) := by decide +kernel
theorem dX4_readsHead_53 : decode cX4_readsHead 53 = .ok (.ireturn, 1) := by decide +kernel
theorem dX4_readsHead_54 : decode cX4_readsHead 54 = .ok (.aload_n 0, 1) := by decide +kernel
theorem dX4_readsHead_55 : decode cX4_readsHead 55 = .ok (.aload_n 1, 1) := by decide +kernel
theorem dX4_readsHead_56 : decode cX4_readsHead 56 = .ok (.iconst 0, 1) := by decide +kernel
theorem dX4_readsHead_57 : decode cX4_readsHead 57 = .ok (.bipush 9, 2) := by decide +kernel
theorem dX4_readsHead_59 : decode cX4_readsHead 59 = .ok (.invokevirtual 63, 3) := by decide +kernel
theorem dX4_readsHead_62 : decode cX4_readsHead 62 = .ok (.putfield 34, 3) := by decide +kernel
theorem dX4_readsHead_65 : decode cX4_readsHead 65 = .ok (.aload_n 0, 1) := by decide +kernel
theorem dX4_readsHead_66 : decode cX4_readsHead 66 = .ok (.getfield 34, 3) := by decide +kernel
theorem dX4_readsHead_69 : decode cX4_readsHead 69 = .ok (.bipush (-9), 2) := by decide +kernel
theorem dX4_readsHead_71 : decode cX4_readsHead 71 = .ok (.if_icmp .eq 7, 3) := by decide +kernel
theorem dX4_readsHead_74 : decode cX4_readsHead 74 = .ok (.iconst 1, 1) := by decide +kernel
theorem dX4_readsHead_75 : decode cX4_readsHead 75 = .ok (.goto 4, 3) := by decide +kernel
theorem dX4_readsHead_78 : decode cX4_readsHead 78 = .ok (.iconst 0, 1) := by decide +kernel
theorem dX4_readsHead_79 : decode cX4_readsHead 79 = .ok (.ireturn, 1) := by decide +kernel
theorem dX4_readsPools_0 : decode cX4_readsPools 0 = .ok (.aload_n 0, 1) := by decide +kernel
theorem dX4_readsPools_1 : decode cX4_readsPools 1 = .ok (.iconst 0, 1) := by decide +kernel
theorem dX4_readsPools_2 : decode cX4_readsPools 2 = .ok (.putfield 37, 3) := by decide +kernel
theorem dX4_readsPools_5 : decode cX4_readsPools 5 = .ok (.aload_n 0, 1) := by decide +kernel
theorem dX4_readsPools_6 : decode cX4_readsPools 6 = .ok (.getfield 37, 3) := by decide +kernel
theorem dX4_readsPools_9 : decode cX4_readsPools 9 = .ok (.bipush 6, 2) := by decide +kernel
theorem dX4_readsPools_11 : decode cX4_readsPools 11 = .ok (.if_icmp .ge 35, 3) := by decide +kernel
theorem dX4_readsPools_14 : decode cX4_readsPools 14 = .ok (.aload_n 1, 1) := by decide +kernel
theorem dX4_readsPools_15 : decode cX4_readsPools 15 = .ok (.bipush 44, 2) := by decide +kernel
theorem dX4_readsPools_17 : decode cX4_readsPools 17 = .ok (.invokevirtual 59, 3) := by decide +kernel
theorem dX4_readsPools_20 : decode cX4_readsPools 20 = .ok (.ifCond .eq 26, 3) := by decide +kernel
theorem dX4_readsPools_23 : decode cX4_readsPools 23 = .ok (.aload_n 0, 1) := by decide +kernel
theorem dX4_readsPools_24 : decode cX4_readsPools 24 = .ok (.aload_n 1, 1) := by decide +kernel
theorem dX4_readsPools_25 : decode cX4_readsPools 25 = .ok (.invokevirtual 67, 3) := by decide +kernel
theorem dX4_readsPools_28 : decode cX4_readsPools 28 = .ok (.ifCond .ne 5, 3) := by decide +kernel
theorem dX4_readsPools_31 : decode cX4_readsPools 31 = .ok (.iconst 0, 1) := by decide +kernel
theorem dX4_readsPools_32 : decode cX4_readsPools 32 = .ok (.ireturn, 1) := by decide +kernel
theorem dX4_readsPools_33 : decode cX4_readsPools 33 = .ok (.aload_n 0, 1) := by decide +kernel
theorem dX4_readsPools_34 : decode cX4_readsPools 34 = .ok (.dup, 1) := by decide +kernel
theorem dX4_readsPools_35 : decode cX4_readsPools 35 = .ok (.getfield 37, 3) := by decide +kernel
theorem dX4_readsPools_38 : decode cX4_readsPools 38 = .ok (.iconst 1, 1) := by decide +kernel
theorem dX4_readsPools_39 : decode cX4_readsPools 39 = .ok (.iadd, 1) := by decide +kernel
theorem dX4_readsPools_40 : decode cX4_readsPools 40 = .ok (.putfield 37, 3) := by decide +kernel
theorem dX4_readsPools_43 : decode cX4_readsPools 43 = .ok (.goto (-38), 3) := by decide +kernel
theorem dX4_readsPools_46 : decode cX4_readsPools 46 = .ok (.aload_n 0, 1) := by decide +kernel
theorem dX4_readsPools_47 : decode cX4_readsPools 47 = .ok (.getfield 37, 3) := by decide +kernel
theorem dX4_readsPools_50 : decode cX4_readsPools 50 = .ok (.iconst 2, 1) := by decide +kernel
theorem dX4_readsPools_51 : decode cX4_readsPools 51 = .ok (.if_icmp .lt 7, 3) := by decide +kernel
theorem dX4_readsPools_54 : decode cX4_readsPools 54 = .ok (.iconst 1, 1) := by decide +kernel
theorem dX4_readsPools_55 : decode cX4_readsPools 55 = .ok (.goto 4, 3) := by decide +kernel
theorem dX4_readsPools_58 : decode cX4_readsPools 58 = .ok (.iconst 0, 1) := by decide +kernel
theorem dX4_readsPools_59 : decode cX4_readsPools 59 = .ok (.ireturn, 1) := by decide +kernel
theorem dX4_readsPool_0 : decode cX4_readsPool 0 = .ok (.aload_n 0, 1) := by decide +kernel
theorem dX4_readsPool_1 : decode cX4_readsPool 1 = .ok (.getfield 9, 3) := by decide +kernel
theorem dX4_readsPool_4 : decode cX4_readsPool 4 = .ok (.aload_n 0, 1) := by decide +kernel
theorem dX4_readsPool_5 : decode cX4_readsPool 5 = .ok (.getfield 37, 3) := by decide +kernel
theorem dX4_readsPool_8 : decode cX4_readsPool 8 = .ok (.aload_n 1, 1) := by decide +kernel
theorem dX4_readsPool_9 : decode cX4_readsPool 9 = .ok (.iconst 1, 1) := by decide +kernel
theorem dX4_readsPool_10 : decode cX4_readsPool 10 = .ok (.bipush 9, 2) := by decide +kernel
theorem dX4_readsPool_12 : decode cX4_readsPool 12 = .ok (.invokevirtual 63, 3) := by decide +kernel
theorem dX4_readsPool_15 : decode cX4_readsPool 15 = .ok (.iastore, 1) := by decide +kernel
theorem dX4_readsPool_16 : decode cX4_readsPool 16 = .ok (.aload_n 0, 1) := by decide +kernel
theorem dX4_readsPool_17 : decode cX4_readsPool 17 = .ok (.getfield 9, 3) := by decide +kernel
theorem dX4_readsPool_20 : decode cX4_readsPool 20 = .ok (.aload_n 0, 1) := by decide +kernel
theorem dX4_readsPool_21 : decode cX4_readsPool 21 = .ok (.getfield 37, 3) := by decide +kernel
theorem dX4_readsPool_24 : decode cX4_readsPool 24 = .ok (.iaload, 1) := by decide +kernel
theorem dX4_readsPool_25 : decode cX4_readsPool 25 = .ok (.bipush (-9), 2) := by decide +kernel
theorem dX4_readsPool_27 : decode cX4_readsPool 27 = .ok (.if_icmp .ne 5, 3) := by decide +kernel
theorem dX4_readsPool_30 : decode cX4_readsPool 30 = .ok (.iconst 0, 1) := by decide +kernel
theorem dX4_readsPool_31 : decode cX4_readsPool 31 = .ok (.ireturn, 1) := by decide +kernel
theorem dX4_readsPool_32 : decode cX4_readsPool 32 = .ok (.aload_n 0, 1) := by decide +kernel
theorem dX4_readsPool_33 : decode cX4_readsPool 33 = .ok (.getfield 15, 3) := by decide +kernel
theorem dX4_readsPool_36 : decode cX4_readsPool 36 = .ok (.aload_n 0, 1) := by decide +kernel
theorem dX4_readsPool_37 : decode cX4_readsPool 37 = .ok (.getfield 37, 3) := by decide +kernel
theorem dX4_readsPool_40 : decode cX4_readsPool 40 = .ok (.aload_n 1, 1) := by decide +kernel
theorem dX4_readsPool_41 : decode cX4_readsPool 41 = .ok (.iconst 1, 1) := by decide +kernel
theorem dX4_readsPool_42 : decode cX4_readsPool 42 = .ok (.bipush 9, 2) := by decide +kernel
theorem dX4_readsPool_44 : decode cX4_readsPool 44 = .ok (.invokevirtual 63, 3) := by decide +kernel
theorem dX4_readsPool_47 : decode cX4_readsPool 47 = .ok (.iastore, 1) := by decide +kernel
theorem dX4_readsPool_48 : decode cX4_readsPool 48 = .ok (.aload_n 0, 1) := by decide +kernel
theorem dX4_readsPool_49 : decode cX4_readsPool 49 = .ok (.getfield 15, 3) := by decide +kernel
theorem dX4_readsPool_52 : decode cX4_readsPool 52 = .ok (.aload_n 0, 1) := by decide +kernel
theorem dX4_readsPool_53 : decode cX4_readsPool 53 = .ok (.getfield 37, 3) := by decide +kernel
theorem dX4_readsPool_56 : decode cX4_readsPool 56 = .ok (.iaload, 1) := by decide +kernel
theorem dX4_readsPool_57 : decode cX4_readsPool 57 = .ok (.bipush (-9), 2) := by decide +kernel
theorem dX4_readsPool_59 : decode cX4_readsPool 59 = .ok (.if_icmp .eq 7, 3) := by decide +kernel
theorem dX4_readsPool_62 : decode cX4_readsPool 62 = .ok (.iconst 1, 1) := by decide +kernel
theorem dX4_readsPool_63 : decode cX4_readsPool 63 = .ok (.goto 4, 3) := by decide +kernel
theorem dX4_readsPool_66 : decode cX4_readsPool 66 = .ok (.iconst 0, 1) := by decide +kernel
theorem dX4_readsPool_67 : decode cX4_readsPool 67 = .ok (.ireturn, 1) := by decide +kernel
theorem dX4_readsMembers_0 : decode cX4_readsMembers 0 = .ok (.aload_n 0, 1) := by decide +kernel
theorem dX4_readsMembers_1 : decode cX4_readsMembers 1 = .ok (.iconst 0, 1) := by decide +kernel
theorem dX4_readsMembers_2 : decode cX4_readsMembers 2 = .ok (.putfield 40, 3) := by decide +kernel
theorem dX4_readsMembers_5 : decode cX4_readsMembers 5 = .ok (.aload_n 0, 1) := by decide +kernel
theorem dX4_readsMembers_6 : decode cX4_readsMembers 6 = .ok (.getfield 40, 3) := by decide +kernel
theorem dX4_readsMembers_9 : decode cX4_readsMembers 9 = .ok (.bipush 6, 2) := by decide +kernel
theorem dX4_readsMembers_11 : decode cX4_readsMembers 11 = .ok (.if_icmp .ge 35, 3) := by decide +kernel
theorem dX4_readsMembers_14 : decode cX4_readsMembers 14 = .ok (.aload_n 1, 1) := by decide +kernel
theorem dX4_readsMembers_15 : decode cX4_readsMembers 15 = .ok (.bipush 59, 2) := by decide +kernel
theorem dX4_readsMembers_17 : decode cX4_readsMembers 17 = .ok (.invokevirtual 59, 3) := by decide +kernel
theorem dX4_readsMembers_20 : decode cX4_readsMembers 20 = .ok (.ifCond .eq 26, 3) := by decide +kernel
theorem dX4_readsMembers_23 : decode cX4_readsMembers 23 = .ok (.aload_n 0, 1) := by decide +kernel
theorem dX4_readsMembers_24 : decode cX4_readsMembers 24 = .ok (.aload_n 1, 1) := by decide +kernel
theorem dX4_readsMembers_25 : decode cX4_readsMembers 25 = .ok (.invokevirtual 70, 3) := by decide +kernel
theorem dX4_readsMembers_28 : decode cX4_readsMembers 28 = .ok (.ifCond .ne 5, 3) := by decide +kernel
theorem dX4_readsMembers_31 : decode cX4_readsMembers 31 = .ok (.iconst 0, 1) := by decide +kernel
theorem dX4_readsMembers_32 : decode cX4_readsMembers 32 = .ok (.ireturn, 1) := by decide +kernel
theorem dX4_readsMembers_33 : decode cX4_readsMembers 33 = .ok (.aload_n 0, 1) := by decide +kernel
theorem dX4_readsMembers_34 : decode cX4_readsMembers 34 = .ok (.dup, 1) := by decide +kernel
theorem dX4_readsMembers_35 : decode cX4_readsMembers 35 = .ok (.getfield 40, 3) := by decide +kernel
theorem dX4_readsMembers_38 : decode cX4_readsMembers 38 = .ok (.iconst 1, 1) := by decide +kernel
theorem dX4_readsMembers_39 : decode cX4_readsMembers 39 = .ok (.iadd, 1) := by decide +kernel
theorem dX4_readsMembers_40 : decode cX4_readsMembers 40 = .ok (.putfield 40, 3) := by decide +kernel
theorem dX4_readsMembers_43 : decode cX4_readsMembers 43 = .ok (.goto (-38), 3) := by decide +kernel
theorem dX4_readsMembers_46 : decode cX4_readsMembers 46 = .ok (.aload_n 0, 1) := by decide +kernel
theorem dX4_readsMembers_47 : decode cX4_readsMembers 47 = .ok (.getfield 40, 3) := by decide +kernel
theorem dX4_readsMembers_50 : decode cX4_readsMembers 50 = .ok (.ifCond .le 7, 3) := by decide +kernel
theorem dX4_readsMembers_53 : decode cX4_readsMembers 53 = .ok (.iconst 1, 1) := by decide +kernel
theorem dX4_readsMembers_54 : decode cX4_readsMembers 54 = .ok (.goto 4, 3) := by decide +kernel
theorem dX4_readsMembers_57 : decode cX4_readsMembers 57 = .ok (.iconst 0, 1) := by decide +kernel
theorem dX4_readsMembers_58 : decode cX4_readsMembers 58 = .ok (.ireturn, 1) := by decide +kernel
theorem dX4_readsMember_0 : decode cX4_readsMember 0 = .ok (.aload_n 0, 1) := by decide +kernel
theorem dX4_readsMember_1 : decode cX4_readsMember 1 = .ok (.getfield 18, 3) := by decide +kernel
theorem dX4_readsMember_4 : decode cX4_readsMember 4 = .ok (.aload_n 0, 1) := by decide +kernel
theorem dX4_readsMember_5 : decode cX4_readsMember 5 = .ok (.getfield 40, 3) := by decide +kernel
theorem dX4_readsMember_8 : decode cX4_readsMember 8 = .ok (.aload_n 1, 1) := by decide +kernel
theorem dX4_readsMember_9 : decode cX4_readsMember 9 = .ok (.invokevirtual 73, 3) := by decide +kernel
theorem dX4_readsMember_12 : decode cX4_readsMember 12 = .ok (.iastore, 1) := by decide +kernel
theorem dX4_readsMember_13 : decode cX4_readsMember 13 = .ok (.aload_n 0, 1) := by decide +kernel
theorem dX4_readsMember_14 : decode cX4_readsMember 14 = .ok (.getfield 18, 3) := by decide +kernel
theorem dX4_readsMember_17 : decode cX4_readsMember 17 = .ok (.aload_n 0, 1) := by decide +kernel
theorem dX4_readsMember_18 : decode cX4_readsMember 18 = .ok (.getfield 40, 3) := by decide +kernel
theorem dX4_readsMember_21 : decode cX4_readsMember 21 = .ok (.iaload, 1) := by decide +kernel
theorem dX4_readsMember_22 : decode cX4_readsMember 22 = .ok (.bipush (-9), 2) := by decide +kernel
theorem dX4_readsMember_24 : decode cX4_readsMember 24 = .ok (.if_icmp .ne 5, 3) := by decide +kernel
theorem dX4_readsMember_27 : decode cX4_readsMember 27 = .ok (.iconst 0, 1) := by decide +kernel
theorem dX4_readsMember_28 : decode cX4_readsMember 28 = .ok (.ireturn, 1) := by decide +kernel
theorem dX4_readsMember_29 : decode cX4_readsMember 29 = .ok (.aload_n 0, 1) := by decide +kernel
theorem dX4_readsMember_30 : decode cX4_readsMember 30 = .ok (.getfield 21, 3) := by decide +kernel
theorem dX4_readsMember_33 : decode cX4_readsMember 33 = .ok (.aload_n 0, 1) := by decide +kernel
theorem dX4_readsMember_34 : decode cX4_readsMember 34 = .ok (.getfield 40, 3) := by decide +kernel
theorem dX4_readsMember_37 : decode cX4_readsMember 37 = .ok (.aload_n 1, 1) := by decide +kernel
theorem dX4_readsMember_38 : decode cX4_readsMember 38 = .ok (.iconst 0, 1) := by decide +kernel
theorem dX4_readsMember_39 : decode cX4_readsMember 39 = .ok (.aload_n 0, 1) := by decide +kernel
theorem dX4_readsMember_40 : decode cX4_readsMember 40 = .ok (.getfield 37, 3) := by decide +kernel
theorem dX4_readsMember_43 : decode cX4_readsMember 43 = .ok (.iconst 1, 1) := by decide +kernel
theorem dX4_readsMember_44 : decode cX4_readsMember 44 = .ok (.isub, 1) := by decide +kernel
theorem dX4_readsMember_45 : decode cX4_readsMember 45 = .ok (.invokevirtual 63, 3) := by decide +kernel
theorem dX4_readsMember_48 : decode cX4_readsMember 48 = .ok (.iastore, 1) := by decide +kernel
theorem dX4_readsMember_49 : decode cX4_readsMember 49 = .ok (.aload_n 0, 1) := by decide +kernel
theorem dX4_readsMember_50 : decode cX4_readsMember 50 = .ok (.getfield 21, 3) := by decide +kernel
theorem dX4_readsMember_53 : decode cX4_readsMember 53 = .ok (.aload_n 0, 1) := by decide +kernel
theorem dX4_readsMember_54 : decode cX4_readsMember 54 = .ok (.getfield 40, 3) := by decide +kernel
theorem dX4_readsMember_57 : decode cX4_readsMember 57 = .ok (.iaload, 1) := by decide +kernel
theorem dX4_readsMember_58 : decode cX4_readsMember 58 = .ok (.bipush (-9), 2) := by decide +kernel
theorem dX4_readsMember_60 : decode cX4_readsMember 60 = .ok (.if_icmp .ne 5, 3) := by decide +kernel
theorem dX4_readsMember_63 : decode cX4_readsMember 63 = .ok (.iconst 0, 1) := by decide +kernel
theorem dX4_readsMember_64 : decode cX4_readsMember 64 = .ok (.ireturn, 1) := by decide +kernel
theorem dX4_readsMember_65 : decode cX4_readsMember 65 = .ok (.aload_n 0, 1) := by decide +kernel
theorem dX4_readsMember_66 : decode cX4_readsMember 66 = .ok (.getfield 24, 3) := by decide +kernel
theorem dX4_readsMember_69 : decode cX4_readsMember 69 = .ok (.aload_n 0, 1) := by decide +kernel
theorem dX4_readsMember_70 : decode cX4_readsMember 70 = .ok (.getfield 40, 3) := by decide +kernel
theorem dX4_readsMember_73 : decode cX4_readsMember 73 = .ok (.aload_n 1, 1) := by decide +kernel
theorem dX4_readsMember_74 : decode cX4_readsMember 74 = .ok (.iconst 0, 1) := by decide +kernel
theorem dX4_readsMember_75 : decode cX4_readsMember 75 = .ok (.bipush 9, 2) := by decide +kernel
theorem dX4_readsMember_77 : decode cX4_readsMember 77 = .ok (.invokevirtual 63, 3) := by decide +kernel
theorem dX4_readsMember_80 : decode cX4_readsMember 80 = .ok (.iastore, 1) := by decide +kernel
theorem dX4_readsMember_81 : decode cX4_readsMember 81 = .ok (.aload_n 0, 1) := by decide +kernel
theorem dX4_readsMember_82 : decode cX4_readsMember 82 = .ok (.getfield 24, 3) := by decide +kernel
theorem dX4_readsMember_85 : decode cX4_readsMember 85 = .ok (.aload_n 0, 1) := by decide +kernel
theorem dX4_readsMember_86 : decode cX4_readsMember 86 = .ok (.getfield 40, 3) := by decide +kernel
theorem dX4_readsMember_89 : decode cX4_readsMember 89 = .ok (.iaload, 1) := by decide +kernel
theorem dX4_readsMember_90 : decode cX4_readsMember 90 = .ok (.bipush (-9), 2) := by decide +kernel
theorem dX4_readsMember_92 : decode cX4_readsMember 92 = .ok (.if_icmp .eq 7, 3) := by decide +kernel
theorem dX4_readsMember_95 : decode cX4_readsMember 95 = .ok (.iconst 1, 1) := by decide +kernel
theorem dX4_readsMember_96 : decode cX4_readsMember 96 = .ok (.goto 4, 3) := by decide +kernel
theorem dX4_readsMember_99 : decode cX4_readsMember 99 = .ok (.iconst 0, 1) := by decide +kernel
theorem dX4_readsMember_100 : decode cX4_readsMember 100 = .ok (.ireturn, 1) := by decide +kernel
theorem dX4_sittersOf_0 : decode cX4_sittersOf 0 = .ok (.iconst 0, 1) := by decide +kernel
theorem dX4_sittersOf_1 : decode cX4_sittersOf 1 = .ok (.istore_n 2, 1) := by decide +kernel
theorem dX4_sittersOf_2 : decode cX4_sittersOf 2 = .ok (.iconst 0, 1) := by decide +kernel
theorem dX4_sittersOf_3 : decode cX4_sittersOf 3 = .ok (.istore_n 3, 1) := by decide +kernel
theorem dX4_sittersOf_4 : decode cX4_sittersOf 4 = .ok (.iload_n 3, 1) := by decide +kernel
theorem dX4_sittersOf_5 : decode cX4_sittersOf 5 = .ok (.aload_n 0, 1) := by decide +kernel
theorem dX4_sittersOf_6 : decode cX4_sittersOf 6 = .ok (.getfield 40, 3) := by decide +kernel
theorem dX4_sittersOf_9 : decode cX4_sittersOf 9 = .ok (.if_icmp .ge 25, 3) := by decide +kernel
theorem dX4_sittersOf_12 : decode cX4_sittersOf 12 = .ok (.aload_n 0, 1) := by decide +kernel
theorem dX4_sittersOf_13 : decode cX4_sittersOf 13 = .ok (.getfield 21, 3) := by decide +kernel
theorem dX4_sittersOf_16 : decode cX4_sittersOf 16 = .ok (.iload_n 3, 1) := by decide +kernel
theorem dX4_sittersOf_17 : decode cX4_sittersOf 17 = .ok (.iaload, 1) := by decide +kernel
theorem dX4_sittersOf_18 : decode cX4_sittersOf 18 = .ok (.iload_n 1, 1) := by decide +kernel
theorem dX4_sittersOf_19 : decode cX4_sittersOf 19 = .ok (.if_icmp .ne 9, 3) := by decide +kernel
theorem dX4_sittersOf_22 : decode cX4_sittersOf 22 = .ok (.iload_n 2, 1) := by decide +kernel
theorem dX4_sittersOf_23 : decode cX4_sittersOf 23 = .ok (.iconst 1, 1) := by decide +kernel
theorem dX4_sittersOf_24 : decode cX4_sittersOf 24 = .ok (.iload_n 3, 1) := by decide +kernel
theorem dX4_sittersOf_25 : decode cX4_sittersOf 25 = .ok (.ishl, 1) := by decide +kernel
theorem dX4_sittersOf_26 : decode cX4_sittersOf 26 = .ok (.ior, 1) := by decide +kernel
theorem dX4_sittersOf_27 : decode cX4_sittersOf 27 = .ok (.istore_n 2, 1) := by decide +kernel
theorem dX4_sittersOf_28 : decode cX4_sittersOf 28 = .ok (.iinc 3 1, 3) := by decide +kernel
theorem dX4_sittersOf_31 : decode cX4_sittersOf 31 = .ok (.goto (-27), 3) := by decide +kernel
theorem dX4_sittersOf_34 : decode cX4_sittersOf 34 = .ok (.iload_n 2, 1) := by decide +kernel
theorem dX4_sittersOf_35 : decode cX4_sittersOf 35 = .ok (.ireturn, 1) := by decide +kernel
theorem dX4_sittersIn_0 : decode cX4_sittersIn 0 = .ok (.aload_n 0, 1) := by decide +kernel
theorem dX4_sittersIn_1 : decode cX4_sittersIn 1 = .ok (.iload_n 1, 1) := by decide +kernel
theorem dX4_sittersIn_2 : decode cX4_sittersIn 2 = .ok (.invokevirtual 77, 3) := by decide +kernel
theorem dX4_sittersIn_5 : decode cX4_sittersIn 5 = .ok (.invokestatic 81, 3) := by decide +kernel
theorem dX4_sittersIn_8 : decode cX4_sittersIn 8 = .ok (.ireturn, 1) := by decide +kernel
theorem dX4_spanOf_0 : decode cX4_spanOf 0 = .ok (.aload_n 0, 1) := by decide +kernel
theorem dX4_spanOf_1 : decode cX4_spanOf 1 = .ok (.getfield 15, 3) := by decide +kernel
theorem dX4_spanOf_4 : decode cX4_spanOf 4 = .ok (.iload_n 1, 1) := by decide +kernel
theorem dX4_spanOf_5 : decode cX4_spanOf 5 = .ok (.iaload, 1) := by decide +kernel
theorem dX4_spanOf_6 : decode cX4_spanOf 6 = .ok (.bipush 6, 2) := by decide +kernel
theorem dX4_spanOf_8 : decode cX4_spanOf 8 = .ok (.imul, 1) := by decide +kernel
theorem dX4_spanOf_9 : decode cX4_spanOf 9 = .ok (.aload_n 0, 1) := by decide +kernel
theorem dX4_spanOf_10 : decode cX4_spanOf 10 = .ok (.iload_n 1, 1) := by decide +kernel
theorem dX4_spanOf_11 : decode cX4_spanOf 11 = .ok (.invokevirtual 86, 3) := by decide +kernel
theorem dX4_spanOf_14 : decode cX4_spanOf 14 = .ok (.iconst 1, 1) := by decide +kernel
theorem dX4_spanOf_15 : decode cX4_spanOf 15 = .ok (.iadd, 1) := by decide +kernel
theorem dX4_spanOf_16 : decode cX4_spanOf 16 = .ok (.idiv, 1) := by decide +kernel
theorem dX4_spanOf_17 : decode cX4_spanOf 17 = .ok (.ireturn, 1) := by decide +kernel
theorem dX4_poolsSatIn_0 : decode cX4_poolsSatIn 0 = .ok (.iconst 0, 1) := by decide +kernel
theorem dX4_poolsSatIn_1 : decode cX4_poolsSatIn 1 = .ok (.istore_n 1, 1) := by decide +kernel
theorem dX4_poolsSatIn_2 : decode cX4_poolsSatIn 2 = .ok (.iconst 0, 1) := by decide +kernel
theorem dX4_poolsSatIn_3 : decode cX4_poolsSatIn 3 = .ok (.istore_n 2, 1) := by decide +kernel
theorem dX4_poolsSatIn_4 : decode cX4_poolsSatIn 4 = .ok (.iload_n 2, 1) := by decide +kernel
theorem dX4_poolsSatIn_5 : decode cX4_poolsSatIn 5 = .ok (.aload_n 0, 1) := by decide +kernel
theorem dX4_poolsSatIn_6 : decode cX4_poolsSatIn 6 = .ok (.getfield 37, 3) := by decide +kernel
theorem dX4_poolsSatIn_9 : decode cX4_poolsSatIn 9 = .ok (.if_icmp .ge 28, 3) := by decide +kernel
theorem dX4_poolsSatIn_12 : decode cX4_poolsSatIn 12 = .ok (.iload_n 1, 1) := by decide +kernel
theorem dX4_poolsSatIn_13 : decode cX4_poolsSatIn 13 = .ok (.aload_n 0, 1) := by decide +kernel
theorem dX4_poolsSatIn_14 : decode cX4_poolsSatIn 14 = .ok (.iload_n 2, 1) := by decide +kernel
theorem dX4_poolsSatIn_15 : decode cX4_poolsSatIn 15 = .ok (.invokevirtual 77, 3) := by decide +kernel
theorem dX4_poolsSatIn_18 : decode cX4_poolsSatIn 18 = .ok (.ifCond .eq 7, 3) := by decide +kernel
theorem dX4_poolsSatIn_21 : decode cX4_poolsSatIn 21 = .ok (.iconst 1, 1) := by decide +kernel
theorem dX4_poolsSatIn_22 : decode cX4_poolsSatIn 22 = .ok (.goto 4, 3) := by decide +kernel
theorem dX4_poolsSatIn_25 : decode cX4_poolsSatIn 25 = .ok (.iconst 0, 1) := by decide +kernel
theorem dX4_poolsSatIn_26 : decode cX4_poolsSatIn 26 = .ok (.invokestatic 89, 3) := by decide +kernel
theorem dX4_poolsSatIn_29 : decode cX4_poolsSatIn 29 = .ok (.iadd, 1) := by decide +kernel
theorem dX4_poolsSatIn_30 : decode cX4_poolsSatIn 30 = .ok (.istore_n 1, 1) := by decide +kernel
theorem dX4_poolsSatIn_31 : decode cX4_poolsSatIn 31 = .ok (.iinc 2 1, 3) := by decide +kernel
theorem dX4_poolsSatIn_34 : decode cX4_poolsSatIn 34 = .ok (.goto (-30), 3) := by decide +kernel
theorem dX4_poolsSatIn_37 : decode cX4_poolsSatIn 37 = .ok (.iload_n 1, 1) := by decide +kernel
theorem dX4_poolsSatIn_38 : decode cX4_poolsSatIn 38 = .ok (.ireturn, 1) := by decide +kernel
theorem dX4_fullestPool_0 : decode cX4_fullestPool 0 = .ok (.iconst 0, 1) := by decide +kernel
theorem dX4_fullestPool_1 : decode cX4_fullestPool 1 = .ok (.istore_n 1, 1) := by decide +kernel
theorem dX4_fullestPool_2 : decode cX4_fullestPool 2 = .ok (.iconst 1, 1) := by decide +kernel
theorem dX4_fullestPool_3 : decode cX4_fullestPool 3 = .ok (.istore_n 2, 1) := by decide +kernel
theorem dX4_fullestPool_4 : decode cX4_fullestPool 4 = .ok (.iload_n 2, 1) := by decide +kernel
theorem dX4_fullestPool_5 : decode cX4_fullestPool 5 = .ok (.aload_n 0, 1) := by decide +kernel
theorem dX4_fullestPool_6 : decode cX4_fullestPool 6 = .ok (.getfield 37, 3) := by decide +kernel
theorem dX4_fullestPool_9 : decode cX4_fullestPool 9 = .ok (.if_icmp .ge 24, 3) := by decide +kernel
theorem dX4_fullestPool_12 : decode cX4_fullestPool 12 = .ok (.aload_n 0, 1) := by decide +kernel
theorem dX4_fullestPool_13 : decode cX4_fullestPool 13 = .ok (.iload_n 2, 1) := by decide +kernel
theorem dX4_fullestPool_14 : decode cX4_fullestPool 14 = .ok (.invokevirtual 86, 3) := by decide +kernel
theorem dX4_fullestPool_17 : decode cX4_fullestPool 17 = .ok (.aload_n 0, 1) := by decide +kernel
theorem dX4_fullestPool_18 : decode cX4_fullestPool 18 = .ok (.iload_n 1, 1) := by decide +kernel
theorem dX4_fullestPool_19 : decode cX4_fullestPool 19 = .ok (.invokevirtual 86, 3) := by decide +kernel
theorem dX4_fullestPool_22 : decode cX4_fullestPool 22 = .ok (.if_icmp .le 5, 3) := by decide +kernel
theorem dX4_fullestPool_25 : decode cX4_fullestPool 25 = .ok (.iload_n 2, 1) := by decide +kernel
theorem dX4_fullestPool_26 : decode cX4_fullestPool 26 = .ok (.istore_n 1, 1) := by decide +kernel
theorem dX4_fullestPool_27 : decode cX4_fullestPool 27 = .ok (.iinc 2 1, 3) := by decide +kernel
theorem dX4_fullestPool_30 : decode cX4_fullestPool 30 = .ok (.goto (-26), 3) := by decide +kernel
theorem dX4_fullestPool_33 : decode cX4_fullestPool 33 = .ok (.iload_n 1, 1) := by decide +kernel
theorem dX4_fullestPool_34 : decode cX4_fullestPool 34 = .ok (.ireturn, 1) := by decide +kernel
theorem dX4_stepsOf_0 : decode cX4_stepsOf 0 = .ok (.iload_n 1, 1) := by decide +kernel
theorem dX4_stepsOf_1 : decode cX4_stepsOf 1 = .ok (.lookupswitch 39 #[(0, 27), (1, 32)], 27) := by decide +kernel
theorem dX4_stepsOf_28 : decode cX4_stepsOf 28 = .ok (.aload_n 0, 1) := by decide +kernel
theorem dX4_stepsOf_29 : decode cX4_stepsOf 29 = .ok (.getfield 27, 3) := by decide +kernel
theorem dX4_stepsOf_32 : decode cX4_stepsOf 32 = .ok (.ireturn, 1) := by decide +kernel
theorem dX4_stepsOf_33 : decode cX4_stepsOf 33 = .ok (.aload_n 0, 1) := by decide +kernel
theorem dX4_stepsOf_34 : decode cX4_stepsOf 34 = .ok (.getfield 27, 3) := by decide +kernel
theorem dX4_stepsOf_37 : decode cX4_stepsOf 37 = .ok (.iconst 1, 1) := by decide +kernel
theorem dX4_stepsOf_38 : decode cX4_stepsOf 38 = .ok (.isub, 1) := by decide +kernel
theorem dX4_stepsOf_39 : decode cX4_stepsOf 39 = .ok (.ireturn, 1) := by decide +kernel
theorem dX4_stepsOf_40 : decode cX4_stepsOf 40 = .ok (.aload_n 0, 1) := by decide +kernel
theorem dX4_stepsOf_41 : decode cX4_stepsOf 41 = .ok (.getfield 27, 3) := by decide +kernel
theorem dX4_stepsOf_44 : decode cX4_stepsOf 44 = .ok (.iconst 2, 1) := by decide +kernel
theorem dX4_stepsOf_45 : decode cX4_stepsOf 45 = .ok (.idiv, 1) := by decide +kernel
theorem dX4_stepsOf_46 : decode cX4_stepsOf 46 = .ok (.ireturn, 1) := by decide +kernel
theorem dX4_isWashed_0 : decode cX4_isWashed 0 = .ok (.aload_n 0, 1) := by decide +kernel
theorem dX4_isWashed_1 : decode cX4_isWashed 1 = .ok (.getfield 9, 3) := by decide +kernel
theorem dX4_isWashed_4 : decode cX4_isWashed 4 = .ok (.iload_n 1, 1) := by decide +kernel
theorem dX4_isWashed_5 : decode cX4_isWashed 5 = .ok (.iaload, 1) := by decide +kernel
theorem dX4_isWashed_6 : decode cX4_isWashed 6 = .ok (.iload_n 2, 1) := by decide +kernel
theorem dX4_isWashed_7 : decode cX4_isWashed 7 = .ok (.if_icmp .ge 7, 3) := by decide +kernel
theorem dX4_isWashed_10 : decode cX4_isWashed 10 = .ok (.iconst 1, 1) := by decide +kernel
theorem dX4_isWashed_11 : decode cX4_isWashed 11 = .ok (.goto 4, 3) := by decide +kernel
theorem dX4_isWashed_14 : decode cX4_isWashed 14 = .ok (.iconst 0, 1) := by decide +kernel
theorem dX4_isWashed_15 : decode cX4_isWashed 15 = .ok (.ireturn, 1) := by decide +kernel
theorem dX4_washedBy_0 : decode cX4_washedBy 0 = .ok (.iconst 0, 1) := by decide +kernel
theorem dX4_washedBy_1 : decode cX4_washedBy 1 = .ok (.istore_n 2, 1) := by decide +kernel
theorem dX4_washedBy_2 : decode cX4_washedBy 2 = .ok (.iconst 0, 1) := by decide +kernel
theorem dX4_washedBy_3 : decode cX4_washedBy 3 = .ok (.istore_n 3, 1) := by decide +kernel
theorem dX4_washedBy_4 : decode cX4_washedBy 4 = .ok (.iload_n 3, 1) := by decide +kernel
theorem dX4_washedBy_5 : decode cX4_washedBy 5 = .ok (.aload_n 0, 1) := by decide +kernel
theorem dX4_washedBy_6 : decode cX4_washedBy 6 = .ok (.getfield 37, 3) := by decide +kernel
theorem dX4_washedBy_9 : decode cX4_washedBy 9 = .ok (.if_icmp .ge 24, 3) := by decide +kernel
theorem dX4_washedBy_12 : decode cX4_washedBy 12 = .ok (.aload_n 0, 1) := by decide +kernel
theorem dX4_washedBy_13 : decode cX4_washedBy 13 = .ok (.iload_n 3, 1) := by decide +kernel
theorem dX4_washedBy_14 : decode cX4_washedBy 14 = .ok (.iload_n 1, 1) := by decide +kernel
theorem dX4_washedBy_15 : decode cX4_washedBy 15 = .ok (.invokevirtual 93, 3) := by decide +kernel
theorem dX4_washedBy_18 : decode cX4_washedBy 18 = .ok (.ifCond .eq 9, 3) := by decide +kernel
theorem dX4_washedBy_21 : decode cX4_washedBy 21 = .ok (.iload_n 2, 1) := by decide +kernel
theorem dX4_washedBy_22 : decode cX4_washedBy 22 = .ok (.iconst 1, 1) := by decide +kernel
theorem dX4_washedBy_23 : decode cX4_washedBy 23 = .ok (.iload_n 3, 1) := by decide +kernel
theorem dX4_washedBy_24 : decode cX4_washedBy 24 = .ok (.ishl, 1) := by decide +kernel
theorem dX4_washedBy_25 : decode cX4_washedBy 25 = .ok (.ior, 1) := by decide +kernel
theorem dX4_washedBy_26 : decode cX4_washedBy 26 = .ok (.istore_n 2, 1) := by decide +kernel
theorem dX4_washedBy_27 : decode cX4_washedBy 27 = .ok (.iinc 3 1, 3) := by decide +kernel
theorem dX4_washedBy_30 : decode cX4_washedBy 30 = .ok (.goto (-26), 3) := by decide +kernel
theorem dX4_washedBy_33 : decode cX4_washedBy 33 = .ok (.iload_n 2, 1) := by decide +kernel
theorem dX4_washedBy_34 : decode cX4_washedBy 34 = .ok (.ireturn, 1) := by decide +kernel
theorem dX4_poolBehind_0 : decode cX4_poolBehind 0 = .ok (.aload_n 0, 1) := by decide +kernel
theorem dX4_poolBehind_1 : decode cX4_poolBehind 1 = .ok (.iload_n 1, 1) := by decide +kernel
theorem dX4_poolBehind_2 : decode cX4_poolBehind 2 = .ok (.iload_n 3, 1) := by decide +kernel
theorem dX4_poolBehind_3 : decode cX4_poolBehind 3 = .ok (.invokevirtual 93, 3) := by decide +kernel
theorem dX4_poolBehind_6 : decode cX4_poolBehind 6 = .ok (.ifCond .ne 5, 3) := by decide +kernel
theorem dX4_poolBehind_9 : decode cX4_poolBehind 9 = .ok (.iload_n 1, 1) := by decide +kernel
theorem dX4_poolBehind_10 : decode cX4_poolBehind 10 = .ok (.ireturn, 1) := by decide +kernel
theorem dX4_poolBehind_11 : decode cX4_poolBehind 11 = .ok (.iload_n 1, 1) := by decide +kernel
theorem dX4_poolBehind_12 : decode cX4_poolBehind 12 = .ok (.istore 4, 2) := by decide +kernel
theorem dX4_poolBehind_14 : decode cX4_poolBehind 14 = .ok (.aload_n 0, 1) := by decide +kernel
theorem dX4_poolBehind_15 : decode cX4_poolBehind 15 = .ok (.iload_n 2, 1) := by decide +kernel
theorem dX4_poolBehind_16 : decode cX4_poolBehind 16 = .ok (.invokevirtual 97, 3) := by decide +kernel
theorem dX4_poolBehind_19 : decode cX4_poolBehind 19 = .ok (.istore 5, 2) := by decide +kernel
theorem dX4_poolBehind_21 : decode cX4_poolBehind 21 = .ok (.iload 5, 2) := by decide +kernel
theorem dX4_poolBehind_23 : decode cX4_poolBehind 23 = .ok (.ifCond .le 18, 3) := by decide +kernel
theorem dX4_poolBehind_26 : decode cX4_poolBehind 26 = .ok (.aload_n 0, 1) := by decide +kernel
theorem dX4_poolBehind_27 : decode cX4_poolBehind 27 = .ok (.iload 4, 2) := by decide +kernel
theorem dX4_poolBehind_29 : decode cX4_poolBehind 29 = .ok (.iload_n 3, 1) := by decide +kernel
theorem dX4_poolBehind_30 : decode cX4_poolBehind 30 = .ok (.invokevirtual 100, 3) := by decide +kernel
theorem dX4_poolBehind_33 : decode cX4_poolBehind 33 = .ok (.istore 4, 2) := by decide +kernel
theorem dX4_poolBehind_35 : decode cX4_poolBehind 35 = .ok (.iinc 5 (-1), 3) := by decide +kernel
theorem dX4_poolBehind_38 : decode cX4_poolBehind 38 = .ok (.goto (-17), 3) := by decide +kernel
theorem dX4_poolBehind_41 : decode cX4_poolBehind 41 = .ok (.iload 4, 2) := by decide +kernel
theorem dX4_poolBehind_43 : decode cX4_poolBehind 43 = .ok (.ireturn, 1) := by decide +kernel
theorem dX4_nextWashed_0 : decode cX4_nextWashed 0 = .ok (.iconst 1, 1) := by decide +kernel
theorem dX4_nextWashed_1 : decode cX4_nextWashed 1 = .ok (.istore_n 3, 1) := by decide +kernel
theorem dX4_nextWashed_2 : decode cX4_nextWashed 2 = .ok (.iload_n 3, 1) := by decide +kernel
theorem dX4_nextWashed_3 : decode cX4_nextWashed 3 = .ok (.aload_n 0, 1) := by decide +kernel
theorem dX4_nextWashed_4 : decode cX4_nextWashed 4 = .ok (.getfield 37, 3) := by decide +kernel
theorem dX4_nextWashed_7 : decode cX4_nextWashed 7 = .ok (.if_icmp .ge 48, 3) := by decide +kernel
theorem dX4_nextWashed_10 : decode cX4_nextWashed 10 = .ok (.iload_n 1, 1) := by decide +kernel
theorem dX4_nextWashed_11 : decode cX4_nextWashed 11 = .ok (.iload_n 3, 1) := by decide +kernel
theorem dX4_nextWashed_12 : decode cX4_nextWashed 12 = .ok (.iadd, 1) := by decide +kernel
theorem dX4_nextWashed_13 : decode cX4_nextWashed 13 = .ok (.aload_n 0, 1) := by decide +kernel
theorem dX4_nextWashed_14 : decode cX4_nextWashed 14 = .ok (.getfield 37, 3) := by decide +kernel
theorem dX4_nextWashed_17 : decode cX4_nextWashed 17 = .ok (.if_icmp .ge 9, 3) := by decide +kernel
theorem dX4_nextWashed_20 : decode cX4_nextWashed 20 = .ok (.iload_n 1, 1) := by decide +kernel
theorem dX4_nextWashed_21 : decode cX4_nextWashed 21 = .ok (.iload_n 3, 1) := by decide +kernel
theorem dX4_nextWashed_22 : decode cX4_nextWashed 22 = .ok (.iadd, 1) := by decide +kernel
theorem dX4_nextWashed_23 : decode cX4_nextWashed 23 = .ok (.goto 11, 3) := by decide +kernel
theorem dX4_nextWashed_26 : decode cX4_nextWashed 26 = .ok (.iload_n 1, 1) := by decide +kernel
theorem dX4_nextWashed_27 : decode cX4_nextWashed 27 = .ok (.iload_n 3, 1) := by decide +kernel
theorem dX4_nextWashed_28 : decode cX4_nextWashed 28 = .ok (.iadd, 1) := by decide +kernel
theorem dX4_nextWashed_29 : decode cX4_nextWashed 29 = .ok (.aload_n 0, 1) := by decide +kernel
theorem dX4_nextWashed_30 : decode cX4_nextWashed 30 = .ok (.getfield 37, 3) := by decide +kernel
theorem dX4_nextWashed_33 : decode cX4_nextWashed 33 = .ok (.isub, 1) := by decide +kernel
theorem dX4_nextWashed_34 : decode cX4_nextWashed 34 = .ok (.istore 4, 2) := by decide +kernel
theorem dX4_nextWashed_36 : decode cX4_nextWashed 36 = .ok (.aload_n 0, 1) := by decide +kernel
theorem dX4_nextWashed_37 : decode cX4_nextWashed 37 = .ok (.iload 4, 2) := by decide +kernel
theorem dX4_nextWashed_39 : decode cX4_nextWashed 39 = .ok (.iload_n 2, 1) := by decide +kernel
theorem dX4_nextWashed_40 : decode cX4_nextWashed 40 = .ok (.invokevirtual 93, 3) := by decide +kernel
theorem dX4_nextWashed_43 : decode cX4_nextWashed 43 = .ok (.ifCond .eq 6, 3) := by decide +kernel
theorem dX4_nextWashed_46 : decode cX4_nextWashed 46 = .ok (.iload 4, 2) := by decide +kernel
theorem dX4_nextWashed_48 : decode cX4_nextWashed 48 = .ok (.ireturn, 1) := by decide +kernel
theorem dX4_nextWashed_49 : decode cX4_nextWashed 49 = .ok (.iinc 3 1, 3) := by decide +kernel
theorem dX4_nextWashed_52 : decode cX4_nextWashed 52 = .ok (.goto (-50), 3) := by decide +kernel
theorem dX4_nextWashed_55 : decode cX4_nextWashed 55 = .ok (.iload_n 1, 1) := by decide +kernel
theorem dX4_nextWashed_56 : decode cX4_nextWashed 56 = .ok (.ireturn, 1) := by decide +kernel
theorem dX4_seatBehind_0 : decode cX4_seatBehind 0 = .ok (.aload_n 0, 1) := by decide +kernel
theorem dX4_seatBehind_1 : decode cX4_seatBehind 1 = .ok (.aload_n 0, 1) := by decide +kernel
theorem dX4_seatBehind_2 : decode cX4_seatBehind 2 = .ok (.getfield 21, 3) := by decide +kernel
theorem dX4_seatBehind_5 : decode cX4_seatBehind 5 = .ok (.iload_n 1, 1) := by decide +kernel
theorem dX4_seatBehind_6 : decode cX4_seatBehind 6 = .ok (.iaload, 1) := by decide +kernel
theorem dX4_seatBehind_7 : decode cX4_seatBehind 7 = .ok (.aload_n 0, 1) := by decide +kernel
theorem dX4_seatBehind_8 : decode cX4_seatBehind 8 = .ok (.getfield 18, 3) := by decide +kernel
theorem dX4_seatBehind_11 : decode cX4_seatBehind 11 = .ok (.iload_n 1, 1) := by decide +kernel
theorem dX4_seatBehind_12 : decode cX4_seatBehind 12 = .ok (.iaload, 1) := by decide +kernel
theorem dX4_seatBehind_13 : decode cX4_seatBehind 13 = .ok (.iload_n 2, 1) := by decide +kernel
theorem dX4_seatBehind_14 : decode cX4_seatBehind 14 = .ok (.invokevirtual 103, 3) := by decide +kernel
theorem dX4_seatBehind_17 : decode cX4_seatBehind 17 = .ok (.ireturn, 1) := by decide +kernel
theorem dX4_carryAll_0 : decode cX4_carryAll 0 = .ok (.iconst 0, 1) := by decide +kernel
theorem dX4_carryAll_1 : decode cX4_carryAll 1 = .ok (.istore_n 2, 1) := by decide +kernel
theorem dX4_carryAll_2 : decode cX4_carryAll 2 = .ok (.iconst 0, 1) := by decide +kernel
theorem dX4_carryAll_3 : decode cX4_carryAll 3 = .ok (.istore_n 3, 1) := by decide +kernel
theorem dX4_carryAll_4 : decode cX4_carryAll 4 = .ok (.iload_n 3, 1) := by decide +kernel
theorem dX4_carryAll_5 : decode cX4_carryAll 5 = .ok (.aload_n 0, 1) := by decide +kernel
theorem dX4_carryAll_6 : decode cX4_carryAll 6 = .ok (.getfield 40, 3) := by decide +kernel
theorem dX4_carryAll_9 : decode cX4_carryAll 9 = .ok (.if_icmp .ge 47, 3) := by decide +kernel
theorem dX4_carryAll_12 : decode cX4_carryAll 12 = .ok (.aload_n 0, 1) := by decide +kernel
theorem dX4_carryAll_13 : decode cX4_carryAll 13 = .ok (.iload_n 3, 1) := by decide +kernel
theorem dX4_carryAll_14 : decode cX4_carryAll 14 = .ok (.iload_n 1, 1) := by decide +kernel
theorem dX4_carryAll_15 : decode cX4_carryAll 15 = .ok (.invokevirtual 107, 3) := by decide +kernel
theorem dX4_carryAll_18 : decode cX4_carryAll 18 = .ok (.istore 4, 2) := by decide +kernel
theorem dX4_carryAll_20 : decode cX4_carryAll 20 = .ok (.iload_n 2, 1) := by decide +kernel
theorem dX4_carryAll_21 : decode cX4_carryAll 21 = .ok (.iload 4, 2) := by decide +kernel
theorem dX4_carryAll_23 : decode cX4_carryAll 23 = .ok (.aload_n 0, 1) := by decide +kernel
theorem dX4_carryAll_24 : decode cX4_carryAll 24 = .ok (.getfield 21, 3) := by decide +kernel
theorem dX4_carryAll_27 : decode cX4_carryAll 27 = .ok (.iload_n 3, 1) := by decide +kernel
theorem dX4_carryAll_28 : decode cX4_carryAll 28 = .ok (.iaload, 1) := by decide +kernel
theorem dX4_carryAll_29 : decode cX4_carryAll 29 = .ok (.if_icmp .eq 7, 3) := by decide +kernel
theorem dX4_carryAll_32 : decode cX4_carryAll 32 = .ok (.iconst 1, 1) := by decide +kernel
theorem dX4_carryAll_33 : decode cX4_carryAll 33 = .ok (.goto 4, 3) := by decide +kernel
theorem dX4_carryAll_36 : decode cX4_carryAll 36 = .ok (.iconst 0, 1) := by decide +kernel
theorem dX4_carryAll_37 : decode cX4_carryAll 37 = .ok (.invokestatic 89, 3) := by decide +kernel
theorem dX4_carryAll_40 : decode cX4_carryAll 40 = .ok (.iadd, 1) := by decide +kernel
theorem dX4_carryAll_41 : decode cX4_carryAll 41 = .ok (.istore_n 2, 1) := by decide +kernel
theorem dX4_carryAll_42 : decode cX4_carryAll 42 = .ok (.aload_n 0, 1) := by decide +kernel
theorem dX4_carryAll_43 : decode cX4_carryAll 43 = .ok (.getfield 21, 3) := by decide +kernel
theorem dX4_carryAll_46 : decode cX4_carryAll 46 = .ok (.iload_n 3, 1) := by decide +kernel
theorem dX4_carryAll_47 : decode cX4_carryAll 47 = .ok (.iload 4, 2) := by decide +kernel
theorem dX4_carryAll_49 : decode cX4_carryAll 49 = .ok (.iastore, 1) := by decide +kernel
theorem dX4_carryAll_50 : decode cX4_carryAll 50 = .ok (.iinc 3 1, 3) := by decide +kernel
theorem dX4_carryAll_53 : decode cX4_carryAll 53 = .ok (.goto (-49), 3) := by decide +kernel
theorem dX4_carryAll_56 : decode cX4_carryAll 56 = .ok (.iload_n 2, 1) := by decide +kernel
theorem dX4_carryAll_57 : decode cX4_carryAll 57 = .ok (.ireturn, 1) := by decide +kernel
theorem dX4_friendsOf_0 : decode cX4_friendsOf 0 = .ok (.iconst 0, 1) := by decide +kernel
theorem dX4_friendsOf_1 : decode cX4_friendsOf 1 = .ok (.istore_n 2, 1) := by decide +kernel
theorem dX4_friendsOf_2 : decode cX4_friendsOf 2 = .ok (.iconst 0, 1) := by decide +kernel
theorem dX4_friendsOf_3 : decode cX4_friendsOf 3 = .ok (.istore_n 3, 1) := by decide +kernel
theorem dX4_friendsOf_4 : decode cX4_friendsOf 4 = .ok (.iload_n 3, 1) := by decide +kernel
theorem dX4_friendsOf_5 : decode cX4_friendsOf 5 = .ok (.aload_n 0, 1) := by decide +kernel
theorem dX4_friendsOf_6 : decode cX4_friendsOf 6 = .ok (.getfield 40, 3) := by decide +kernel
theorem dX4_friendsOf_9 : decode cX4_friendsOf 9 = .ok (.if_icmp .ge 33, 3) := by decide +kernel
theorem dX4_friendsOf_12 : decode cX4_friendsOf 12 = .ok (.aload_n 0, 1) := by decide +kernel
theorem dX4_friendsOf_13 : decode cX4_friendsOf 13 = .ok (.getfield 24, 3) := by decide +kernel
theorem dX4_friendsOf_16 : decode cX4_friendsOf 16 = .ok (.iload_n 3, 1) := by decide +kernel
theorem dX4_friendsOf_17 : decode cX4_friendsOf 17 = .ok (.iaload, 1) := by decide +kernel
theorem dX4_friendsOf_18 : decode cX4_friendsOf 18 = .ok (.iload_n 1, 1) := by decide +kernel
theorem dX4_friendsOf_19 : decode cX4_friendsOf 19 = .ok (.isub, 1) := by decide +kernel
theorem dX4_friendsOf_20 : decode cX4_friendsOf 20 = .ok (.invokestatic 110, 3) := by decide +kernel
theorem dX4_friendsOf_23 : decode cX4_friendsOf 23 = .ok (.aload_n 0, 1) := by decide +kernel
theorem dX4_friendsOf_24 : decode cX4_friendsOf 24 = .ok (.getfield 31, 3) := by decide +kernel
theorem dX4_friendsOf_27 : decode cX4_friendsOf 27 = .ok (.if_icmp .gt 9, 3) := by decide +kernel
theorem dX4_friendsOf_30 : decode cX4_friendsOf 30 = .ok (.iload_n 2, 1) := by decide +kernel
theorem dX4_friendsOf_31 : decode cX4_friendsOf 31 = .ok (.iconst 1, 1) := by decide +kernel
theorem dX4_friendsOf_32 : decode cX4_friendsOf 32 = .ok (.iload_n 3, 1) := by decide +kernel
theorem dX4_friendsOf_33 : decode cX4_friendsOf 33 = .ok (.ishl, 1) := by decide +kernel
theorem dX4_friendsOf_34 : decode cX4_friendsOf 34 = .ok (.ior, 1) := by decide +kernel
theorem dX4_friendsOf_35 : decode cX4_friendsOf 35 = .ok (.istore_n 2, 1) := by decide +kernel
theorem dX4_friendsOf_36 : decode cX4_friendsOf 36 = .ok (.iinc 3 1, 3) := by decide +kernel
theorem dX4_friendsOf_39 : decode cX4_friendsOf 39 = .ok (.goto (-35), 3) := by decide +kernel
theorem dX4_friendsOf_42 : decode cX4_friendsOf 42 = .ok (.iload_n 2, 1) := by decide +kernel
theorem dX4_friendsOf_43 : decode cX4_friendsOf 43 = .ok (.ireturn, 1) := by decide +kernel
theorem dX4_poolsWon_0 : decode cX4_poolsWon 0 = .ok (.iconst 0, 1) := by decide +kernel
theorem dX4_poolsWon_1 : decode cX4_poolsWon 1 = .ok (.istore_n 2, 1) := by decide +kernel
theorem dX4_poolsWon_2 : decode cX4_poolsWon 2 = .ok (.iconst 0, 1) := by decide +kernel
theorem dX4_poolsWon_3 : decode cX4_poolsWon 3 = .ok (.istore_n 3, 1) := by decide +kernel
theorem dX4_poolsWon_4 : decode cX4_poolsWon 4 = .ok (.iload_n 3, 1) := by decide +kernel
theorem dX4_poolsWon_5 : decode cX4_poolsWon 5 = .ok (.aload_n 0, 1) := by decide +kernel
theorem dX4_poolsWon_6 : decode cX4_poolsWon 6 = .ok (.getfield 37, 3) := by decide +kernel
theorem dX4_poolsWon_9 : decode cX4_poolsWon 9 = .ok (.if_icmp .ge 41, 3) := by decide +kernel
theorem dX4_poolsWon_12 : decode cX4_poolsWon 12 = .ok (.aload_n 0, 1) := by decide +kernel
theorem dX4_poolsWon_13 : decode cX4_poolsWon 13 = .ok (.iload_n 3, 1) := by decide +kernel
theorem dX4_poolsWon_14 : decode cX4_poolsWon 14 = .ok (.invokevirtual 77, 3) := by decide +kernel
theorem dX4_poolsWon_17 : decode cX4_poolsWon 17 = .ok (.istore 4, 2) := by decide +kernel
theorem dX4_poolsWon_19 : decode cX4_poolsWon 19 = .ok (.iload 4, 2) := by decide +kernel
theorem dX4_poolsWon_21 : decode cX4_poolsWon 21 = .ok (.iload_n 1, 1) := by decide +kernel
theorem dX4_poolsWon_22 : decode cX4_poolsWon 22 = .ok (.iand, 1) := by decide +kernel
theorem dX4_poolsWon_23 : decode cX4_poolsWon 23 = .ok (.invokestatic 81, 3) := by decide +kernel
theorem dX4_poolsWon_26 : decode cX4_poolsWon 26 = .ok (.iload 4, 2) := by decide +kernel
theorem dX4_poolsWon_28 : decode cX4_poolsWon 28 = .ok (.iload_n 1, 1) := by decide +kernel
theorem dX4_poolsWon_29 : decode cX4_poolsWon 29 = .ok (.iconst (-1), 1) := by decide +kernel
theorem dX4_poolsWon_30 : decode cX4_poolsWon 30 = .ok (.ixor, 1) := by decide +kernel
theorem dX4_poolsWon_31 : decode cX4_poolsWon 31 = .ok (.iand, 1) := by decide +kernel
theorem dX4_poolsWon_32 : decode cX4_poolsWon 32 = .ok (.invokestatic 81, 3) := by decide +kernel
theorem dX4_poolsWon_35 : decode cX4_poolsWon 35 = .ok (.if_icmp .le 9, 3) := by decide +kernel
theorem dX4_poolsWon_38 : decode cX4_poolsWon 38 = .ok (.iload_n 2, 1) := by decide +kernel
theorem dX4_poolsWon_39 : decode cX4_poolsWon 39 = .ok (.iconst 1, 1) := by decide +kernel
theorem dX4_poolsWon_40 : decode cX4_poolsWon 40 = .ok (.iload_n 3, 1) := by decide +kernel
theorem dX4_poolsWon_41 : decode cX4_poolsWon 41 = .ok (.ishl, 1) := by decide +kernel
theorem dX4_poolsWon_42 : decode cX4_poolsWon 42 = .ok (.ior, 1) := by decide +kernel
theorem dX4_poolsWon_43 : decode cX4_poolsWon 43 = .ok (.istore_n 2, 1) := by decide +kernel
theorem dX4_poolsWon_44 : decode cX4_poolsWon 44 = .ok (.iinc 3 1, 3) := by decide +kernel
theorem dX4_poolsWon_47 : decode cX4_poolsWon 47 = .ok (.goto (-43), 3) := by decide +kernel
theorem dX4_poolsWon_50 : decode cX4_poolsWon 50 = .ok (.iload_n 2, 1) := by decide +kernel
theorem dX4_poolsWon_51 : decode cX4_poolsWon 51 = .ok (.ireturn, 1) := by decide +kernel
theorem dX4_isLawBy_0 : decode cX4_isLawBy 0 = .ok (.iconst 2, 1) := by decide +kernel
theorem dX4_isLawBy_1 : decode cX4_isLawBy 1 = .ok (.aload_n 0, 1) := by decide +kernel
theorem dX4_isLawBy_2 : decode cX4_isLawBy 2 = .ok (.iload_n 1, 1) := by decide +kernel
theorem dX4_isLawBy_3 : decode cX4_isLawBy 3 = .ok (.invokevirtual 115, 3) := by decide +kernel
theorem dX4_isLawBy_6 : decode cX4_isLawBy 6 = .ok (.invokestatic 81, 3) := by decide +kernel
theorem dX4_isLawBy_9 : decode cX4_isLawBy 9 = .ok (.imul, 1) := by decide +kernel
theorem dX4_isLawBy_10 : decode cX4_isLawBy 10 = .ok (.aload_n 0, 1) := by decide +kernel
theorem dX4_isLawBy_11 : decode cX4_isLawBy 11 = .ok (.invokevirtual 118, 3) := by decide +kernel
theorem dX4_isLawBy_14 : decode cX4_isLawBy 14 = .ok (.if_icmp .le 7, 3) := by decide +kernel
theorem dX4_isLawBy_17 : decode cX4_isLawBy 17 = .ok (.iconst 1, 1) := by decide +kernel
theorem dX4_isLawBy_18 : decode cX4_isLawBy 18 = .ok (.goto 4, 3) := by decide +kernel
theorem dX4_isLawBy_21 : decode cX4_isLawBy 21 = .ok (.iconst 0, 1) := by decide +kernel
theorem dX4_isLawBy_22 : decode cX4_isLawBy 22 = .ok (.ireturn, 1) := by decide +kernel
theorem dX4_driftIn_0 : decode cX4_driftIn 0 = .ok (.iload_n 2, 1) := by decide +kernel
theorem dX4_driftIn_1 : decode cX4_driftIn 1 = .ok (.istore_n 3, 1) := by decide +kernel
theorem dX4_driftIn_2 : decode cX4_driftIn 2 = .ok (.iconst 0, 1) := by decide +kernel
theorem dX4_driftIn_3 : decode cX4_driftIn 3 = .ok (.istore 4, 2) := by decide +kernel
theorem dX4_driftIn_5 : decode cX4_driftIn 5 = .ok (.iload 4, 2) := by decide +kernel
theorem dX4_driftIn_7 : decode cX4_driftIn 7 = .ok (.aload_n 0, 1) := by decide +kernel
theorem dX4_driftIn_8 : decode cX4_driftIn 8 = .ok (.getfield 40, 3) := by decide +kernel
theorem dX4_driftIn_11 : decode cX4_driftIn 11 = .ok (.if_icmp .ge 34, 3) := by decide +kernel
theorem dX4_driftIn_14 : decode cX4_driftIn 14 = .ok (.iload_n 3, 1) := by decide +kernel
theorem dX4_driftIn_15 : decode cX4_driftIn 15 = .ok (.aload_n 0, 1) := by decide +kernel
theorem dX4_driftIn_16 : decode cX4_driftIn 16 = .ok (.getfield 21, 3) := by decide +kernel
theorem dX4_driftIn_19 : decode cX4_driftIn 19 = .ok (.iload 4, 2) := by decide +kernel
theorem dX4_driftIn_21 : decode cX4_driftIn 21 = .ok (.iaload, 1) := by decide +kernel
theorem dX4_driftIn_22 : decode cX4_driftIn 22 = .ok (.iload_n 1, 1) := by decide +kernel
theorem dX4_driftIn_23 : decode cX4_driftIn 23 = .ok (.if_icmp .ne 13, 3) := by decide +kernel
theorem dX4_driftIn_26 : decode cX4_driftIn 26 = .ok (.aload_n 0, 1) := by decide +kernel
theorem dX4_driftIn_27 : decode cX4_driftIn 27 = .ok (.getfield 24, 3) := by decide +kernel
theorem dX4_driftIn_30 : decode cX4_driftIn 30 = .ok (.iload 4, 2) := by decide +kernel
theorem dX4_driftIn_32 : decode cX4_driftIn 32 = .ok (.iaload, 1) := by decide +kernel
theorem dX4_driftIn_33 : decode cX4_driftIn 33 = .ok (.goto 4, 3) := by decide +kernel
theorem dX4_driftIn_36 : decode cX4_driftIn 36 = .ok (.iconst 0, 1) := by decide +kernel
theorem dX4_driftIn_37 : decode cX4_driftIn 37 = .ok (.iadd, 1) := by decide +kernel
theorem dX4_driftIn_38 : decode cX4_driftIn 38 = .ok (.istore_n 3, 1) := by decide +kernel
theorem dX4_driftIn_39 : decode cX4_driftIn 39 = .ok (.iinc 4 1, 3) := by decide +kernel
theorem dX4_driftIn_42 : decode cX4_driftIn 42 = .ok (.goto (-37), 3) := by decide +kernel
theorem dX4_driftIn_45 : decode cX4_driftIn 45 = .ok (.iload_n 3, 1) := by decide +kernel
theorem dX4_driftIn_46 : decode cX4_driftIn 46 = .ok (.aload_n 0, 1) := by decide +kernel
theorem dX4_driftIn_47 : decode cX4_driftIn 47 = .ok (.iload_n 1, 1) := by decide +kernel
theorem dX4_driftIn_48 : decode cX4_driftIn 48 = .ok (.invokevirtual 86, 3) := by decide +kernel
theorem dX4_driftIn_51 : decode cX4_driftIn 51 = .ok (.iconst 1, 1) := by decide +kernel
theorem dX4_driftIn_52 : decode cX4_driftIn 52 = .ok (.iadd, 1) := by decide +kernel
theorem dX4_driftIn_53 : decode cX4_driftIn 53 = .ok (.idiv, 1) := by decide +kernel
theorem dX4_driftIn_54 : decode cX4_driftIn 54 = .ok (.ireturn, 1) := by decide +kernel
theorem dX4_isInReach_0 : decode cX4_isInReach 0 = .ok (.aload_n 0, 1) := by decide +kernel
theorem dX4_isInReach_1 : decode cX4_isInReach 1 = .ok (.getfield 9, 3) := by decide +kernel
theorem dX4_isInReach_4 : decode cX4_isInReach 4 = .ok (.iload_n 1, 1) := by decide +kernel
theorem dX4_isInReach_5 : decode cX4_isInReach 5 = .ok (.iaload, 1) := by decide +kernel
theorem dX4_isInReach_6 : decode cX4_isInReach 6 = .ok (.aload_n 0, 1) := by decide +kernel
theorem dX4_isInReach_7 : decode cX4_isInReach 7 = .ok (.getfield 9, 3) := by decide +kernel
theorem dX4_isInReach_10 : decode cX4_isInReach 10 = .ok (.iload_n 2, 1) := by decide +kernel
theorem dX4_isInReach_11 : decode cX4_isInReach 11 = .ok (.iaload, 1) := by decide +kernel
theorem dX4_isInReach_12 : decode cX4_isInReach 12 = .ok (.isub, 1) := by decide +kernel
theorem dX4_isInReach_13 : decode cX4_isInReach 13 = .ok (.invokestatic 110, 3) := by decide +kernel
theorem dX4_isInReach_16 : decode cX4_isInReach 16 = .ok (.aload_n 0, 1) := by decide +kernel
theorem dX4_isInReach_17 : decode cX4_isInReach 17 = .ok (.getfield 34, 3) := by decide +kernel
theorem dX4_isInReach_20 : decode cX4_isInReach 20 = .ok (.if_icmp .gt 7, 3) := by decide +kernel
theorem dX4_isInReach_23 : decode cX4_isInReach 23 = .ok (.iconst 1, 1) := by decide +kernel
theorem dX4_isInReach_24 : decode cX4_isInReach 24 = .ok (.goto 4, 3) := by decide +kernel
theorem dX4_isInReach_27 : decode cX4_isInReach 27 = .ok (.iconst 0, 1) := by decide +kernel
theorem dX4_isInReach_28 : decode cX4_isInReach 28 = .ok (.ireturn, 1) := by decide +kernel
theorem dX5_init_0 : decode cX5_init 0 = .ok (.aload_n 0, 1) := by decide +kernel
theorem dX5_init_1 : decode cX5_init 1 = .ok (.invokespecial 3, 3) := by decide +kernel
theorem dX5_init_4 : decode cX5_init 4 = .ok (.aload_n 0, 1) := by decide +kernel
theorem dX5_init_5 : decode cX5_init 5 = .ok (.iconst 4, 1) := by decide +kernel
theorem dX5_init_6 : decode cX5_init 6 = .ok (.anewarray 11, 3) := by decide +kernel
theorem dX5_init_9 : decode cX5_init 9 = .ok (.putfield 13, 3) := by decide +kernel
theorem dX5_init_12 : decode cX5_init 12 = .ok (.iconst 0, 1) := by decide +kernel
theorem dX5_init_13 : decode cX5_init 13 = .ok (.istore_n 1, 1) := by decide +kernel
theorem dX5_init_14 : decode cX5_init 14 = .ok (.iload_n 1, 1) := by decide +kernel
theorem dX5_init_15 : decode cX5_init 15 = .ok (.iconst 4, 1) := by decide +kernel
theorem dX5_init_16 : decode cX5_init 16 = .ok (.if_icmp .ge 22, 3) := by decide +kernel
theorem dX5_init_19 : decode cX5_init 19 = .ok (.aload_n 0, 1) := by decide +kernel
theorem dX5_init_20 : decode cX5_init 20 = .ok (.getfield 13, 3) := by decide +kernel
theorem dX5_init_23 : decode cX5_init 23 = .ok (.iload_n 1, 1) := by decide +kernel
theorem dX5_init_24 : decode cX5_init 24 = .ok (.new 11, 3) := by decide +kernel
theorem dX5_init_27 : decode cX5_init 27 = .ok (.dup, 1) := by decide +kernel
theorem dX5_init_28 : decode cX5_init 28 = .ok (.invokespecial 17, 3) := by decide +kernel
theorem dX5_init_31 : decode cX5_init 31 = .ok (.aastore, 1) := by decide +kernel
theorem dX5_init_32 : decode cX5_init 32 = .ok (.iinc 1 1, 3) := by decide +kernel
theorem dX5_init_35 : decode cX5_init 35 = .ok (.goto (-21), 3) := by decide +kernel
theorem dX5_init_38 : decode cX5_init 38 = .ok (.aload_n 0, 1) := by decide +kernel
theorem dX5_init_39 : decode cX5_init 39 = .ok (.new 18, 3) := by decide +kernel
theorem dX5_init_42 : decode cX5_init 42 = .ok (.dup, 1) := by decide +kernel
theorem dX5_init_43 : decode cX5_init 43 = .ok (.invokespecial 20, 3) := by decide +kernel
theorem dX5_init_46 : decode cX5_init 46 = .ok (.putfield 21, 3) := by decide +kernel
theorem dX5_init_49 : decode cX5_init 49 = .ok (.aload_n 0, 1) := by decide +kernel
theorem dX5_init_50 : decode cX5_init 50 = .ok (.new 25, 3) := by decide +kernel
theorem dX5_init_53 : decode cX5_init 53 = .ok (.dup, 1) := by decide +kernel
theorem dX5_init_54 : decode cX5_init 54 = .ok (.invokespecial 27, 3) := by decide +kernel
theorem dX5_init_57 : decode cX5_init 57 = .ok (.putfield 28, 3) := by decide +kernel
theorem dX5_init_60 : decode cX5_init 60 = .ok (.aload_n 0, 1) := by decide +kernel
theorem dX5_init_61 : decode cX5_init 61 = .ok (.new 32, 3) := by decide +kernel
theorem dX5_init_64 : decode cX5_init 64 = .ok (.dup, 1) := by decide +kernel
theorem dX5_init_65 : decode cX5_init 65 = .ok (.invokespecial 34, 3) := by decide +kernel
theorem dX5_init_68 : decode cX5_init 68 = .ok (.putfield 35, 3) := by decide +kernel
theorem dX5_init_71 : decode cX5_init 71 = .ok (.aload_n 0, 1) := by decide +kernel
theorem dX5_init_72 : decode cX5_init 72 = .ok (.new 39, 3) := by decide +kernel
theorem dX5_init_75 : decode cX5_init 75 = .ok (.dup, 1) := by decide +kernel
theorem dX5_init_76 : decode cX5_init 76 = .ok (.invokespecial 41, 3) := by decide +kernel
theorem dX5_init_79 : decode cX5_init 79 = .ok (.putfield 42, 3) := by decide +kernel
theorem dX5_init_82 : decode cX5_init 82 = .ok (.aload_n 0, 1) := by decide +kernel
theorem dX5_init_83 : decode cX5_init 83 = .ok (.new 39, 3) := by decide +kernel
theorem dX5_init_86 : decode cX5_init 86 = .ok (.dup, 1) := by decide +kernel
theorem dX5_init_87 : decode cX5_init 87 = .ok (.invokespecial 41, 3) := by decide +kernel
theorem dX5_init_90 : decode cX5_init 90 = .ok (.putfield 46, 3) := by decide +kernel
theorem dX5_init_93 : decode cX5_init 93 = .ok (.return_, 1) := by decide +kernel
theorem dX5_shore_0 : decode cX5_shore 0 = .ok (.aload_n 0, 1) := by decide +kernel
theorem dX5_shore_1 : decode cX5_shore 1 = .ok (.iconst 0, 1) := by decide +kernel
theorem dX5_shore_2 : decode cX5_shore 2 = .ok (.putfield 49, 3) := by decide +kernel
theorem dX5_shore_5 : decode cX5_shore 5 = .ok (.iload_n 1, 1) := by decide +kernel
theorem dX5_shore_6 : decode cX5_shore 6 = .ok (.invokestatic 53, 3) := by decide +kernel
theorem dX5_shore_9 : decode cX5_shore 9 = .ok (.ifCond .ne 5, 3) := by decide +kernel
theorem dX5_shore_12 : decode cX5_shore 12 = .ok (.iconst (-1), 1) := by decide +kernel
theorem dX5_shore_13 : decode cX5_shore 13 = .ok (.ireturn, 1) := by decide +kernel
theorem dX5_shore_14 : decode cX5_shore 14 = .ok (.iload_n 2, 1) := by decide +kernel
theorem dX5_shore_15 : decode cX5_shore 15 = .ok (.invokestatic 57, 3) := by decide +kernel
theorem dX5_shore_18 : decode cX5_shore 18 = .ok (.ifCond .ne 6, 3) := by decide +kernel
theorem dX5_shore_21 : decode cX5_shore 21 = .ok (.bipush (-2), 2) := by decide +kernel
theorem dX5_shore_23 : decode cX5_shore 23 = .ok (.ireturn, 1) := by decide +kernel
theorem dX5_shore_24 : decode cX5_shore 24 = .ok (.aload_n 0, 1) := by decide +kernel
theorem dX5_shore_25 : decode cX5_shore 25 = .ok (.getfield 13, 3) := by decide +kernel
theorem dX5_shore_28 : decode cX5_shore 28 = .ok (.iload_n 1, 1) := by decide +kernel
theorem dX5_shore_29 : decode cX5_shore 29 = .ok (.aaload, 1) := by decide +kernel
theorem dX5_shore_30 : decode cX5_shore 30 = .ok (.iload_n 2, 1) := by decide +kernel
theorem dX5_shore_31 : decode cX5_shore 31 = .ok (.iload_n 3, 1) := by decide +kernel
theorem dX5_shore_32 : decode cX5_shore 32 = .ok (.iload 4, 2) := by decide +kernel
theorem dX5_shore_34 : decode cX5_shore 34 = .ok (.invokestatic 60, 3) := by decide +kernel
theorem dX5_shore_37 : decode cX5_shore 37 = .ok (.istore 5, 2) := by decide +kernel
theorem dX5_shore_39 : decode cX5_shore 39 = .ok (.iload 5, 2) := by decide +kernel
theorem dX5_shore_41 : decode cX5_shore 41 = .ok (.ifCond .eq 10, 3) := by decide +kernel
theorem dX5_shore_44 : decode cX5_shore 44 = .ok (.aload_n 0, 1) := by decide +kernel
theorem dX5_shore_45 : decode cX5_shore 45 = .ok (.iload 5, 2) := by decide +kernel
theorem dX5_shore_47 : decode cX5_shore 47 = .ok (.invokevirtual 64, 3) := by decide +kernel
theorem dX5_shore_50 : decode cX5_shore 50 = .ok (.ireturn, 1) := by decide +kernel
theorem dX5_shore_51 : decode cX5_shore 51 = .ok (.aload_n 0, 1) := by decide +kernel
theorem dX5_shore_52 : decode cX5_shore 52 = .ok (.getfield 21, 3) := by decide +kernel
theorem dX5_shore_55 : decode cX5_shore 55 = .ok (.aload_n 0, 1) := by decide +kernel
theorem dX5_shore_56 : decode cX5_shore 56 = .ok (.getfield 13, 3) := by decide +kernel
theorem dX5_shore_59 : decode cX5_shore 59 = .ok (.iload_n 1, 1) := by decide +kernel
theorem dX5_shore_60 : decode cX5_shore 60 = .ok (.aaload, 1) := by decide +kernel
theorem dX5_shore_61 : decode cX5_shore 61 = .ok (.iload_n 3, 1) := by decide +kernel
theorem dX5_shore_62 : decode cX5_shore 62 = .ok (.iload 4, 2) := by decide +kernel
theorem dX5_shore_64 : decode cX5_shore 64 = .ok (.invokevirtual 68, 3) := by decide +kernel
theorem dX5_shore_67 : decode cX5_shore 67 = .ok (.aload_n 0, 1) := by decide +kernel
theorem dX5_shore_68 : decode cX5_shore 68 = .ok (.getfield 46, 3) := by decide +kernel
theorem dX5_shore_71 : decode cX5_shore 71 = .ok (.aload_n 0, 1) := by decide +kernel
theorem dX5_shore_72 : decode cX5_shore 72 = .ok (.getfield 21, 3) := by decide +kernel
theorem dX5_shore_75 : decode cX5_shore 75 = .ok (.invokevirtual 72, 3) := by decide +kernel
theorem dX5_shore_78 : decode cX5_shore 78 = .ok (.ifCond .ne 14, 3) := by decide +kernel
theorem dX5_shore_81 : decode cX5_shore 81 = .ok (.bipush (-100), 2) := by decide +kernel
theorem dX5_shore_83 : decode cX5_shore 83 = .ok (.aload_n 0, 1) := by decide +kernel
theorem dX5_shore_84 : decode cX5_shore 84 = .ok (.getfield 21, 3) := by decide +kernel
theorem dX5_shore_87 : decode cX5_shore 87 = .ok (.invokevirtual 76, 3) := by decide +kernel
theorem dX5_shore_90 : decode cX5_shore 90 = .ok (.isub, 1) := by decide +kernel
theorem dX5_shore_91 : decode cX5_shore 91 = .ok (.ireturn, 1) := by decide +kernel
theorem dX5_shore_92 : decode cX5_shore 92 = .ok (.aload_n 0, 1) := by decide +kernel
theorem dX5_shore_93 : decode cX5_shore 93 = .ok (.invokevirtual 80, 3) := by decide +kernel
theorem dX5_shore_96 : decode cX5_shore 96 = .ok (.aload_n 0, 1) := by decide +kernel
theorem dX5_shore_97 : decode cX5_shore 97 = .ok (.getfield 28, 3) := by decide +kernel
theorem dX5_shore_100 : decode cX5_shore 100 = .ok (.iconst 0, 1) := by decide +kernel
theorem dX5_shore_101 : decode cX5_shore 101 = .ok (.putfield 83, 3) := by decide +kernel
theorem dX5_shore_104 : decode cX5_shore 104 = .ok (.aload_n 0, 1) := by decide +kernel
theorem dX5_shore_105 : decode cX5_shore 105 = .ok (.getfield 42, 3) := by decide +kernel
theorem dX5_shore_108 : decode cX5_shore 108 = .ok (.getfield 86, 3) := by decide +kernel
theorem dX5_shore_111 : decode cX5_shore 111 = .ok (.ireturn, 1) := by decide +kernel
theorem dX5_ofPool_0 : decode cX5_ofPool 0 = .ok (.aload_n 0, 1) := by decide +kernel
theorem dX5_ofPool_1 : decode cX5_ofPool 1 = .ok (.iload_n 1, 1) := by decide +kernel
theorem dX5_ofPool_2 : decode cX5_ofPool 2 = .ok (.invokevirtual 89, 3) := by decide +kernel
theorem dX5_ofPool_5 : decode cX5_ofPool 5 = .ok (.ifCond .ne 5, 3) := by decide +kernel
theorem dX5_ofPool_8 : decode cX5_ofPool 8 = .ok (.iconst (-1), 1) := by decide +kernel
theorem dX5_ofPool_9 : decode cX5_ofPool 9 = .ok (.ireturn, 1) := by decide +kernel
theorem dX5_ofPool_10 : decode cX5_ofPool 10 = .ok (.iload_n 2, 1) := by decide +kernel
theorem dX5_ofPool_11 : decode cX5_ofPool 11 = .ok (.tableswitch 67 0 3 #[29, 39, 49, 58], 29) := by decide +kernel
theorem dX5_ofPool_40 : decode cX5_ofPool 40 = .ok (.aload_n 0, 1) := by decide +kernel
theorem dX5_ofPool_41 : decode cX5_ofPool 41 = .ok (.getfield 42, 3) := by decide +kernel
theorem dX5_ofPool_44 : decode cX5_ofPool 44 = .ok (.getfield 92, 3) := by decide +kernel
theorem dX5_ofPool_47 : decode cX5_ofPool 47 = .ok (.iload_n 1, 1) := by decide +kernel
theorem dX5_ofPool_48 : decode cX5_ofPool 48 = .ok (.iaload, 1) := by decide +kernel
theorem dX5_ofPool_49 : decode cX5_ofPool 49 = .ok (.ireturn, 1) := by decide +kernel
theorem dX5_ofPool_50 : decode cX5_ofPool 50 = .ok (.aload_n 0, 1) := by decide +kernel
theorem dX5_ofPool_51 : decode cX5_ofPool 51 = .ok (.getfield 42, 3) := by decide +kernel
theorem dX5_ofPool_54 : decode cX5_ofPool 54 = .ok (.getfield 96, 3) := by decide +kernel
theorem dX5_ofPool_57 : decode cX5_ofPool 57 = .ok (.iload_n 1, 1) := by decide +kernel
theorem dX5_ofPool_58 : decode cX5_ofPool 58 = .ok (.iaload, 1) := by decide +kernel
theorem dX5_ofPool_59 : decode cX5_ofPool 59 = .ok (.ireturn, 1) := by decide +kernel
theorem dX5_ofPool_60 : decode cX5_ofPool 60 = .ok (.aload_n 0, 1) := by decide +kernel
theorem dX5_ofPool_61 : decode cX5_ofPool 61 = .ok (.getfield 42, 3) := by decide +kernel
theorem dX5_ofPool_64 : decode cX5_ofPool 64 = .ok (.iload_n 1, 1) := by decide +kernel
theorem dX5_ofPool_65 : decode cX5_ofPool 65 = .ok (.invokevirtual 99, 3) := by decide +kernel
theorem dX5_ofPool_68 : decode cX5_ofPool 68 = .ok (.ireturn, 1) := by decide +kernel
theorem dX5_ofPool_69 : decode cX5_ofPool 69 = .ok (.aload_n 0, 1) := by decide +kernel
theorem dX5_ofPool_70 : decode cX5_ofPool 70 = .ok (.getfield 42, 3) := by decide +kernel
theorem dX5_ofPool_73 : decode cX5_ofPool 73 = .ok (.iload_n 1, 1) := by decide +kernel
theorem dX5_ofPool_74 : decode cX5_ofPool 74 = .ok (.invokevirtual 102, 3) := by decide +kernel
theorem dX5_ofPool_77 : decode cX5_ofPool 77 = .ok (.ireturn, 1) := by decide +kernel
theorem dX5_ofPool_78 : decode cX5_ofPool 78 = .ok (.bipush (-2), 2) := by decide +kernel
theorem dX5_ofPool_80 : decode cX5_ofPool 80 = .ok (.ireturn, 1) := by decide +kernel
theorem dX5_ofMember_0 : decode cX5_ofMember 0 = .ok (.aload_n 0, 1) := by decide +kernel
theorem dX5_ofMember_1 : decode cX5_ofMember 1 = .ok (.iload_n 1, 1) := by decide +kernel
theorem dX5_ofMember_2 : decode cX5_ofMember 2 = .ok (.invokevirtual 105, 3) := by decide +kernel
theorem dX5_ofMember_5 : decode cX5_ofMember 5 = .ok (.ifCond .ne 5, 3) := by decide +kernel
theorem dX5_ofMember_8 : decode cX5_ofMember 8 = .ok (.iconst (-1), 1) := by decide +kernel
theorem dX5_ofMember_9 : decode cX5_ofMember 9 = .ok (.ireturn, 1) := by decide +kernel
theorem dX5_ofMember_10 : decode cX5_ofMember 10 = .ok (.iload_n 2, 1) := by decide +kernel
theorem dX5_ofMember_11 : decode cX5_ofMember 11 = .ok (.tableswitch 76 0 3 #[29, 39, 49, 59], 29) := by decide +kernel
theorem dX5_ofMember_40 : decode cX5_ofMember 40 = .ok (.aload_n 0, 1) := by decide +kernel
theorem dX5_ofMember_41 : decode cX5_ofMember 41 = .ok (.getfield 42, 3) := by decide +kernel
theorem dX5_ofMember_44 : decode cX5_ofMember 44 = .ok (.getfield 108, 3) := by decide +kernel
theorem dX5_ofMember_47 : decode cX5_ofMember 47 = .ok (.iload_n 1, 1) := by decide +kernel
theorem dX5_ofMember_48 : decode cX5_ofMember 48 = .ok (.iaload, 1) := by decide +kernel
theorem dX5_ofMember_49 : decode cX5_ofMember 49 = .ok (.ireturn, 1) := by decide +kernel
theorem dX5_ofMember_50 : decode cX5_ofMember 50 = .ok (.aload_n 0, 1) := by decide +kernel
theorem dX5_ofMember_51 : decode cX5_ofMember 51 = .ok (.getfield 42, 3) := by decide +kernel
theorem dX5_ofMember_54 : decode cX5_ofMember 54 = .ok (.getfield 111, 3) := by decide +kernel
theorem dX5_ofMember_57 : decode cX5_ofMember 57 = .ok (.iload_n 1, 1) := by decide +kernel
theorem dX5_ofMember_58 : decode cX5_ofMember 58 = .ok (.iaload, 1) := by decide +kernel
theorem dX5_ofMember_59 : decode cX5_ofMember 59 = .ok (.ireturn, 1) := by decide +kernel
theorem dX5_ofMember_60 : decode cX5_ofMember 60 = .ok (.aload_n 0, 1) := by decide +kernel
theorem dX5_ofMember_61 : decode cX5_ofMember 61 = .ok (.getfield 42, 3) := by decide +kernel
theorem dX5_ofMember_64 : decode cX5_ofMember 64 = .ok (.getfield 114, 3) := by decide +kernel
theorem dX5_ofMember_67 : decode cX5_ofMember 67 = .ok (.iload_n 1, 1) := by decide +kernel
theorem dX5_ofMember_68 : decode cX5_ofMember 68 = .ok (.iaload, 1) := by decide +kernel
theorem dX5_ofMember_69 : decode cX5_ofMember 69 = .ok (.ireturn, 1) := by decide +kernel
theorem dX5_ofMember_70 : decode cX5_ofMember 70 = .ok (.aload_n 0, 1) := by decide +kernel
theorem dX5_ofMember_71 : decode cX5_ofMember 71 = .ok (.getfield 42, 3) := by decide +kernel
theorem dX5_ofMember_74 : decode cX5_ofMember 74 = .ok (.aload_n 0, 1) := by decide +kernel
theorem dX5_ofMember_75 : decode cX5_ofMember 75 = .ok (.getfield 42, 3) := by decide +kernel
theorem dX5_ofMember_78 : decode cX5_ofMember 78 = .ok (.getfield 108, 3) := by decide +kernel
theorem dX5_ofMember_81 : decode cX5_ofMember 81 = .ok (.iload_n 1, 1) := by decide +kernel
theorem dX5_ofMember_82 : decode cX5_ofMember 82 = .ok (.iaload, 1) := by decide +kernel
theorem dX5_ofMember_83 : decode cX5_ofMember 83 = .ok (.invokevirtual 117, 3) := by decide +kernel
theorem dX5_ofMember_86 : decode cX5_ofMember 86 = .ok (.ireturn, 1) := by decide +kernel
theorem dX5_ofMember_87 : decode cX5_ofMember 87 = .ok (.bipush (-2), 2) := by decide +kernel
theorem dX5_ofMember_89 : decode cX5_ofMember 89 = .ok (.ireturn, 1) := by decide +kernel
theorem dX5_raise_0 : decode cX5_raise 0 = .ok (.aload_n 0, 1) := by decide +kernel
theorem dX5_raise_1 : decode cX5_raise 1 = .ok (.iload_n 1, 1) := by decide +kernel
theorem dX5_raise_2 : decode cX5_raise 2 = .ok (.invokevirtual 89, 3) := by decide +kernel
theorem dX5_raise_5 : decode cX5_raise 5 = .ok (.ifCond .ne 5, 3) := by decide +kernel
theorem dX5_raise_8 : decode cX5_raise 8 = .ok (.iconst (-1), 1) := by decide +kernel
theorem dX5_raise_9 : decode cX5_raise 9 = .ok (.ireturn, 1) := by decide +kernel
theorem dX5_raise_10 : decode cX5_raise 10 = .ok (.iload_n 2, 1) := by decide +kernel
theorem dX5_raise_11 : decode cX5_raise 11 = .ok (.iconst 1, 1) := by decide +kernel
theorem dX5_raise_12 : decode cX5_raise 12 = .ok (.bipush 9, 2) := by decide +kernel
theorem dX5_raise_14 : decode cX5_raise 14 = .ok (.invokestatic 120, 3) := by decide +kernel
theorem dX5_raise_17 : decode cX5_raise 17 = .ok (.ifCond .ne 6, 3) := by decide +kernel
theorem dX5_raise_20 : decode cX5_raise 20 = .ok (.bipush (-2), 2) := by decide +kernel
theorem dX5_raise_22 : decode cX5_raise 22 = .ok (.ireturn, 1) := by decide +kernel
theorem dX5_raise_23 : decode cX5_raise 23 = .ok (.aload_n 0, 1) := by decide +kernel
theorem dX5_raise_24 : decode cX5_raise 24 = .ok (.getfield 42, 3) := by decide +kernel
theorem dX5_raise_27 : decode cX5_raise 27 = .ok (.getfield 92, 3) := by decide +kernel
theorem dX5_raise_30 : decode cX5_raise 30 = .ok (.iload_n 1, 1) := by decide +kernel
theorem dX5_raise_31 : decode cX5_raise 31 = .ok (.iaload, 1) := by decide +kernel
theorem dX5_raise_32 : decode cX5_raise 32 = .ok (.istore_n 3, 1) := by decide +kernel
theorem dX5_raise_33 : decode cX5_raise 33 = .ok (.aload_n 0, 1) := by decide +kernel
theorem dX5_raise_34 : decode cX5_raise 34 = .ok (.getfield 42, 3) := by decide +kernel
theorem dX5_raise_37 : decode cX5_raise 37 = .ok (.getfield 92, 3) := by decide +kernel
theorem dX5_raise_40 : decode cX5_raise 40 = .ok (.iload_n 1, 1) := by decide +kernel
theorem dX5_raise_41 : decode cX5_raise 41 = .ok (.iload_n 2, 1) := by decide +kernel
theorem dX5_raise_42 : decode cX5_raise 42 = .ok (.iastore, 1) := by decide +kernel
theorem dX5_raise_43 : decode cX5_raise 43 = .ok (.iload_n 3, 1) := by decide +kernel
theorem dX5_raise_44 : decode cX5_raise 44 = .ok (.ireturn, 1) := by decide +kernel
theorem dX5_sway_0 : decode cX5_sway 0 = .ok (.aload_n 0, 1) := by decide +kernel
theorem dX5_sway_1 : decode cX5_sway 1 = .ok (.iload_n 1, 1) := by decide +kernel
theorem dX5_sway_2 : decode cX5_sway 2 = .ok (.invokevirtual 105, 3) := by decide +kernel
theorem dX5_sway_5 : decode cX5_sway 5 = .ok (.ifCond .ne 5, 3) := by decide +kernel
theorem dX5_sway_8 : decode cX5_sway 8 = .ok (.iconst (-1), 1) := by decide +kernel
theorem dX5_sway_9 : decode cX5_sway 9 = .ok (.ireturn, 1) := by decide +kernel
theorem dX5_sway_10 : decode cX5_sway 10 = .ok (.iload_n 2, 1) := by decide +kernel
theorem dX5_sway_11 : decode cX5_sway 11 = .ok (.invokestatic 124, 3) := by decide +kernel
theorem dX5_sway_14 : decode cX5_sway 14 = .ok (.ifCond .ne 6, 3) := by decide +kernel
theorem dX5_sway_17 : decode cX5_sway 17 = .ok (.bipush (-2), 2) := by decide +kernel
theorem dX5_sway_19 : decode cX5_sway 19 = .ok (.ireturn, 1) := by decide +kernel
theorem dX5_sway_20 : decode cX5_sway 20 = .ok (.aload_n 0, 1) := by decide +kernel
theorem dX5_sway_21 : decode cX5_sway 21 = .ok (.getfield 42, 3) := by decide +kernel
theorem dX5_sway_24 : decode cX5_sway 24 = .ok (.getfield 114, 3) := by decide +kernel
theorem dX5_sway_27 : decode cX5_sway 27 = .ok (.iload_n 1, 1) := by decide +kernel
theorem dX5_sway_28 : decode cX5_sway 28 = .ok (.iaload, 1) := by decide +kernel
theorem dX5_sway_29 : decode cX5_sway 29 = .ok (.istore_n 3, 1) := by decide +kernel
theorem dX5_sway_30 : decode cX5_sway 30 = .ok (.aload_n 0, 1) := by decide +kernel
theorem dX5_sway_31 : decode cX5_sway 31 = .ok (.getfield 42, 3) := by decide +kernel
theorem dX5_sway_34 : decode cX5_sway 34 = .ok (.getfield 114, 3) := by decide +kernel
theorem dX5_sway_37 : decode cX5_sway 37 = .ok (.iload_n 1, 1) := by decide +kernel
theorem dX5_sway_38 : decode cX5_sway 38 = .ok (.iload_n 2, 1) := by decide +kernel
theorem dX5_sway_39 : decode cX5_sway 39 = .ok (.iastore, 1) := by decide +kernel
theorem dX5_sway_40 : decode cX5_sway 40 = .ok (.iload_n 3, 1) := by decide +kernel
theorem dX5_sway_41 : decode cX5_sway 41 = .ok (.ireturn, 1) := by decide +kernel
theorem dX5_seat_0 : decode cX5_seat 0 = .ok (.aload_n 0, 1) := by decide +kernel
theorem dX5_seat_1 : decode cX5_seat 1 = .ok (.iload_n 1, 1) := by decide +kernel
theorem dX5_seat_2 : decode cX5_seat 2 = .ok (.invokevirtual 105, 3) := by decide +kernel
theorem dX5_seat_5 : decode cX5_seat 5 = .ok (.ifCond .eq 11, 3) := by decide +kernel
theorem dX5_seat_8 : decode cX5_seat 8 = .ok (.aload_n 0, 1) := by decide +kernel
theorem dX5_seat_9 : decode cX5_seat 9 = .ok (.iload_n 2, 1) := by decide +kernel
theorem dX5_seat_10 : decode cX5_seat 10 = .ok (.invokevirtual 89, 3) := by decide +kernel
theorem dX5_seat_13 : decode cX5_seat 13 = .ok (.ifCond .ne 5, 3) := by decide +kernel
theorem dX5_seat_16 : decode cX5_seat 16 = .ok (.iconst (-1), 1) := by decide +kernel
theorem dX5_seat_17 : decode cX5_seat 17 = .ok (.ireturn, 1) := by decide +kernel
theorem dX5_seat_18 : decode cX5_seat 18 = .ok (.aload_n 0, 1) := by decide +kernel
theorem dX5_seat_19 : decode cX5_seat 19 = .ok (.getfield 42, 3) := by decide +kernel
theorem dX5_seat_22 : decode cX5_seat 22 = .ok (.getfield 111, 3) := by decide +kernel
theorem dX5_seat_25 : decode cX5_seat 25 = .ok (.iload_n 1, 1) := by decide +kernel
theorem dX5_seat_26 : decode cX5_seat 26 = .ok (.iaload, 1) := by decide +kernel
theorem dX5_seat_27 : decode cX5_seat 27 = .ok (.istore_n 3, 1) := by decide +kernel
theorem dX5_seat_28 : decode cX5_seat 28 = .ok (.aload_n 0, 1) := by decide +kernel
theorem dX5_seat_29 : decode cX5_seat 29 = .ok (.getfield 42, 3) := by decide +kernel
theorem dX5_seat_32 : decode cX5_seat 32 = .ok (.getfield 111, 3) := by decide +kernel
theorem dX5_seat_35 : decode cX5_seat 35 = .ok (.iload_n 1, 1) := by decide +kernel
theorem dX5_seat_36 : decode cX5_seat 36 = .ok (.iload_n 2, 1) := by decide +kernel
theorem dX5_seat_37 : decode cX5_seat 37 = .ok (.iastore, 1) := by decide +kernel
theorem dX5_seat_38 : decode cX5_seat 38 = .ok (.iload_n 3, 1) := by decide +kernel
theorem dX5_seat_39 : decode cX5_seat 39 = .ok (.ireturn, 1) := by decide +kernel
theorem dX5_flow_0 : decode cX5_flow 0 = .ok (.aload_n 0, 1) := by decide +kernel
theorem dX5_flow_1 : decode cX5_flow 1 = .ok (.iload_n 1, 1) := by decide +kernel
theorem dX5_flow_2 : decode cX5_flow 2 = .ok (.iconst 1, 1) := by decide +kernel
theorem dX5_flow_3 : decode cX5_flow 3 = .ok (.iconst 3, 1) := by decide +kernel
theorem dX5_flow_4 : decode cX5_flow 4 = .ok (.invokestatic 120, 3) := by decide +kernel
theorem dX5_flow_7 : decode cX5_flow 7 = .ok (.invokevirtual 127, 3) := by decide +kernel
theorem dX5_flow_10 : decode cX5_flow 10 = .ok (.istore_n 2, 1) := by decide +kernel
theorem dX5_flow_11 : decode cX5_flow 11 = .ok (.iload_n 2, 1) := by decide +kernel
theorem dX5_flow_12 : decode cX5_flow 12 = .ok (.ifCond .eq 5, 3) := by decide +kernel
theorem dX5_flow_15 : decode cX5_flow 15 = .ok (.iload_n 2, 1) := by decide +kernel
theorem dX5_flow_16 : decode cX5_flow 16 = .ok (.ireturn, 1) := by decide +kernel
theorem dX5_flow_17 : decode cX5_flow 17 = .ok (.aload_n 0, 1) := by decide +kernel
theorem dX5_flow_18 : decode cX5_flow 18 = .ok (.getfield 42, 3) := by decide +kernel
theorem dX5_flow_21 : decode cX5_flow 21 = .ok (.getfield 131, 3) := by decide +kernel
theorem dX5_flow_24 : decode cX5_flow 24 = .ok (.istore_n 3, 1) := by decide +kernel
theorem dX5_flow_25 : decode cX5_flow 25 = .ok (.aload_n 0, 1) := by decide +kernel
theorem dX5_flow_26 : decode cX5_flow 26 = .ok (.getfield 42, 3) := by decide +kernel
theorem dX5_flow_29 : decode cX5_flow 29 = .ok (.iload_n 1, 1) := by decide +kernel
theorem dX5_flow_30 : decode cX5_flow 30 = .ok (.putfield 131, 3) := by decide +kernel
theorem dX5_flow_33 : decode cX5_flow 33 = .ok (.iload_n 3, 1) := by decide +kernel
theorem dX5_flow_34 : decode cX5_flow 34 = .ok (.ireturn, 1) := by decide +kernel
theorem dX5_calm_0 : decode cX5_calm 0 = .ok (.aload_n 0, 1) := by decide +kernel
theorem dX5_calm_1 : decode cX5_calm 1 = .ok (.iload_n 1, 1) := by decide +kernel
theorem dX5_calm_2 : decode cX5_calm 2 = .ok (.invokestatic 124, 3) := by decide +kernel
theorem dX5_calm_5 : decode cX5_calm 5 = .ok (.invokevirtual 127, 3) := by decide +kernel
theorem dX5_calm_8 : decode cX5_calm 8 = .ok (.istore_n 2, 1) := by decide +kernel
theorem dX5_calm_9 : decode cX5_calm 9 = .ok (.iload_n 2, 1) := by decide +kernel
theorem dX5_calm_10 : decode cX5_calm 10 = .ok (.ifCond .eq 5, 3) := by decide +kernel
theorem dX5_calm_13 : decode cX5_calm 13 = .ok (.iload_n 2, 1) := by decide +kernel
theorem dX5_calm_14 : decode cX5_calm 14 = .ok (.ireturn, 1) := by decide +kernel
theorem dX5_calm_15 : decode cX5_calm 15 = .ok (.aload_n 0, 1) := by decide +kernel
theorem dX5_calm_16 : decode cX5_calm 16 = .ok (.getfield 42, 3) := by decide +kernel
theorem dX5_calm_19 : decode cX5_calm 19 = .ok (.getfield 134, 3) := by decide +kernel
theorem dX5_calm_22 : decode cX5_calm 22 = .ok (.istore_n 3, 1) := by decide +kernel
theorem dX5_calm_23 : decode cX5_calm 23 = .ok (.aload_n 0, 1) := by decide +kernel
theorem dX5_calm_24 : decode cX5_calm 24 = .ok (.getfield 42, 3) := by decide +kernel
theorem dX5_calm_27 : decode cX5_calm 27 = .ok (.iload_n 1, 1) := by decide +kernel
theorem dX5_calm_28 : decode cX5_calm 28 = .ok (.putfield 134, 3) := by decide +kernel
theorem dX5_calm_31 : decode cX5_calm 31 = .ok (.iload_n 3, 1) := by decide +kernel
theorem dX5_calm_32 : decode cX5_calm 32 = .ok (.ireturn, 1) := by decide +kernel
theorem dX5_leap_0 : decode cX5_leap 0 = .ok (.aload_n 0, 1) := by decide +kernel
theorem dX5_leap_1 : decode cX5_leap 1 = .ok (.iload_n 1, 1) := by decide +kernel
theorem dX5_leap_2 : decode cX5_leap 2 = .ok (.invokestatic 124, 3) := by decide +kernel
theorem dX5_leap_5 : decode cX5_leap 5 = .ok (.invokevirtual 127, 3) := by decide +kernel
theorem dX5_leap_8 : decode cX5_leap 8 = .ok (.istore_n 2, 1) := by decide +kernel
theorem dX5_leap_9 : decode cX5_leap 9 = .ok (.iload_n 2, 1) := by decide +kernel
theorem dX5_leap_10 : decode cX5_leap 10 = .ok (.ifCond .eq 5, 3) := by decide +kernel
theorem dX5_leap_13 : decode cX5_leap 13 = .ok (.iload_n 2, 1) := by decide +kernel
theorem dX5_leap_14 : decode cX5_leap 14 = .ok (.ireturn, 1) := by decide +kernel
theorem dX5_leap_15 : decode cX5_leap 15 = .ok (.aload_n 0, 1) := by decide +kernel
theorem dX5_leap_16 : decode cX5_leap 16 = .ok (.getfield 42, 3) := by decide +kernel
theorem dX5_leap_19 : decode cX5_leap 19 = .ok (.getfield 137, 3) := by decide +kernel
theorem dX5_leap_22 : decode cX5_leap 22 = .ok (.istore_n 3, 1) := by decide +kernel
theorem dX5_leap_23 : decode cX5_leap 23 = .ok (.aload_n 0, 1) := by decide +kernel
theorem dX5_leap_24 : decode cX5_leap 24 = .ok (.getfield 42, 3) := by decide +kernel
theorem dX5_leap_27 : decode cX5_leap 27 = .ok (.iload_n 1, 1) := by decide +kernel
theorem dX5_leap_28 : decode cX5_leap 28 = .ok (.putfield 137, 3) := by decide +kernel
theorem dX5_leap_31 : decode cX5_leap 31 = .ok (.iload_n 3, 1) := by decide +kernel
theorem dX5_leap_32 : decode cX5_leap 32 = .ok (.ireturn, 1) := by decide +kernel
theorem dX5_washed_0 : decode cX5_washed 0 = .ok (.aload_n 0, 1) := by decide +kernel
theorem dX5_washed_1 : decode cX5_washed 1 = .ok (.iload_n 1, 1) := by decide +kernel
theorem dX5_washed_2 : decode cX5_washed 2 = .ok (.invokestatic 124, 3) := by decide +kernel
theorem dX5_washed_5 : decode cX5_washed 5 = .ok (.invokevirtual 127, 3) := by decide +kernel
theorem dX5_washed_8 : decode cX5_washed 8 = .ok (.istore_n 2, 1) := by decide +kernel
theorem dX5_washed_9 : decode cX5_washed 9 = .ok (.iload_n 2, 1) := by decide +kernel
theorem dX5_washed_10 : decode cX5_washed 10 = .ok (.ifCond .eq 7, 3) := by decide +kernel
theorem dX5_washed_13 : decode cX5_washed 13 = .ok (.iload_n 2, 1) := by decide +kernel
theorem dX5_washed_14 : decode cX5_washed 14 = .ok (.goto 11, 3) := by decide +kernel
theorem dX5_washed_17 : decode cX5_washed 17 = .ok (.aload_n 0, 1) := by decide +kernel
theorem dX5_washed_18 : decode cX5_washed 18 = .ok (.getfield 42, 3) := by decide +kernel
theorem dX5_washed_21 : decode cX5_washed 21 = .ok (.iload_n 1, 1) := by decide +kernel
theorem dX5_washed_22 : decode cX5_washed 22 = .ok (.invokevirtual 140, 3) := by decide +kernel
theorem dX5_washed_25 : decode cX5_washed 25 = .ok (.ireturn, 1) := by decide +kernel
theorem dX5_carried_0 : decode cX5_carried 0 = .ok (.aload_n 0, 1) := by decide +kernel
theorem dX5_carried_1 : decode cX5_carried 1 = .ok (.iload_n 1, 1) := by decide +kernel
theorem dX5_carried_2 : decode cX5_carried 2 = .ok (.invokevirtual 105, 3) := by decide +kernel
theorem dX5_carried_5 : decode cX5_carried 5 = .ok (.ifCond .ne 5, 3) := by decide +kernel
theorem dX5_carried_8 : decode cX5_carried 8 = .ok (.iconst (-1), 1) := by decide +kernel
theorem dX5_carried_9 : decode cX5_carried 9 = .ok (.ireturn, 1) := by decide +kernel
theorem dX5_carried_10 : decode cX5_carried 10 = .ok (.iload_n 2, 1) := by decide +kernel
theorem dX5_carried_11 : decode cX5_carried 11 = .ok (.invokestatic 124, 3) := by decide +kernel
theorem dX5_carried_14 : decode cX5_carried 14 = .ok (.ifCond .eq 15, 3) := by decide +kernel
theorem dX5_carried_17 : decode cX5_carried 17 = .ok (.aload_n 0, 1) := by decide +kernel
theorem dX5_carried_18 : decode cX5_carried 18 = .ok (.getfield 42, 3) := by decide +kernel
theorem dX5_carried_21 : decode cX5_carried 21 = .ok (.iload_n 1, 1) := by decide +kernel
theorem dX5_carried_22 : decode cX5_carried 22 = .ok (.iload_n 2, 1) := by decide +kernel
theorem dX5_carried_23 : decode cX5_carried 23 = .ok (.invokevirtual 143, 3) := by decide +kernel
theorem dX5_carried_26 : decode cX5_carried 26 = .ok (.goto 5, 3) := by decide +kernel
theorem dX5_carried_29 : decode cX5_carried 29 = .ok (.bipush (-2), 2) := by decide +kernel
theorem dX5_carried_31 : decode cX5_carried 31 = .ok (.ireturn, 1) := by decide +kernel
theorem dX5_tide_0 : decode cX5_tide 0 = .ok (.aload_n 0, 1) := by decide +kernel
theorem dX5_tide_1 : decode cX5_tide 1 = .ok (.iload_n 1, 1) := by decide +kernel
theorem dX5_tide_2 : decode cX5_tide 2 = .ok (.invokestatic 124, 3) := by decide +kernel
theorem dX5_tide_5 : decode cX5_tide 5 = .ok (.invokevirtual 127, 3) := by decide +kernel
theorem dX5_tide_8 : decode cX5_tide 8 = .ok (.istore_n 2, 1) := by decide +kernel
theorem dX5_tide_9 : decode cX5_tide 9 = .ok (.iload_n 2, 1) := by decide +kernel
theorem dX5_tide_10 : decode cX5_tide 10 = .ok (.ifCond .eq 7, 3) := by decide +kernel
theorem dX5_tide_13 : decode cX5_tide 13 = .ok (.iload_n 2, 1) := by decide +kernel
theorem dX5_tide_14 : decode cX5_tide 14 = .ok (.goto 11, 3) := by decide +kernel
theorem dX5_tide_17 : decode cX5_tide 17 = .ok (.aload_n 0, 1) := by decide +kernel
theorem dX5_tide_18 : decode cX5_tide 18 = .ok (.getfield 42, 3) := by decide +kernel
theorem dX5_tide_21 : decode cX5_tide 21 = .ok (.iload_n 1, 1) := by decide +kernel
theorem dX5_tide_22 : decode cX5_tide 22 = .ok (.invokevirtual 147, 3) := by decide +kernel
theorem dX5_tide_25 : decode cX5_tide 25 = .ok (.ireturn, 1) := by decide +kernel
theorem dX5_ayes_0 : decode cX5_ayes 0 = .ok (.aload_n 0, 1) := by decide +kernel
theorem dX5_ayes_1 : decode cX5_ayes 1 = .ok (.iload_n 1, 1) := by decide +kernel
theorem dX5_ayes_2 : decode cX5_ayes 2 = .ok (.invokestatic 124, 3) := by decide +kernel
theorem dX5_ayes_5 : decode cX5_ayes 5 = .ok (.invokevirtual 127, 3) := by decide +kernel
theorem dX5_ayes_8 : decode cX5_ayes 8 = .ok (.istore_n 2, 1) := by decide +kernel
theorem dX5_ayes_9 : decode cX5_ayes 9 = .ok (.iload_n 2, 1) := by decide +kernel
theorem dX5_ayes_10 : decode cX5_ayes 10 = .ok (.ifCond .eq 7, 3) := by decide +kernel
theorem dX5_ayes_13 : decode cX5_ayes 13 = .ok (.iload_n 2, 1) := by decide +kernel
theorem dX5_ayes_14 : decode cX5_ayes 14 = .ok (.goto 11, 3) := by decide +kernel
theorem dX5_ayes_17 : decode cX5_ayes 17 = .ok (.aload_n 0, 1) := by decide +kernel
theorem dX5_ayes_18 : decode cX5_ayes 18 = .ok (.getfield 42, 3) := by decide +kernel
theorem dX5_ayes_21 : decode cX5_ayes 21 = .ok (.iload_n 1, 1) := by decide +kernel
theorem dX5_ayes_22 : decode cX5_ayes 22 = .ok (.invokevirtual 150, 3) := by decide +kernel
theorem dX5_ayes_25 : decode cX5_ayes 25 = .ok (.ireturn, 1) := by decide +kernel
theorem dX5_passes_0 : decode cX5_passes 0 = .ok (.aload_n 0, 1) := by decide +kernel
theorem dX5_passes_1 : decode cX5_passes 1 = .ok (.iload_n 1, 1) := by decide +kernel
theorem dX5_passes_2 : decode cX5_passes 2 = .ok (.invokestatic 124, 3) := by decide +kernel
theorem dX5_passes_5 : decode cX5_passes 5 = .ok (.invokevirtual 127, 3) := by decide +kernel
theorem dX5_passes_8 : decode cX5_passes 8 = .ok (.istore_n 2, 1) := by decide +kernel
theorem dX5_passes_9 : decode cX5_passes 9 = .ok (.iload_n 2, 1) := by decide +kernel
theorem dX5_passes_10 : decode cX5_passes 10 = .ok (.ifCond .eq 7, 3) := by decide +kernel
theorem dX5_passes_13 : decode cX5_passes 13 = .ok (.iload_n 2, 1) := by decide +kernel
theorem dX5_passes_14 : decode cX5_passes 14 = .ok (.goto 18, 3) := by decide +kernel
theorem dX5_passes_17 : decode cX5_passes 17 = .ok (.aload_n 0, 1) := by decide +kernel
theorem dX5_passes_18 : decode cX5_passes 18 = .ok (.getfield 42, 3) := by decide +kernel
theorem dX5_passes_21 : decode cX5_passes 21 = .ok (.aload_n 0, 1) := by decide +kernel
theorem dX5_passes_22 : decode cX5_passes 22 = .ok (.getfield 42, 3) := by decide +kernel
theorem dX5_passes_25 : decode cX5_passes 25 = .ok (.iload_n 1, 1) := by decide +kernel
theorem dX5_passes_26 : decode cX5_passes 26 = .ok (.invokevirtual 150, 3) := by decide +kernel
theorem dX5_passes_29 : decode cX5_passes 29 = .ok (.invokevirtual 153, 3) := by decide +kernel
theorem dX5_passes_32 : decode cX5_passes 32 = .ok (.ireturn, 1) := by decide +kernel
theorem dX5_law_0 : decode cX5_law 0 = .ok (.aload_n 0, 1) := by decide +kernel
theorem dX5_law_1 : decode cX5_law 1 = .ok (.iload_n 1, 1) := by decide +kernel
theorem dX5_law_2 : decode cX5_law 2 = .ok (.invokestatic 124, 3) := by decide +kernel
theorem dX5_law_5 : decode cX5_law 5 = .ok (.invokevirtual 127, 3) := by decide +kernel
theorem dX5_law_8 : decode cX5_law 8 = .ok (.istore_n 2, 1) := by decide +kernel
theorem dX5_law_9 : decode cX5_law 9 = .ok (.iload_n 2, 1) := by decide +kernel
theorem dX5_law_10 : decode cX5_law 10 = .ok (.ifCond .eq 7, 3) := by decide +kernel
theorem dX5_law_13 : decode cX5_law 13 = .ok (.iload_n 2, 1) := by decide +kernel
theorem dX5_law_14 : decode cX5_law 14 = .ok (.goto 21, 3) := by decide +kernel
theorem dX5_law_17 : decode cX5_law 17 = .ok (.aload_n 0, 1) := by decide +kernel
theorem dX5_law_18 : decode cX5_law 18 = .ok (.getfield 42, 3) := by decide +kernel
theorem dX5_law_21 : decode cX5_law 21 = .ok (.aload_n 0, 1) := by decide +kernel
theorem dX5_law_22 : decode cX5_law 22 = .ok (.getfield 42, 3) := by decide +kernel
theorem dX5_law_25 : decode cX5_law 25 = .ok (.iload_n 1, 1) := by decide +kernel
theorem dX5_law_26 : decode cX5_law 26 = .ok (.invokevirtual 150, 3) := by decide +kernel
theorem dX5_law_29 : decode cX5_law 29 = .ok (.invokevirtual 156, 3) := by decide +kernel
theorem dX5_law_32 : decode cX5_law 32 = .ok (.invokestatic 159, 3) := by decide +kernel
theorem dX5_law_35 : decode cX5_law 35 = .ok (.ireturn, 1) := by decide +kernel
theorem dX5_year_0 : decode cX5_year 0 = .ok (.aload_n 0, 1) := by decide +kernel
theorem dX5_year_1 : decode cX5_year 1 = .ok (.iload_n 1, 1) := by decide +kernel
theorem dX5_year_2 : decode cX5_year 2 = .ok (.iload_n 2, 1) := by decide +kernel
theorem dX5_year_3 : decode cX5_year 3 = .ok (.iload_n 3, 1) := by decide +kernel
theorem dX5_year_4 : decode cX5_year 4 = .ok (.iload 4, 2) := by decide +kernel
theorem dX5_year_6 : decode cX5_year 6 = .ok (.iload 5, 2) := by decide +kernel
theorem dX5_year_8 : decode cX5_year 8 = .ok (.invokestatic 162, 3) := by decide +kernel
theorem dX5_year_11 : decode cX5_year 11 = .ok (.invokevirtual 165, 3) := by decide +kernel
theorem dX5_year_14 : decode cX5_year 14 = .ok (.istore 6, 2) := by decide +kernel
theorem dX5_year_16 : decode cX5_year 16 = .ok (.iload 6, 2) := by decide +kernel
theorem dX5_year_18 : decode cX5_year 18 = .ok (.ifCond .eq 6, 3) := by decide +kernel
theorem dX5_year_21 : decode cX5_year 21 = .ok (.iload 6, 2) := by decide +kernel
theorem dX5_year_23 : decode cX5_year 23 = .ok (.ireturn, 1) := by decide +kernel
theorem dX5_year_24 : decode cX5_year 24 = .ok (.aload_n 0, 1) := by decide +kernel
theorem dX5_year_25 : decode cX5_year 25 = .ok (.getfield 13, 3) := by decide +kernel
theorem dX5_year_28 : decode cX5_year 28 = .ok (.iload_n 1, 1) := by decide +kernel
theorem dX5_year_29 : decode cX5_year 29 = .ok (.aaload, 1) := by decide +kernel
theorem dX5_year_30 : decode cX5_year 30 = .ok (.iload_n 3, 1) := by decide +kernel
theorem dX5_year_31 : decode cX5_year 31 = .ok (.iload 4, 2) := by decide +kernel
theorem dX5_year_33 : decode cX5_year 33 = .ok (.bipush 9, 2) := by decide +kernel
theorem dX5_year_35 : decode cX5_year 35 = .ok (.invokevirtual 169, 3) := by decide +kernel
theorem dX5_year_38 : decode cX5_year 38 = .ok (.ifCond .ne 6, 3) := by decide +kernel
theorem dX5_year_41 : decode cX5_year 41 = .ok (.bipush (-2), 2) := by decide +kernel
theorem dX5_year_43 : decode cX5_year 43 = .ok (.ireturn, 1) := by decide +kernel
theorem dX5_year_44 : decode cX5_year 44 = .ok (.aload_n 0, 1) := by decide +kernel
theorem dX5_year_45 : decode cX5_year 45 = .ok (.aload_n 0, 1) := by decide +kernel
theorem dX5_year_46 : decode cX5_year 46 = .ok (.getfield 13, 3) := by decide +kernel
theorem dX5_year_49 : decode cX5_year 49 = .ok (.iload_n 1, 1) := by decide +kernel
theorem dX5_year_50 : decode cX5_year 50 = .ok (.aaload, 1) := by decide +kernel
theorem dX5_year_51 : decode cX5_year 51 = .ok (.iload_n 3, 1) := by decide +kernel
theorem dX5_year_52 : decode cX5_year 52 = .ok (.iload 4, 2) := by decide +kernel
theorem dX5_year_54 : decode cX5_year 54 = .ok (.iload 5, 2) := by decide +kernel
theorem dX5_year_56 : decode cX5_year 56 = .ok (.invokevirtual 172, 3) := by decide +kernel
theorem dX5_year_59 : decode cX5_year 59 = .ok (.ireturn, 1) := by decide +kernel
theorem dX5_yearTold_0 : decode cX5_yearTold 0 = .ok (.aload_n 0, 1) := by decide +kernel
theorem dX5_yearTold_1 : decode cX5_yearTold 1 = .ok (.aload_n 1, 1) := by decide +kernel
theorem dX5_yearTold_2 : decode cX5_yearTold 2 = .ok (.iload_n 2, 1) := by decide +kernel
theorem dX5_yearTold_3 : decode cX5_yearTold 3 = .ok (.iload_n 3, 1) := by decide +kernel
theorem dX5_yearTold_4 : decode cX5_yearTold 4 = .ok (.invokevirtual 175, 3) := by decide +kernel
theorem dX5_yearTold_7 : decode cX5_yearTold 7 = .ok (.istore 5, 2) := by decide +kernel
theorem dX5_yearTold_9 : decode cX5_yearTold 9 = .ok (.iload 4, 2) := by decide +kernel
theorem dX5_yearTold_11 : decode cX5_yearTold 11 = .ok (.iconst 1, 1) := by decide +kernel
theorem dX5_yearTold_12 : decode cX5_yearTold 12 = .ok (.if_icmp .ne 6, 3) := by decide +kernel
theorem dX5_yearTold_15 : decode cX5_yearTold 15 = .ok (.iload 5, 2) := by decide +kernel
theorem dX5_yearTold_17 : decode cX5_yearTold 17 = .ok (.ireturn, 1) := by decide +kernel
theorem dX5_yearTold_18 : decode cX5_yearTold 18 = .ok (.iload 5, 2) := by decide +kernel
theorem dX5_yearTold_20 : decode cX5_yearTold 20 = .ok (.bipush (-9), 2) := by decide +kernel
theorem dX5_yearTold_22 : decode cX5_yearTold 22 = .ok (.if_icmp .eq 9, 3) := by decide +kernel
theorem dX5_yearTold_25 : decode cX5_yearTold 25 = .ok (.bipush (-100), 2) := by decide +kernel
theorem dX5_yearTold_27 : decode cX5_yearTold 27 = .ok (.iload 5, 2) := by decide +kernel
theorem dX5_yearTold_29 : decode cX5_yearTold 29 = .ok (.isub, 1) := by decide +kernel
theorem dX5_yearTold_30 : decode cX5_yearTold 30 = .ok (.ireturn, 1) := by decide +kernel
theorem dX5_yearTold_31 : decode cX5_yearTold 31 = .ok (.aload_n 0, 1) := by decide +kernel
theorem dX5_yearTold_32 : decode cX5_yearTold 32 = .ok (.getfield 46, 3) := by decide +kernel
theorem dX5_yearTold_35 : decode cX5_yearTold 35 = .ok (.aload_n 0, 1) := by decide +kernel
theorem dX5_yearTold_36 : decode cX5_yearTold 36 = .ok (.getfield 42, 3) := by decide +kernel
theorem dX5_yearTold_39 : decode cX5_yearTold 39 = .ok (.invokevirtual 179, 3) := by decide +kernel
theorem dX5_yearTold_42 : decode cX5_yearTold 42 = .ok (.iconst 0, 1) := by decide +kernel
theorem dX5_yearTold_43 : decode cX5_yearTold 43 = .ok (.istore 6, 2) := by decide +kernel
theorem dX5_yearTold_45 : decode cX5_yearTold 45 = .ok (.iconst 0, 1) := by decide +kernel
theorem dX5_yearTold_46 : decode cX5_yearTold 46 = .ok (.istore 7, 2) := by decide +kernel
theorem dX5_yearTold_48 : decode cX5_yearTold 48 = .ok (.iload 7, 2) := by decide +kernel
theorem dX5_yearTold_50 : decode cX5_yearTold 50 = .ok (.iload_n 3, 1) := by decide +kernel
theorem dX5_yearTold_51 : decode cX5_yearTold 51 = .ok (.if_icmp .ge 30, 3) := by decide +kernel
theorem dX5_yearTold_54 : decode cX5_yearTold 54 = .ok (.iload 6, 2) := by decide +kernel
theorem dX5_yearTold_56 : decode cX5_yearTold 56 = .ok (.aload_n 0, 1) := by decide +kernel
theorem dX5_yearTold_57 : decode cX5_yearTold 57 = .ok (.getfield 46, 3) := by decide +kernel
theorem dX5_yearTold_60 : decode cX5_yearTold 60 = .ok (.aload_n 1, 1) := by decide +kernel
theorem dX5_yearTold_61 : decode cX5_yearTold 61 = .ok (.getfield 183, 3) := by decide +kernel
theorem dX5_yearTold_64 : decode cX5_yearTold 64 = .ok (.iload_n 2, 1) := by decide +kernel
theorem dX5_yearTold_65 : decode cX5_yearTold 65 = .ok (.iload 7, 2) := by decide +kernel
theorem dX5_yearTold_67 : decode cX5_yearTold 67 = .ok (.iadd, 1) := by decide +kernel
theorem dX5_yearTold_68 : decode cX5_yearTold 68 = .ok (.iaload, 1) := by decide +kernel
theorem dX5_yearTold_69 : decode cX5_yearTold 69 = .ok (.invokevirtual 147, 3) := by decide +kernel
theorem dX5_yearTold_72 : decode cX5_yearTold 72 = .ok (.iadd, 1) := by decide +kernel
theorem dX5_yearTold_73 : decode cX5_yearTold 73 = .ok (.istore 6, 2) := by decide +kernel
theorem dX5_yearTold_75 : decode cX5_yearTold 75 = .ok (.iinc 7 1, 3) := by decide +kernel
theorem dX5_yearTold_78 : decode cX5_yearTold 78 = .ok (.goto (-30), 3) := by decide +kernel
theorem dX5_yearTold_81 : decode cX5_yearTold 81 = .ok (.iload 4, 2) := by decide +kernel
theorem dX5_yearTold_83 : decode cX5_yearTold 83 = .ok (.ifCond .ne 8, 3) := by decide +kernel
theorem dX5_yearTold_86 : decode cX5_yearTold 86 = .ok (.iload 6, 2) := by decide +kernel
theorem dX5_yearTold_88 : decode cX5_yearTold 88 = .ok (.goto 9, 3) := by decide +kernel
theorem dX5_yearTold_91 : decode cX5_yearTold 91 = .ok (.aload_n 0, 1) := by decide +kernel
theorem dX5_yearTold_92 : decode cX5_yearTold 92 = .ok (.iload 4, 2) := by decide +kernel
theorem dX5_yearTold_94 : decode cX5_yearTold 94 = .ok (.invokevirtual 186, 3) := by decide +kernel
theorem dX5_yearTold_97 : decode cX5_yearTold 97 = .ok (.ireturn, 1) := by decide +kernel
theorem dX5_firstWrong_0 : decode cX5_firstWrong 0 = .ok (.iconst 0, 1) := by decide +kernel
theorem dX5_firstWrong_1 : decode cX5_firstWrong 1 = .ok (.istore 4, 2) := by decide +kernel
theorem dX5_firstWrong_3 : decode cX5_firstWrong 3 = .ok (.iload 4, 2) := by decide +kernel
theorem dX5_firstWrong_5 : decode cX5_firstWrong 5 = .ok (.iload_n 3, 1) := by decide +kernel
theorem dX5_firstWrong_6 : decode cX5_firstWrong 6 = .ok (.if_icmp .ge 31, 3) := by decide +kernel
theorem dX5_firstWrong_9 : decode cX5_firstWrong 9 = .ok (.aload_n 0, 1) := by decide +kernel
theorem dX5_firstWrong_10 : decode cX5_firstWrong 10 = .ok (.getfield 42, 3) := by decide +kernel
theorem dX5_firstWrong_13 : decode cX5_firstWrong 13 = .ok (.aload_n 1, 1) := by decide +kernel
theorem dX5_firstWrong_14 : decode cX5_firstWrong 14 = .ok (.getfield 183, 3) := by decide +kernel
theorem dX5_firstWrong_17 : decode cX5_firstWrong 17 = .ok (.iload_n 2, 1) := by decide +kernel
theorem dX5_firstWrong_18 : decode cX5_firstWrong 18 = .ok (.iload 4, 2) := by decide +kernel
theorem dX5_firstWrong_20 : decode cX5_firstWrong 20 = .ok (.iadd, 1) := by decide +kernel
theorem dX5_firstWrong_21 : decode cX5_firstWrong 21 = .ok (.iaload, 1) := by decide +kernel
theorem dX5_firstWrong_22 : decode cX5_firstWrong 22 = .ok (.invokevirtual 140, 3) := by decide +kernel
theorem dX5_firstWrong_25 : decode cX5_firstWrong 25 = .ok (.ifCond .ne 6, 3) := by decide +kernel
theorem dX5_firstWrong_28 : decode cX5_firstWrong 28 = .ok (.iload 4, 2) := by decide +kernel
theorem dX5_firstWrong_30 : decode cX5_firstWrong 30 = .ok (.ireturn, 1) := by decide +kernel
theorem dX5_firstWrong_31 : decode cX5_firstWrong 31 = .ok (.iinc 4 1, 3) := by decide +kernel
theorem dX5_firstWrong_34 : decode cX5_firstWrong 34 = .ok (.goto (-31), 3) := by decide +kernel
theorem dX5_firstWrong_37 : decode cX5_firstWrong 37 = .ok (.bipush (-9), 2) := by decide +kernel
theorem dX5_firstWrong_39 : decode cX5_firstWrong 39 = .ok (.ireturn, 1) := by decide +kernel
theorem dX5_endOfYear_0 : decode cX5_endOfYear 0 = .ok (.iload_n 1, 1) := by decide +kernel
theorem dX5_endOfYear_1 : decode cX5_endOfYear 1 = .ok (.iconst 2, 1) := by decide +kernel
theorem dX5_endOfYear_2 : decode cX5_endOfYear 2 = .ok (.if_icmp .ne 11, 3) := by decide +kernel
theorem dX5_endOfYear_5 : decode cX5_endOfYear 5 = .ok (.aload_n 0, 1) := by decide +kernel
theorem dX5_endOfYear_6 : decode cX5_endOfYear 6 = .ok (.getfield 46, 3) := by decide +kernel
theorem dX5_endOfYear_9 : decode cX5_endOfYear 9 = .ok (.invokevirtual 189, 3) := by decide +kernel
theorem dX5_endOfYear_12 : decode cX5_endOfYear 12 = .ok (.ireturn, 1) := by decide +kernel
theorem dX5_endOfYear_13 : decode cX5_endOfYear 13 = .ok (.iload_n 1, 1) := by decide +kernel
theorem dX5_endOfYear_14 : decode cX5_endOfYear 14 = .ok (.iconst 3, 1) := by decide +kernel
theorem dX5_endOfYear_15 : decode cX5_endOfYear 15 = .ok (.if_icmp .ne 11, 3) := by decide +kernel
theorem dX5_endOfYear_18 : decode cX5_endOfYear 18 = .ok (.aload_n 0, 1) := by decide +kernel
theorem dX5_endOfYear_19 : decode cX5_endOfYear 19 = .ok (.getfield 46, 3) := by decide +kernel
theorem dX5_endOfYear_22 : decode cX5_endOfYear 22 = .ok (.invokevirtual 192, 3) := by decide +kernel
theorem dX5_endOfYear_25 : decode cX5_endOfYear 25 = .ok (.ireturn, 1) := by decide +kernel
theorem dX5_endOfYear_26 : decode cX5_endOfYear 26 = .ok (.iload_n 1, 1) := by decide +kernel
theorem dX5_endOfYear_27 : decode cX5_endOfYear 27 = .ok (.bipush 20, 2) := by decide +kernel
theorem dX5_endOfYear_29 : decode cX5_endOfYear 29 = .ok (.if_icmp .lt 25, 3) := by decide +kernel
theorem dX5_endOfYear_32 : decode cX5_endOfYear 32 = .ok (.aload_n 0, 1) := by decide +kernel
theorem dX5_endOfYear_33 : decode cX5_endOfYear 33 = .ok (.getfield 46, 3) := by decide +kernel
theorem dX5_endOfYear_36 : decode cX5_endOfYear 36 = .ok (.aload_n 0, 1) := by decide +kernel
theorem dX5_endOfYear_37 : decode cX5_endOfYear 37 = .ok (.getfield 46, 3) := by decide +kernel
theorem dX5_endOfYear_40 : decode cX5_endOfYear 40 = .ok (.iload_n 1, 1) := by decide +kernel
theorem dX5_endOfYear_41 : decode cX5_endOfYear 41 = .ok (.bipush 20, 2) := by decide +kernel
theorem dX5_endOfYear_43 : decode cX5_endOfYear 43 = .ok (.isub, 1) := by decide +kernel
theorem dX5_endOfYear_44 : decode cX5_endOfYear 44 = .ok (.invokevirtual 150, 3) := by decide +kernel
theorem dX5_endOfYear_47 : decode cX5_endOfYear 47 = .ok (.invokevirtual 156, 3) := by decide +kernel
theorem dX5_endOfYear_50 : decode cX5_endOfYear 50 = .ok (.invokestatic 159, 3) := by decide +kernel
theorem dX5_endOfYear_53 : decode cX5_endOfYear 53 = .ok (.ireturn, 1) := by decide +kernel
theorem dX5_endOfYear_54 : decode cX5_endOfYear 54 = .ok (.iload_n 1, 1) := by decide +kernel
theorem dX5_endOfYear_55 : decode cX5_endOfYear 55 = .ok (.bipush 10, 2) := by decide +kernel
theorem dX5_endOfYear_57 : decode cX5_endOfYear 57 = .ok (.isub, 1) := by decide +kernel
theorem dX5_endOfYear_58 : decode cX5_endOfYear 58 = .ok (.istore_n 2, 1) := by decide +kernel
theorem dX5_endOfYear_59 : decode cX5_endOfYear 59 = .ok (.aload_n 0, 1) := by decide +kernel
theorem dX5_endOfYear_60 : decode cX5_endOfYear 60 = .ok (.iload_n 2, 1) := by decide +kernel
theorem dX5_endOfYear_61 : decode cX5_endOfYear 61 = .ok (.invokevirtual 105, 3) := by decide +kernel
theorem dX5_endOfYear_64 : decode cX5_endOfYear 64 = .ok (.ifCond .eq 15, 3) := by decide +kernel
theorem dX5_endOfYear_67 : decode cX5_endOfYear 67 = .ok (.aload_n 0, 1) := by decide +kernel
theorem dX5_endOfYear_68 : decode cX5_endOfYear 68 = .ok (.getfield 46, 3) := by decide +kernel
theorem dX5_endOfYear_71 : decode cX5_endOfYear 71 = .ok (.getfield 111, 3) := by decide +kernel
theorem dX5_endOfYear_74 : decode cX5_endOfYear 74 = .ok (.iload_n 2, 1) := by decide +kernel
theorem dX5_endOfYear_75 : decode cX5_endOfYear 75 = .ok (.iaload, 1) := by decide +kernel
theorem dX5_endOfYear_76 : decode cX5_endOfYear 76 = .ok (.goto 5, 3) := by decide +kernel
theorem dX5_endOfYear_79 : decode cX5_endOfYear 79 = .ok (.bipush (-9), 2) := by decide +kernel
theorem dX5_endOfYear_81 : decode cX5_endOfYear 81 = .ok (.ireturn, 1) := by decide +kernel
theorem dX5_best_0 : decode cX5_best 0 = .ok (.aload_n 0, 1) := by decide +kernel
theorem dX5_best_1 : decode cX5_best 1 = .ok (.iload_n 1, 1) := by decide +kernel
theorem dX5_best_2 : decode cX5_best 2 = .ok (.iconst 0, 1) := by decide +kernel
theorem dX5_best_3 : decode cX5_best 3 = .ok (.iconst 1, 1) := by decide +kernel
theorem dX5_best_4 : decode cX5_best 4 = .ok (.invokestatic 120, 3) := by decide +kernel
theorem dX5_best_7 : decode cX5_best 7 = .ok (.invokevirtual 127, 3) := by decide +kernel
theorem dX5_best_10 : decode cX5_best 10 = .ok (.istore_n 2, 1) := by decide +kernel
theorem dX5_best_11 : decode cX5_best 11 = .ok (.iload_n 2, 1) := by decide +kernel
theorem dX5_best_12 : decode cX5_best 12 = .ok (.ifCond .eq 5, 3) := by decide +kernel
theorem dX5_best_15 : decode cX5_best 15 = .ok (.iload_n 2, 1) := by decide +kernel
theorem dX5_best_16 : decode cX5_best 16 = .ok (.ireturn, 1) := by decide +kernel
theorem dX5_best_17 : decode cX5_best 17 = .ok (.iconst 0, 1) := by decide +kernel
theorem dX5_best_18 : decode cX5_best 18 = .ok (.istore_n 3, 1) := by decide +kernel
theorem dX5_best_19 : decode cX5_best 19 = .ok (.iconst (-1), 1) := by decide +kernel
theorem dX5_best_20 : decode cX5_best 20 = .ok (.istore 4, 2) := by decide +kernel
theorem dX5_best_22 : decode cX5_best 22 = .ok (.iconst 0, 1) := by decide +kernel
theorem dX5_best_23 : decode cX5_best 23 = .ok (.istore 5, 2) := by decide +kernel
theorem dX5_best_25 : decode cX5_best 25 = .ok (.iload 5, 2) := by decide +kernel
theorem dX5_best_27 : decode cX5_best 27 = .ok (.bipush 9, 2) := by decide +kernel
theorem dX5_best_29 : decode cX5_best 29 = .ok (.if_icmp .gt 44, 3) := by decide +kernel
theorem dX5_best_32 : decode cX5_best 32 = .ok (.aload_n 0, 1) := by decide +kernel
theorem dX5_best_33 : decode cX5_best 33 = .ok (.getfield 42, 3) := by decide +kernel
theorem dX5_best_36 : decode cX5_best 36 = .ok (.aload_n 0, 1) := by decide +kernel
theorem dX5_best_37 : decode cX5_best 37 = .ok (.getfield 42, 3) := by decide +kernel
theorem dX5_best_40 : decode cX5_best 40 = .ok (.iload 5, 2) := by decide +kernel
theorem dX5_best_42 : decode cX5_best 42 = .ok (.invokevirtual 150, 3) := by decide +kernel
theorem dX5_best_45 : decode cX5_best 45 = .ok (.invokevirtual 153, 3) := by decide +kernel
theorem dX5_best_48 : decode cX5_best 48 = .ok (.invokestatic 195, 3) := by decide +kernel
theorem dX5_best_51 : decode cX5_best 51 = .ok (.istore 6, 2) := by decide +kernel
theorem dX5_best_53 : decode cX5_best 53 = .ok (.iload 6, 2) := by decide +kernel
theorem dX5_best_55 : decode cX5_best 55 = .ok (.iload 4, 2) := by decide +kernel
theorem dX5_best_57 : decode cX5_best 57 = .ok (.if_icmp .le 10, 3) := by decide +kernel
theorem dX5_best_60 : decode cX5_best 60 = .ok (.iload 5, 2) := by decide +kernel
theorem dX5_best_62 : decode cX5_best 62 = .ok (.istore_n 3, 1) := by decide +kernel
theorem dX5_best_63 : decode cX5_best 63 = .ok (.iload 6, 2) := by decide +kernel
theorem dX5_best_65 : decode cX5_best 65 = .ok (.istore 4, 2) := by decide +kernel
theorem dX5_best_67 : decode cX5_best 67 = .ok (.iinc 5 1, 3) := by decide +kernel
theorem dX5_best_70 : decode cX5_best 70 = .ok (.goto (-45), 3) := by decide +kernel
theorem dX5_best_73 : decode cX5_best 73 = .ok (.iload_n 1, 1) := by decide +kernel
theorem dX5_best_74 : decode cX5_best 74 = .ok (.ifCond .ne 7, 3) := by decide +kernel
theorem dX5_best_77 : decode cX5_best 77 = .ok (.iload_n 3, 1) := by decide +kernel
theorem dX5_best_78 : decode cX5_best 78 = .ok (.goto 5, 3) := by decide +kernel
theorem dX5_best_81 : decode cX5_best 81 = .ok (.iload 4, 2) := by decide +kernel
theorem dX5_best_83 : decode cX5_best 83 = .ok (.ireturn, 1) := by decide +kernel
theorem dX5_turn_0 : decode cX5_turn 0 = .ok (.aload_n 0, 1) := by decide +kernel
theorem dX5_turn_1 : decode cX5_turn 1 = .ok (.iload_n 1, 1) := by decide +kernel
theorem dX5_turn_2 : decode cX5_turn 2 = .ok (.invokestatic 124, 3) := by decide +kernel
theorem dX5_turn_5 : decode cX5_turn 5 = .ok (.invokevirtual 127, 3) := by decide +kernel
theorem dX5_turn_8 : decode cX5_turn 8 = .ok (.istore_n 2, 1) := by decide +kernel
theorem dX5_turn_9 : decode cX5_turn 9 = .ok (.iload_n 2, 1) := by decide +kernel
theorem dX5_turn_10 : decode cX5_turn 10 = .ok (.ifCond .eq 7, 3) := by decide +kernel
theorem dX5_turn_13 : decode cX5_turn 13 = .ok (.iload_n 2, 1) := by decide +kernel
theorem dX5_turn_14 : decode cX5_turn 14 = .ok (.goto 15, 3) := by decide +kernel
theorem dX5_turn_17 : decode cX5_turn 17 = .ok (.aload_n 0, 1) := by decide +kernel
theorem dX5_turn_18 : decode cX5_turn 18 = .ok (.aload_n 0, 1) := by decide +kernel
theorem dX5_turn_19 : decode cX5_turn 19 = .ok (.getfield 42, 3) := by decide +kernel
theorem dX5_turn_22 : decode cX5_turn 22 = .ok (.iload_n 1, 1) := by decide +kernel
theorem dX5_turn_23 : decode cX5_turn 23 = .ok (.invokevirtual 150, 3) := by decide +kernel
theorem dX5_turn_26 : decode cX5_turn 26 = .ok (.invokevirtual 200, 3) := by decide +kernel
theorem dX5_turn_29 : decode cX5_turn 29 = .ok (.ireturn, 1) := by decide +kernel
theorem dX5_fewestToTurn_0 : decode cX5_fewestToTurn 0 = .ok (.bipush (-9), 2) := by decide +kernel
theorem dX5_fewestToTurn_2 : decode cX5_fewestToTurn 2 = .ok (.istore_n 2, 1) := by decide +kernel
theorem dX5_fewestToTurn_3 : decode cX5_fewestToTurn 3 = .ok (.iconst 0, 1) := by decide +kernel
theorem dX5_fewestToTurn_4 : decode cX5_fewestToTurn 4 = .ok (.istore_n 3, 1) := by decide +kernel
theorem dX5_fewestToTurn_5 : decode cX5_fewestToTurn 5 = .ok (.iload_n 3, 1) := by decide +kernel
theorem dX5_fewestToTurn_6 : decode cX5_fewestToTurn 6 = .ok (.iconst 1, 1) := by decide +kernel
theorem dX5_fewestToTurn_7 : decode cX5_fewestToTurn 7 = .ok (.aload_n 0, 1) := by decide +kernel
theorem dX5_fewestToTurn_8 : decode cX5_fewestToTurn 8 = .ok (.getfield 42, 3) := by decide +kernel
theorem dX5_fewestToTurn_11 : decode cX5_fewestToTurn 11 = .ok (.getfield 86, 3) := by decide +kernel
theorem dX5_fewestToTurn_14 : decode cX5_fewestToTurn 14 = .ok (.ishl, 1) := by decide +kernel
theorem dX5_fewestToTurn_15 : decode cX5_fewestToTurn 15 = .ok (.if_icmp .ge 47, 3) := by decide +kernel
theorem dX5_fewestToTurn_18 : decode cX5_fewestToTurn 18 = .ok (.iload_n 3, 1) := by decide +kernel
theorem dX5_fewestToTurn_19 : decode cX5_fewestToTurn 19 = .ok (.iload_n 1, 1) := by decide +kernel
theorem dX5_fewestToTurn_20 : decode cX5_fewestToTurn 20 = .ok (.iand, 1) := by decide +kernel
theorem dX5_fewestToTurn_21 : decode cX5_fewestToTurn 21 = .ok (.ifCond .ne 35, 3) := by decide +kernel
theorem dX5_fewestToTurn_24 : decode cX5_fewestToTurn 24 = .ok (.aload_n 0, 1) := by decide +kernel
theorem dX5_fewestToTurn_25 : decode cX5_fewestToTurn 25 = .ok (.getfield 42, 3) := by decide +kernel
theorem dX5_fewestToTurn_28 : decode cX5_fewestToTurn 28 = .ok (.iload_n 3, 1) := by decide +kernel
theorem dX5_fewestToTurn_29 : decode cX5_fewestToTurn 29 = .ok (.iload_n 1, 1) := by decide +kernel
theorem dX5_fewestToTurn_30 : decode cX5_fewestToTurn 30 = .ok (.ior, 1) := by decide +kernel
theorem dX5_fewestToTurn_31 : decode cX5_fewestToTurn 31 = .ok (.invokevirtual 156, 3) := by decide +kernel
theorem dX5_fewestToTurn_34 : decode cX5_fewestToTurn 34 = .ok (.ifCond .eq 22, 3) := by decide +kernel
theorem dX5_fewestToTurn_37 : decode cX5_fewestToTurn 37 = .ok (.iload_n 2, 1) := by decide +kernel
theorem dX5_fewestToTurn_38 : decode cX5_fewestToTurn 38 = .ok (.bipush (-9), 2) := by decide +kernel
theorem dX5_fewestToTurn_40 : decode cX5_fewestToTurn 40 = .ok (.if_icmp .eq 14, 3) := by decide +kernel
theorem dX5_fewestToTurn_43 : decode cX5_fewestToTurn 43 = .ok (.iload_n 3, 1) := by decide +kernel
theorem dX5_fewestToTurn_44 : decode cX5_fewestToTurn 44 = .ok (.invokestatic 195, 3) := by decide +kernel
theorem dX5_fewestToTurn_47 : decode cX5_fewestToTurn 47 = .ok (.iload_n 2, 1) := by decide +kernel
theorem dX5_fewestToTurn_48 : decode cX5_fewestToTurn 48 = .ok (.invokestatic 195, 3) := by decide +kernel
theorem dX5_fewestToTurn_51 : decode cX5_fewestToTurn 51 = .ok (.if_icmp .ge 5, 3) := by decide +kernel
theorem dX5_fewestToTurn_54 : decode cX5_fewestToTurn 54 = .ok (.iload_n 3, 1) := by decide +kernel
theorem dX5_fewestToTurn_55 : decode cX5_fewestToTurn 55 = .ok (.istore_n 2, 1) := by decide +kernel
theorem dX5_fewestToTurn_56 : decode cX5_fewestToTurn 56 = .ok (.iinc 3 1, 3) := by decide +kernel
theorem dX5_fewestToTurn_59 : decode cX5_fewestToTurn 59 = .ok (.goto (-54), 3) := by decide +kernel
theorem dX5_fewestToTurn_62 : decode cX5_fewestToTurn 62 = .ok (.iload_n 2, 1) := by decide +kernel
theorem dX5_fewestToTurn_63 : decode cX5_fewestToTurn 63 = .ok (.ireturn, 1) := by decide +kernel
theorem dX5_drift_0 : decode cX5_drift 0 = .ok (.aload_n 0, 1) := by decide +kernel
theorem dX5_drift_1 : decode cX5_drift 1 = .ok (.iload_n 1, 1) := by decide +kernel
theorem dX5_drift_2 : decode cX5_drift 2 = .ok (.iload_n 2, 1) := by decide +kernel
theorem dX5_drift_3 : decode cX5_drift 3 = .ok (.iload_n 3, 1) := by decide +kernel
theorem dX5_drift_4 : decode cX5_drift 4 = .ok (.iload 4, 2) := by decide +kernel
theorem dX5_drift_6 : decode cX5_drift 6 = .ok (.iload 5, 2) := by decide +kernel
theorem dX5_drift_8 : decode cX5_drift 8 = .ok (.invokestatic 124, 3) := by decide +kernel
theorem dX5_drift_11 : decode cX5_drift 11 = .ok (.ifCond .eq 17, 3) := by decide +kernel
theorem dX5_drift_14 : decode cX5_drift 14 = .ok (.iload 6, 2) := by decide +kernel
theorem dX5_drift_16 : decode cX5_drift 16 = .ok (.iconst 0, 1) := by decide +kernel
theorem dX5_drift_17 : decode cX5_drift 17 = .ok (.iconst 1, 1) := by decide +kernel
theorem dX5_drift_18 : decode cX5_drift 18 = .ok (.invokestatic 120, 3) := by decide +kernel
theorem dX5_drift_21 : decode cX5_drift 21 = .ok (.ifCond .eq 7, 3) := by decide +kernel
theorem dX5_drift_24 : decode cX5_drift 24 = .ok (.iconst 1, 1) := by decide +kernel
theorem dX5_drift_25 : decode cX5_drift 25 = .ok (.goto 4, 3) := by decide +kernel
theorem dX5_drift_28 : decode cX5_drift 28 = .ok (.iconst 0, 1) := by decide +kernel
theorem dX5_drift_29 : decode cX5_drift 29 = .ok (.invokevirtual 165, 3) := by decide +kernel
theorem dX5_drift_32 : decode cX5_drift 32 = .ok (.istore 7, 2) := by decide +kernel
theorem dX5_drift_34 : decode cX5_drift 34 = .ok (.iload 7, 2) := by decide +kernel
theorem dX5_drift_36 : decode cX5_drift 36 = .ok (.ifCond .eq 6, 3) := by decide +kernel
theorem dX5_drift_39 : decode cX5_drift 39 = .ok (.iload 7, 2) := by decide +kernel
theorem dX5_drift_41 : decode cX5_drift 41 = .ok (.ireturn, 1) := by decide +kernel
theorem dX5_drift_42 : decode cX5_drift 42 = .ok (.aload_n 0, 1) := by decide +kernel
theorem dX5_drift_43 : decode cX5_drift 43 = .ok (.getfield 13, 3) := by decide +kernel
theorem dX5_drift_46 : decode cX5_drift 46 = .ok (.iload_n 1, 1) := by decide +kernel
theorem dX5_drift_47 : decode cX5_drift 47 = .ok (.aaload, 1) := by decide +kernel
theorem dX5_drift_48 : decode cX5_drift 48 = .ok (.iload_n 3, 1) := by decide +kernel
theorem dX5_drift_49 : decode cX5_drift 49 = .ok (.iload 4, 2) := by decide +kernel
theorem dX5_drift_51 : decode cX5_drift 51 = .ok (.aload_n 0, 1) := by decide +kernel
theorem dX5_drift_52 : decode cX5_drift 52 = .ok (.getfield 42, 3) := by decide +kernel
theorem dX5_drift_55 : decode cX5_drift 55 = .ok (.getfield 203, 3) := by decide +kernel
theorem dX5_drift_58 : decode cX5_drift 58 = .ok (.iconst 1, 1) := by decide +kernel
theorem dX5_drift_59 : decode cX5_drift 59 = .ok (.isub, 1) := by decide +kernel
theorem dX5_drift_60 : decode cX5_drift 60 = .ok (.invokevirtual 169, 3) := by decide +kernel
theorem dX5_drift_63 : decode cX5_drift 63 = .ok (.ifCond .ne 5, 3) := by decide +kernel
theorem dX5_drift_66 : decode cX5_drift 66 = .ok (.iconst (-1), 1) := by decide +kernel
theorem dX5_drift_67 : decode cX5_drift 67 = .ok (.ireturn, 1) := by decide +kernel
theorem dX5_drift_68 : decode cX5_drift 68 = .ok (.iload 6, 2) := by decide +kernel
theorem dX5_drift_70 : decode cX5_drift 70 = .ok (.ifCond .ne 21, 3) := by decide +kernel
theorem dX5_drift_73 : decode cX5_drift 73 = .ok (.aload_n 0, 1) := by decide +kernel
theorem dX5_drift_74 : decode cX5_drift 74 = .ok (.iload 5, 2) := by decide +kernel
theorem dX5_drift_76 : decode cX5_drift 76 = .ok (.aload_n 0, 1) := by decide +kernel
theorem dX5_drift_77 : decode cX5_drift 77 = .ok (.getfield 13, 3) := by decide +kernel
theorem dX5_drift_80 : decode cX5_drift 80 = .ok (.iload_n 1, 1) := by decide +kernel
theorem dX5_drift_81 : decode cX5_drift 81 = .ok (.aaload, 1) := by decide +kernel
theorem dX5_drift_82 : decode cX5_drift 82 = .ok (.iload_n 3, 1) := by decide +kernel
theorem dX5_drift_83 : decode cX5_drift 83 = .ok (.iload 4, 2) := by decide +kernel
theorem dX5_drift_85 : decode cX5_drift 85 = .ok (.invokevirtual 206, 3) := by decide +kernel
theorem dX5_drift_88 : decode cX5_drift 88 = .ok (.goto 18, 3) := by decide +kernel
theorem dX5_drift_91 : decode cX5_drift 91 = .ok (.aload_n 0, 1) := by decide +kernel
theorem dX5_drift_92 : decode cX5_drift 92 = .ok (.iload 5, 2) := by decide +kernel
theorem dX5_drift_94 : decode cX5_drift 94 = .ok (.aload_n 0, 1) := by decide +kernel
theorem dX5_drift_95 : decode cX5_drift 95 = .ok (.getfield 13, 3) := by decide +kernel
theorem dX5_drift_98 : decode cX5_drift 98 = .ok (.iload_n 1, 1) := by decide +kernel
theorem dX5_drift_99 : decode cX5_drift 99 = .ok (.aaload, 1) := by decide +kernel
theorem dX5_drift_100 : decode cX5_drift 100 = .ok (.iload_n 3, 1) := by decide +kernel
theorem dX5_drift_101 : decode cX5_drift 101 = .ok (.iload 4, 2) := by decide +kernel
theorem dX5_drift_103 : decode cX5_drift 103 = .ok (.invokevirtual 210, 3) := by decide +kernel
theorem dX5_drift_106 : decode cX5_drift 106 = .ok (.ireturn, 1) := by decide +kernel
theorem dX5_driftOf_0 : decode cX5_driftOf 0 = .ok (.iload_n 1, 1) := by decide +kernel
theorem dX5_driftOf_1 : decode cX5_driftOf 1 = .ok (.istore 5, 2) := by decide +kernel
theorem dX5_driftOf_3 : decode cX5_driftOf 3 = .ok (.iconst 0, 1) := by decide +kernel
theorem dX5_driftOf_4 : decode cX5_driftOf 4 = .ok (.istore 6, 2) := by decide +kernel
theorem dX5_driftOf_6 : decode cX5_driftOf 6 = .ok (.iload 6, 2) := by decide +kernel
theorem dX5_driftOf_8 : decode cX5_driftOf 8 = .ok (.iload 4, 2) := by decide +kernel
theorem dX5_driftOf_10 : decode cX5_driftOf 10 = .ok (.if_icmp .ge 29, 3) := by decide +kernel
theorem dX5_driftOf_13 : decode cX5_driftOf 13 = .ok (.aload_n 0, 1) := by decide +kernel
theorem dX5_driftOf_14 : decode cX5_driftOf 14 = .ok (.getfield 42, 3) := by decide +kernel
theorem dX5_driftOf_17 : decode cX5_driftOf 17 = .ok (.aload_n 2, 1) := by decide +kernel
theorem dX5_driftOf_18 : decode cX5_driftOf 18 = .ok (.getfield 183, 3) := by decide +kernel
theorem dX5_driftOf_21 : decode cX5_driftOf 21 = .ok (.iload_n 3, 1) := by decide +kernel
theorem dX5_driftOf_22 : decode cX5_driftOf 22 = .ok (.iload 6, 2) := by decide +kernel
theorem dX5_driftOf_24 : decode cX5_driftOf 24 = .ok (.iadd, 1) := by decide +kernel
theorem dX5_driftOf_25 : decode cX5_driftOf 25 = .ok (.iaload, 1) := by decide +kernel
theorem dX5_driftOf_26 : decode cX5_driftOf 26 = .ok (.iload 5, 2) := by decide +kernel
theorem dX5_driftOf_28 : decode cX5_driftOf 28 = .ok (.invokevirtual 213, 3) := by decide +kernel
theorem dX5_driftOf_31 : decode cX5_driftOf 31 = .ok (.istore 5, 2) := by decide +kernel
theorem dX5_driftOf_33 : decode cX5_driftOf 33 = .ok (.iinc 6 1, 3) := by decide +kernel
theorem dX5_driftOf_36 : decode cX5_driftOf 36 = .ok (.goto (-30), 3) := by decide +kernel
theorem dX5_driftOf_39 : decode cX5_driftOf 39 = .ok (.iload 5, 2) := by decide +kernel
theorem dX5_driftOf_41 : decode cX5_driftOf 41 = .ok (.ireturn, 1) := by decide +kernel
theorem dX5_originsOf_0 : decode cX5_originsOf 0 = .ok (.iconst 0, 1) := by decide +kernel
theorem dX5_originsOf_1 : decode cX5_originsOf 1 = .ok (.istore 5, 2) := by decide +kernel
theorem dX5_originsOf_3 : decode cX5_originsOf 3 = .ok (.iconst 0, 1) := by decide +kernel
theorem dX5_originsOf_4 : decode cX5_originsOf 4 = .ok (.istore 6, 2) := by decide +kernel
theorem dX5_originsOf_6 : decode cX5_originsOf 6 = .ok (.iload 6, 2) := by decide +kernel
theorem dX5_originsOf_8 : decode cX5_originsOf 8 = .ok (.bipush 9, 2) := by decide +kernel
theorem dX5_originsOf_10 : decode cX5_originsOf 10 = .ok (.if_icmp .gt 32, 3) := by decide +kernel
theorem dX5_originsOf_13 : decode cX5_originsOf 13 = .ok (.aload_n 0, 1) := by decide +kernel
theorem dX5_originsOf_14 : decode cX5_originsOf 14 = .ok (.iload 6, 2) := by decide +kernel
theorem dX5_originsOf_16 : decode cX5_originsOf 16 = .ok (.aload_n 2, 1) := by decide +kernel
theorem dX5_originsOf_17 : decode cX5_originsOf 17 = .ok (.iload_n 3, 1) := by decide +kernel
theorem dX5_originsOf_18 : decode cX5_originsOf 18 = .ok (.iload 4, 2) := by decide +kernel
theorem dX5_originsOf_20 : decode cX5_originsOf 20 = .ok (.invokevirtual 206, 3) := by decide +kernel
theorem dX5_originsOf_23 : decode cX5_originsOf 23 = .ok (.iload_n 1, 1) := by decide +kernel
theorem dX5_originsOf_24 : decode cX5_originsOf 24 = .ok (.if_icmp .ne 12, 3) := by decide +kernel
theorem dX5_originsOf_27 : decode cX5_originsOf 27 = .ok (.iload 5, 2) := by decide +kernel
theorem dX5_originsOf_29 : decode cX5_originsOf 29 = .ok (.iconst 1, 1) := by decide +kernel
theorem dX5_originsOf_30 : decode cX5_originsOf 30 = .ok (.iload 6, 2) := by decide +kernel
theorem dX5_originsOf_32 : decode cX5_originsOf 32 = .ok (.ishl, 1) := by decide +kernel
theorem dX5_originsOf_33 : decode cX5_originsOf 33 = .ok (.ior, 1) := by decide +kernel
theorem dX5_originsOf_34 : decode cX5_originsOf 34 = .ok (.istore 5, 2) := by decide +kernel
theorem dX5_originsOf_36 : decode cX5_originsOf 36 = .ok (.iinc 6 1, 3) := by decide +kernel
theorem dX5_originsOf_39 : decode cX5_originsOf 39 = .ok (.goto (-33), 3) := by decide +kernel
theorem dX5_originsOf_42 : decode cX5_originsOf 42 = .ok (.iload 5, 2) := by decide +kernel
theorem dX5_originsOf_44 : decode cX5_originsOf 44 = .ok (.ireturn, 1) := by decide +kernel
theorem dX5_leaps_0 : decode cX5_leaps 0 = .ok (.aload_n 0, 1) := by decide +kernel
theorem dX5_leaps_1 : decode cX5_leaps 1 = .ok (.iload_n 1, 1) := by decide +kernel
theorem dX5_leaps_2 : decode cX5_leaps 2 = .ok (.invokevirtual 89, 3) := by decide +kernel
theorem dX5_leaps_5 : decode cX5_leaps 5 = .ok (.ifCond .eq 11, 3) := by decide +kernel
theorem dX5_leaps_8 : decode cX5_leaps 8 = .ok (.aload_n 0, 1) := by decide +kernel
theorem dX5_leaps_9 : decode cX5_leaps 9 = .ok (.iload_n 2, 1) := by decide +kernel
theorem dX5_leaps_10 : decode cX5_leaps 10 = .ok (.invokevirtual 89, 3) := by decide +kernel
theorem dX5_leaps_13 : decode cX5_leaps 13 = .ok (.ifCond .ne 5, 3) := by decide +kernel
theorem dX5_leaps_16 : decode cX5_leaps 16 = .ok (.iconst (-1), 1) := by decide +kernel
theorem dX5_leaps_17 : decode cX5_leaps 17 = .ok (.ireturn, 1) := by decide +kernel
theorem dX5_leaps_18 : decode cX5_leaps 18 = .ok (.iload_n 3, 1) := by decide +kernel
theorem dX5_leaps_19 : decode cX5_leaps 19 = .ok (.iconst (-1), 1) := by decide +kernel
theorem dX5_leaps_20 : decode cX5_leaps 20 = .ok (.iconst 5, 1) := by decide +kernel
theorem dX5_leaps_21 : decode cX5_leaps 21 = .ok (.invokestatic 120, 3) := by decide +kernel
theorem dX5_leaps_24 : decode cX5_leaps 24 = .ok (.ifCond .ne 6, 3) := by decide +kernel
theorem dX5_leaps_27 : decode cX5_leaps 27 = .ok (.bipush (-2), 2) := by decide +kernel
theorem dX5_leaps_29 : decode cX5_leaps 29 = .ok (.ireturn, 1) := by decide +kernel
theorem dX5_leaps_30 : decode cX5_leaps 30 = .ok (.aload_n 0, 1) := by decide +kernel
theorem dX5_leaps_31 : decode cX5_leaps 31 = .ok (.invokevirtual 216, 3) := by decide +kernel
theorem dX5_leaps_34 : decode cX5_leaps 34 = .ok (.aload_n 0, 1) := by decide +kernel
theorem dX5_leaps_35 : decode cX5_leaps 35 = .ok (.getfield 35, 3) := by decide +kernel
theorem dX5_leaps_38 : decode cX5_leaps 38 = .ok (.iload_n 1, 1) := by decide +kernel
theorem dX5_leaps_39 : decode cX5_leaps 39 = .ok (.iload_n 2, 1) := by decide +kernel
theorem dX5_leaps_40 : decode cX5_leaps 40 = .ok (.invokevirtual 219, 3) := by decide +kernel
theorem dX5_leaps_43 : decode cX5_leaps 43 = .ok (.iload_n 3, 1) := by decide +kernel
theorem dX5_leaps_44 : decode cX5_leaps 44 = .ok (.ifCond .ne 17, 3) := by decide +kernel
theorem dX5_leaps_47 : decode cX5_leaps 47 = .ok (.aload_n 0, 1) := by decide +kernel
theorem dX5_leaps_48 : decode cX5_leaps 48 = .ok (.getfield 35, 3) := by decide +kernel
theorem dX5_leaps_51 : decode cX5_leaps 51 = .ok (.getfield 223, 3) := by decide +kernel
theorem dX5_leaps_54 : decode cX5_leaps 54 = .ok (.bipush (-9), 2) := by decide +kernel
theorem dX5_leaps_56 : decode cX5_leaps 56 = .ok (.if_icmp .eq 5, 3) := by decide +kernel
theorem dX5_leaps_59 : decode cX5_leaps 59 = .ok (.iload_n 1, 1) := by decide +kernel
theorem dX5_leaps_60 : decode cX5_leaps 60 = .ok (.ireturn, 1) := by decide +kernel
theorem dX5_leaps_61 : decode cX5_leaps 61 = .ok (.iload_n 3, 1) := by decide +kernel
theorem dX5_leaps_62 : decode cX5_leaps 62 = .ok (.ifCond .ge 13, 3) := by decide +kernel
theorem dX5_leaps_65 : decode cX5_leaps 65 = .ok (.aload_n 0, 1) := by decide +kernel
theorem dX5_leaps_66 : decode cX5_leaps 66 = .ok (.getfield 35, 3) := by decide +kernel
theorem dX5_leaps_69 : decode cX5_leaps 69 = .ok (.getfield 223, 3) := by decide +kernel
theorem dX5_leaps_72 : decode cX5_leaps 72 = .ok (.goto 13, 3) := by decide +kernel
theorem dX5_leaps_75 : decode cX5_leaps 75 = .ok (.aload_n 0, 1) := by decide +kernel
theorem dX5_leaps_76 : decode cX5_leaps 76 = .ok (.getfield 35, 3) := by decide +kernel
theorem dX5_leaps_79 : decode cX5_leaps 79 = .ok (.iload_n 3, 1) := by decide +kernel
theorem dX5_leaps_80 : decode cX5_leaps 80 = .ok (.iconst 1, 1) := by decide +kernel
theorem dX5_leaps_81 : decode cX5_leaps 81 = .ok (.isub, 1) := by decide +kernel
theorem dX5_leaps_82 : decode cX5_leaps 82 = .ok (.invokevirtual 226, 3) := by decide +kernel
theorem dX5_leaps_85 : decode cX5_leaps 85 = .ok (.ireturn, 1) := by decide +kernel
theorem dX5_layLeaps_0 : decode cX5_layLeaps 0 = .ok (.aload_n 0, 1) := by decide +kernel
theorem dX5_layLeaps_1 : decode cX5_layLeaps 1 = .ok (.getfield 35, 3) := by decide +kernel
theorem dX5_layLeaps_4 : decode cX5_layLeaps 4 = .ok (.aload_n 0, 1) := by decide +kernel
theorem dX5_layLeaps_5 : decode cX5_layLeaps 5 = .ok (.getfield 42, 3) := by decide +kernel
theorem dX5_layLeaps_8 : decode cX5_layLeaps 8 = .ok (.getfield 203, 3) := by decide +kernel
theorem dX5_layLeaps_11 : decode cX5_layLeaps 11 = .ok (.aload_n 0, 1) := by decide +kernel
theorem dX5_layLeaps_12 : decode cX5_layLeaps 12 = .ok (.getfield 42, 3) := by decide +kernel
theorem dX5_layLeaps_15 : decode cX5_layLeaps 15 = .ok (.getfield 203, 3) := by decide +kernel
theorem dX5_layLeaps_18 : decode cX5_layLeaps 18 = .ok (.invokevirtual 229, 3) := by decide +kernel
theorem dX5_layLeaps_21 : decode cX5_layLeaps 21 = .ok (.iconst 0, 1) := by decide +kernel
theorem dX5_layLeaps_22 : decode cX5_layLeaps 22 = .ok (.istore_n 1, 1) := by decide +kernel
theorem dX5_layLeaps_23 : decode cX5_layLeaps 23 = .ok (.iload_n 1, 1) := by decide +kernel
theorem dX5_layLeaps_24 : decode cX5_layLeaps 24 = .ok (.aload_n 0, 1) := by decide +kernel
theorem dX5_layLeaps_25 : decode cX5_layLeaps 25 = .ok (.getfield 42, 3) := by decide +kernel
theorem dX5_layLeaps_28 : decode cX5_layLeaps 28 = .ok (.getfield 203, 3) := by decide +kernel
theorem dX5_layLeaps_31 : decode cX5_layLeaps 31 = .ok (.if_icmp .ge 54, 3) := by decide +kernel
theorem dX5_layLeaps_34 : decode cX5_layLeaps 34 = .ok (.iconst 0, 1) := by decide +kernel
theorem dX5_layLeaps_35 : decode cX5_layLeaps 35 = .ok (.istore_n 2, 1) := by decide +kernel
theorem dX5_layLeaps_36 : decode cX5_layLeaps 36 = .ok (.iload_n 2, 1) := by decide +kernel
theorem dX5_layLeaps_37 : decode cX5_layLeaps 37 = .ok (.aload_n 0, 1) := by decide +kernel
theorem dX5_layLeaps_38 : decode cX5_layLeaps 38 = .ok (.getfield 42, 3) := by decide +kernel
theorem dX5_layLeaps_41 : decode cX5_layLeaps 41 = .ok (.getfield 203, 3) := by decide +kernel
theorem dX5_layLeaps_44 : decode cX5_layLeaps 44 = .ok (.if_icmp .ge 35, 3) := by decide +kernel
theorem dX5_layLeaps_47 : decode cX5_layLeaps 47 = .ok (.aload_n 0, 1) := by decide +kernel
theorem dX5_layLeaps_48 : decode cX5_layLeaps 48 = .ok (.getfield 35, 3) := by decide +kernel
theorem dX5_layLeaps_51 : decode cX5_layLeaps 51 = .ok (.iload_n 1, 1) := by decide +kernel
theorem dX5_layLeaps_52 : decode cX5_layLeaps 52 = .ok (.iload_n 2, 1) := by decide +kernel
theorem dX5_layLeaps_53 : decode cX5_layLeaps 53 = .ok (.aload_n 0, 1) := by decide +kernel
theorem dX5_layLeaps_54 : decode cX5_layLeaps 54 = .ok (.getfield 42, 3) := by decide +kernel
theorem dX5_layLeaps_57 : decode cX5_layLeaps 57 = .ok (.iload_n 1, 1) := by decide +kernel
theorem dX5_layLeaps_58 : decode cX5_layLeaps 58 = .ok (.iload_n 2, 1) := by decide +kernel
theorem dX5_layLeaps_59 : decode cX5_layLeaps 59 = .ok (.invokevirtual 231, 3) := by decide +kernel
theorem dX5_layLeaps_62 : decode cX5_layLeaps 62 = .ok (.ifCond .eq 7, 3) := by decide +kernel
theorem dX5_layLeaps_65 : decode cX5_layLeaps 65 = .ok (.iload_n 2, 1) := by decide +kernel
theorem dX5_layLeaps_66 : decode cX5_layLeaps 66 = .ok (.goto 4, 3) := by decide +kernel
theorem dX5_layLeaps_69 : decode cX5_layLeaps 69 = .ok (.iload_n 1, 1) := by decide +kernel
theorem dX5_layLeaps_70 : decode cX5_layLeaps 70 = .ok (.invokevirtual 235, 3) := by decide +kernel
theorem dX5_layLeaps_73 : decode cX5_layLeaps 73 = .ok (.iinc 2 1, 3) := by decide +kernel
theorem dX5_layLeaps_76 : decode cX5_layLeaps 76 = .ok (.goto (-40), 3) := by decide +kernel
theorem dX5_layLeaps_79 : decode cX5_layLeaps 79 = .ok (.iinc 1 1, 3) := by decide +kernel
theorem dX5_layLeaps_82 : decode cX5_layLeaps 82 = .ok (.goto (-59), 3) := by decide +kernel
theorem dX5_layLeaps_85 : decode cX5_layLeaps 85 = .ok (.return_, 1) := by decide +kernel
theorem dX5_elect_0 : decode cX5_elect 0 = .ok (.aload_n 0, 1) := by decide +kernel
theorem dX5_elect_1 : decode cX5_elect 1 = .ok (.iload_n 1, 1) := by decide +kernel
theorem dX5_elect_2 : decode cX5_elect 2 = .ok (.invokevirtual 105, 3) := by decide +kernel
theorem dX5_elect_5 : decode cX5_elect 5 = .ok (.ifCond .eq 11, 3) := by decide +kernel
theorem dX5_elect_8 : decode cX5_elect 8 = .ok (.aload_n 0, 1) := by decide +kernel
theorem dX5_elect_9 : decode cX5_elect 9 = .ok (.iload_n 2, 1) := by decide +kernel
theorem dX5_elect_10 : decode cX5_elect 10 = .ok (.invokevirtual 89, 3) := by decide +kernel
theorem dX5_elect_13 : decode cX5_elect 13 = .ok (.ifCond .ne 5, 3) := by decide +kernel
theorem dX5_elect_16 : decode cX5_elect 16 = .ok (.iconst (-1), 1) := by decide +kernel
theorem dX5_elect_17 : decode cX5_elect 17 = .ok (.ireturn, 1) := by decide +kernel
theorem dX5_elect_18 : decode cX5_elect 18 = .ok (.iload_n 3, 1) := by decide +kernel
theorem dX5_elect_19 : decode cX5_elect 19 = .ok (.iconst (-1), 1) := by decide +kernel
theorem dX5_elect_20 : decode cX5_elect 20 = .ok (.iconst 4, 1) := by decide +kernel
theorem dX5_elect_21 : decode cX5_elect 21 = .ok (.invokestatic 120, 3) := by decide +kernel
theorem dX5_elect_24 : decode cX5_elect 24 = .ok (.ifCond .ne 6, 3) := by decide +kernel
theorem dX5_elect_27 : decode cX5_elect 27 = .ok (.bipush (-2), 2) := by decide +kernel
theorem dX5_elect_29 : decode cX5_elect 29 = .ok (.ireturn, 1) := by decide +kernel
theorem dX5_elect_30 : decode cX5_elect 30 = .ok (.aload_n 0, 1) := by decide +kernel
theorem dX5_elect_31 : decode cX5_elect 31 = .ok (.aload_n 0, 1) := by decide +kernel
theorem dX5_elect_32 : decode cX5_elect 32 = .ok (.getfield 42, 3) := by decide +kernel
theorem dX5_elect_35 : decode cX5_elect 35 = .ok (.getfield 108, 3) := by decide +kernel
theorem dX5_elect_38 : decode cX5_elect 38 = .ok (.iload_n 1, 1) := by decide +kernel
theorem dX5_elect_39 : decode cX5_elect 39 = .ok (.iaload, 1) := by decide +kernel
theorem dX5_elect_40 : decode cX5_elect 40 = .ok (.invokevirtual 239, 3) := by decide +kernel
theorem dX5_elect_43 : decode cX5_elect 43 = .ok (.aload_n 0, 1) := by decide +kernel
theorem dX5_elect_44 : decode cX5_elect 44 = .ok (.getfield 35, 3) := by decide +kernel
theorem dX5_elect_47 : decode cX5_elect 47 = .ok (.aload_n 0, 1) := by decide +kernel
theorem dX5_elect_48 : decode cX5_elect 48 = .ok (.getfield 42, 3) := by decide +kernel
theorem dX5_elect_51 : decode cX5_elect 51 = .ok (.getfield 111, 3) := by decide +kernel
theorem dX5_elect_54 : decode cX5_elect 54 = .ok (.iload_n 1, 1) := by decide +kernel
theorem dX5_elect_55 : decode cX5_elect 55 = .ok (.iaload, 1) := by decide +kernel
theorem dX5_elect_56 : decode cX5_elect 56 = .ok (.iload_n 2, 1) := by decide +kernel
theorem dX5_elect_57 : decode cX5_elect 57 = .ok (.invokevirtual 219, 3) := by decide +kernel
theorem dX5_elect_60 : decode cX5_elect 60 = .ok (.iload_n 3, 1) := by decide +kernel
theorem dX5_elect_61 : decode cX5_elect 61 = .ok (.ifCond .ge 13, 3) := by decide +kernel
theorem dX5_elect_64 : decode cX5_elect 64 = .ok (.aload_n 0, 1) := by decide +kernel
theorem dX5_elect_65 : decode cX5_elect 65 = .ok (.getfield 35, 3) := by decide +kernel
theorem dX5_elect_68 : decode cX5_elect 68 = .ok (.getfield 223, 3) := by decide +kernel
theorem dX5_elect_71 : decode cX5_elect 71 = .ok (.goto 11, 3) := by decide +kernel
theorem dX5_elect_74 : decode cX5_elect 74 = .ok (.aload_n 0, 1) := by decide +kernel
theorem dX5_elect_75 : decode cX5_elect 75 = .ok (.getfield 35, 3) := by decide +kernel
theorem dX5_elect_78 : decode cX5_elect 78 = .ok (.iload_n 3, 1) := by decide +kernel
theorem dX5_elect_79 : decode cX5_elect 79 = .ok (.invokevirtual 226, 3) := by decide +kernel
theorem dX5_elect_82 : decode cX5_elect 82 = .ok (.ireturn, 1) := by decide +kernel
theorem dX5_layTides_0 : decode cX5_layTides 0 = .ok (.aload_n 0, 1) := by decide +kernel
theorem dX5_layTides_1 : decode cX5_layTides 1 = .ok (.getfield 35, 3) := by decide +kernel
theorem dX5_layTides_4 : decode cX5_layTides 4 = .ok (.aload_n 0, 1) := by decide +kernel
theorem dX5_layTides_5 : decode cX5_layTides 5 = .ok (.getfield 42, 3) := by decide +kernel
theorem dX5_layTides_8 : decode cX5_layTides 8 = .ok (.getfield 203, 3) := by decide +kernel
theorem dX5_layTides_11 : decode cX5_layTides 11 = .ok (.bipush 10, 2) := by decide +kernel
theorem dX5_layTides_13 : decode cX5_layTides 13 = .ok (.invokevirtual 229, 3) := by decide +kernel
theorem dX5_layTides_16 : decode cX5_layTides 16 = .ok (.iconst 0, 1) := by decide +kernel
theorem dX5_layTides_17 : decode cX5_layTides 17 = .ok (.istore_n 2, 1) := by decide +kernel
theorem dX5_layTides_18 : decode cX5_layTides 18 = .ok (.iload_n 2, 1) := by decide +kernel
theorem dX5_layTides_19 : decode cX5_layTides 19 = .ok (.aload_n 0, 1) := by decide +kernel
theorem dX5_layTides_20 : decode cX5_layTides 20 = .ok (.getfield 42, 3) := by decide +kernel
theorem dX5_layTides_23 : decode cX5_layTides 23 = .ok (.getfield 203, 3) := by decide +kernel
theorem dX5_layTides_26 : decode cX5_layTides 26 = .ok (.if_icmp .ge 42, 3) := by decide +kernel
theorem dX5_layTides_29 : decode cX5_layTides 29 = .ok (.iconst 0, 1) := by decide +kernel
theorem dX5_layTides_30 : decode cX5_layTides 30 = .ok (.istore_n 3, 1) := by decide +kernel
theorem dX5_layTides_31 : decode cX5_layTides 31 = .ok (.iload_n 3, 1) := by decide +kernel
theorem dX5_layTides_32 : decode cX5_layTides 32 = .ok (.bipush 9, 2) := by decide +kernel
theorem dX5_layTides_34 : decode cX5_layTides 34 = .ok (.if_icmp .gt 28, 3) := by decide +kernel
theorem dX5_layTides_37 : decode cX5_layTides 37 = .ok (.aload_n 0, 1) := by decide +kernel
theorem dX5_layTides_38 : decode cX5_layTides 38 = .ok (.getfield 35, 3) := by decide +kernel
theorem dX5_layTides_41 : decode cX5_layTides 41 = .ok (.iload_n 2, 1) := by decide +kernel
theorem dX5_layTides_42 : decode cX5_layTides 42 = .ok (.iload_n 3, 1) := by decide +kernel
theorem dX5_layTides_43 : decode cX5_layTides 43 = .ok (.aload_n 0, 1) := by decide +kernel
theorem dX5_layTides_44 : decode cX5_layTides 44 = .ok (.getfield 42, 3) := by decide +kernel
theorem dX5_layTides_47 : decode cX5_layTides 47 = .ok (.iload_n 2, 1) := by decide +kernel
theorem dX5_layTides_48 : decode cX5_layTides 48 = .ok (.iload_n 1, 1) := by decide +kernel
theorem dX5_layTides_49 : decode cX5_layTides 49 = .ok (.iload_n 3, 1) := by decide +kernel
theorem dX5_layTides_50 : decode cX5_layTides 50 = .ok (.invokevirtual 243, 3) := by decide +kernel
theorem dX5_layTides_53 : decode cX5_layTides 53 = .ok (.invokevirtual 235, 3) := by decide +kernel
theorem dX5_layTides_56 : decode cX5_layTides 56 = .ok (.iinc 3 1, 3) := by decide +kernel
theorem dX5_layTides_59 : decode cX5_layTides 59 = .ok (.goto (-28), 3) := by decide +kernel
theorem dX5_layTides_62 : decode cX5_layTides 62 = .ok (.iinc 2 1, 3) := by decide +kernel
theorem dX5_layTides_65 : decode cX5_layTides 65 = .ok (.goto (-47), 3) := by decide +kernel
theorem dX5_layTides_68 : decode cX5_layTides 68 = .ok (.return_, 1) := by decide +kernel
theorem dX5_reading_0 : decode cX5_reading 0 = .ok (.aload_n 0, 1) := by decide +kernel
theorem dX5_reading_1 : decode cX5_reading 1 = .ok (.iload_n 1, 1) := by decide +kernel
theorem dX5_reading_2 : decode cX5_reading 2 = .ok (.invokevirtual 105, 3) := by decide +kernel
theorem dX5_reading_5 : decode cX5_reading 5 = .ok (.ifCond .ne 5, 3) := by decide +kernel
theorem dX5_reading_8 : decode cX5_reading 8 = .ok (.iconst (-1), 1) := by decide +kernel
theorem dX5_reading_9 : decode cX5_reading 9 = .ok (.ireturn, 1) := by decide +kernel
theorem dX5_reading_10 : decode cX5_reading 10 = .ok (.iload_n 2, 1) := by decide +kernel
theorem dX5_reading_11 : decode cX5_reading 11 = .ok (.invokestatic 124, 3) := by decide +kernel
theorem dX5_reading_14 : decode cX5_reading 14 = .ok (.ifCond .ne 6, 3) := by decide +kernel
theorem dX5_reading_17 : decode cX5_reading 17 = .ok (.bipush (-2), 2) := by decide +kernel
theorem dX5_reading_19 : decode cX5_reading 19 = .ok (.ireturn, 1) := by decide +kernel
theorem dX5_reading_20 : decode cX5_reading 20 = .ok (.aload_n 0, 1) := by decide +kernel
theorem dX5_reading_21 : decode cX5_reading 21 = .ok (.iload_n 3, 1) := by decide +kernel
theorem dX5_reading_22 : decode cX5_reading 22 = .ok (.invokevirtual 89, 3) := by decide +kernel
theorem dX5_reading_25 : decode cX5_reading 25 = .ok (.ifCond .ne 5, 3) := by decide +kernel
theorem dX5_reading_28 : decode cX5_reading 28 = .ok (.iconst (-1), 1) := by decide +kernel
theorem dX5_reading_29 : decode cX5_reading 29 = .ok (.ireturn, 1) := by decide +kernel
theorem dX5_reading_30 : decode cX5_reading 30 = .ok (.aload_n 0, 1) := by decide +kernel
theorem dX5_reading_31 : decode cX5_reading 31 = .ok (.getfield 28, 3) := by decide +kernel
theorem dX5_reading_34 : decode cX5_reading 34 = .ok (.getfield 83, 3) := by decide +kernel
theorem dX5_reading_37 : decode cX5_reading 37 = .ok (.bipush 8, 2) := by decide +kernel
theorem dX5_reading_39 : decode cX5_reading 39 = .ok (.if_icmp .ge 16, 3) := by decide +kernel
theorem dX5_reading_42 : decode cX5_reading 42 = .ok (.aload_n 0, 1) := by decide +kernel
theorem dX5_reading_43 : decode cX5_reading 43 = .ok (.getfield 28, 3) := by decide +kernel
theorem dX5_reading_46 : decode cX5_reading 46 = .ok (.iload_n 1, 1) := by decide +kernel
theorem dX5_reading_47 : decode cX5_reading 47 = .ok (.iload_n 2, 1) := by decide +kernel
theorem dX5_reading_48 : decode cX5_reading 48 = .ok (.iload_n 3, 1) := by decide +kernel
theorem dX5_reading_49 : decode cX5_reading 49 = .ok (.invokevirtual 247, 3) := by decide +kernel
theorem dX5_reading_52 : decode cX5_reading 52 = .ok (.goto 5, 3) := by decide +kernel
theorem dX5_reading_55 : decode cX5_reading 55 = .ok (.bipush (-4), 2) := by decide +kernel
theorem dX5_reading_57 : decode cX5_reading 57 = .ok (.ireturn, 1) := by decide +kernel
theorem dX5_back_0 : decode cX5_back 0 = .ok (.iload_n 1, 1) := by decide +kernel
theorem dX5_back_1 : decode cX5_back 1 = .ok (.iconst 0, 1) := by decide +kernel
theorem dX5_back_2 : decode cX5_back 2 = .ok (.aload_n 0, 1) := by decide +kernel
theorem dX5_back_3 : decode cX5_back 3 = .ok (.getfield 28, 3) := by decide +kernel
theorem dX5_back_6 : decode cX5_back 6 = .ok (.getfield 83, 3) := by decide +kernel
theorem dX5_back_9 : decode cX5_back 9 = .ok (.invokestatic 120, 3) := by decide +kernel
theorem dX5_back_12 : decode cX5_back 12 = .ok (.ifCond .ne 6, 3) := by decide +kernel
theorem dX5_back_15 : decode cX5_back 15 = .ok (.bipush (-2), 2) := by decide +kernel
theorem dX5_back_17 : decode cX5_back 17 = .ok (.ireturn, 1) := by decide +kernel
theorem dX5_back_18 : decode cX5_back 18 = .ok (.aload_n 0, 1) := by decide +kernel
theorem dX5_back_19 : decode cX5_back 19 = .ok (.getfield 28, 3) := by decide +kernel
theorem dX5_back_22 : decode cX5_back 22 = .ok (.dup, 1) := by decide +kernel
theorem dX5_back_23 : decode cX5_back 23 = .ok (.getfield 83, 3) := by decide +kernel
theorem dX5_back_26 : decode cX5_back 26 = .ok (.iload_n 1, 1) := by decide +kernel
theorem dX5_back_27 : decode cX5_back 27 = .ok (.isub, 1) := by decide +kernel
theorem dX5_back_28 : decode cX5_back 28 = .ok (.putfield 83, 3) := by decide +kernel
theorem dX5_back_31 : decode cX5_back 31 = .ok (.aload_n 0, 1) := by decide +kernel
theorem dX5_back_32 : decode cX5_back 32 = .ok (.getfield 28, 3) := by decide +kernel
theorem dX5_back_35 : decode cX5_back 35 = .ok (.getfield 83, 3) := by decide +kernel
theorem dX5_back_38 : decode cX5_back 38 = .ok (.ireturn, 1) := by decide +kernel
theorem dX5_heights_0 : decode cX5_heights 0 = .ok (.aload_n 0, 1) := by decide +kernel
theorem dX5_heights_1 : decode cX5_heights 1 = .ok (.iload_n 1, 1) := by decide +kernel
theorem dX5_heights_2 : decode cX5_heights 2 = .ok (.invokevirtual 89, 3) := by decide +kernel
theorem dX5_heights_5 : decode cX5_heights 5 = .ok (.ifCond .ne 5, 3) := by decide +kernel
theorem dX5_heights_8 : decode cX5_heights 8 = .ok (.iconst (-1), 1) := by decide +kernel
theorem dX5_heights_9 : decode cX5_heights 9 = .ok (.ireturn, 1) := by decide +kernel
theorem dX5_heights_10 : decode cX5_heights 10 = .ok (.aload_n 0, 1) := by decide +kernel
theorem dX5_heights_11 : decode cX5_heights 11 = .ok (.getfield 46, 3) := by decide +kernel
theorem dX5_heights_14 : decode cX5_heights 14 = .ok (.aload_n 0, 1) := by decide +kernel
theorem dX5_heights_15 : decode cX5_heights 15 = .ok (.getfield 42, 3) := by decide +kernel
theorem dX5_heights_18 : decode cX5_heights 18 = .ok (.invokevirtual 179, 3) := by decide +kernel
theorem dX5_heights_21 : decode cX5_heights 21 = .ok (.iconst 0, 1) := by decide +kernel
theorem dX5_heights_22 : decode cX5_heights 22 = .ok (.istore_n 2, 1) := by decide +kernel
theorem dX5_heights_23 : decode cX5_heights 23 = .ok (.iconst 1, 1) := by decide +kernel
theorem dX5_heights_24 : decode cX5_heights 24 = .ok (.istore_n 3, 1) := by decide +kernel
theorem dX5_heights_25 : decode cX5_heights 25 = .ok (.iload_n 3, 1) := by decide +kernel
theorem dX5_heights_26 : decode cX5_heights 26 = .ok (.bipush 9, 2) := by decide +kernel
theorem dX5_heights_28 : decode cX5_heights 28 = .ok (.if_icmp .gt 43, 3) := by decide +kernel
theorem dX5_heights_31 : decode cX5_heights 31 = .ok (.aload_n 0, 1) := by decide +kernel
theorem dX5_heights_32 : decode cX5_heights 32 = .ok (.getfield 46, 3) := by decide +kernel
theorem dX5_heights_35 : decode cX5_heights 35 = .ok (.getfield 92, 3) := by decide +kernel
theorem dX5_heights_38 : decode cX5_heights 38 = .ok (.iload_n 1, 1) := by decide +kernel
theorem dX5_heights_39 : decode cX5_heights 39 = .ok (.iload_n 3, 1) := by decide +kernel
theorem dX5_heights_40 : decode cX5_heights 40 = .ok (.iastore, 1) := by decide +kernel
theorem dX5_heights_41 : decode cX5_heights 41 = .ok (.iload_n 2, 1) := by decide +kernel
theorem dX5_heights_42 : decode cX5_heights 42 = .ok (.aload_n 0, 1) := by decide +kernel
theorem dX5_heights_43 : decode cX5_heights 43 = .ok (.getfield 28, 3) := by decide +kernel
theorem dX5_heights_46 : decode cX5_heights 46 = .ok (.aload_n 0, 1) := by decide +kernel
theorem dX5_heights_47 : decode cX5_heights 47 = .ok (.getfield 46, 3) := by decide +kernel
theorem dX5_heights_50 : decode cX5_heights 50 = .ok (.invokevirtual 250, 3) := by decide +kernel
theorem dX5_heights_53 : decode cX5_heights 53 = .ok (.ifCond .eq 9, 3) := by decide +kernel
theorem dX5_heights_56 : decode cX5_heights 56 = .ok (.iconst 1, 1) := by decide +kernel
theorem dX5_heights_57 : decode cX5_heights 57 = .ok (.iload_n 3, 1) := by decide +kernel
theorem dX5_heights_58 : decode cX5_heights 58 = .ok (.ishl, 1) := by decide +kernel
theorem dX5_heights_59 : decode cX5_heights 59 = .ok (.goto 4, 3) := by decide +kernel
theorem dX5_heights_62 : decode cX5_heights 62 = .ok (.iconst 0, 1) := by decide +kernel
theorem dX5_heights_63 : decode cX5_heights 63 = .ok (.ior, 1) := by decide +kernel
theorem dX5_heights_64 : decode cX5_heights 64 = .ok (.istore_n 2, 1) := by decide +kernel
theorem dX5_heights_65 : decode cX5_heights 65 = .ok (.iinc 3 1, 3) := by decide +kernel
theorem dX5_heights_68 : decode cX5_heights 68 = .ok (.goto (-43), 3) := by decide +kernel
theorem dX5_heights_71 : decode cX5_heights 71 = .ok (.iload_n 2, 1) := by decide +kernel
theorem dX5_heights_72 : decode cX5_heights 72 = .ok (.ireturn, 1) := by decide +kernel
theorem dX5_kinds_0 : decode cX5_kinds 0 = .ok (.aload_n 0, 1) := by decide +kernel
theorem dX5_kinds_1 : decode cX5_kinds 1 = .ok (.iload_n 1, 1) := by decide +kernel
theorem dX5_kinds_2 : decode cX5_kinds 2 = .ok (.invokevirtual 105, 3) := by decide +kernel
theorem dX5_kinds_5 : decode cX5_kinds 5 = .ok (.ifCond .ne 5, 3) := by decide +kernel
theorem dX5_kinds_8 : decode cX5_kinds 8 = .ok (.iconst (-1), 1) := by decide +kernel
theorem dX5_kinds_9 : decode cX5_kinds 9 = .ok (.ireturn, 1) := by decide +kernel
theorem dX5_kinds_10 : decode cX5_kinds 10 = .ok (.aload_n 0, 1) := by decide +kernel
theorem dX5_kinds_11 : decode cX5_kinds 11 = .ok (.getfield 46, 3) := by decide +kernel
theorem dX5_kinds_14 : decode cX5_kinds 14 = .ok (.aload_n 0, 1) := by decide +kernel
theorem dX5_kinds_15 : decode cX5_kinds 15 = .ok (.getfield 42, 3) := by decide +kernel
theorem dX5_kinds_18 : decode cX5_kinds 18 = .ok (.invokevirtual 179, 3) := by decide +kernel
theorem dX5_kinds_21 : decode cX5_kinds 21 = .ok (.iconst 0, 1) := by decide +kernel
theorem dX5_kinds_22 : decode cX5_kinds 22 = .ok (.istore_n 2, 1) := by decide +kernel
theorem dX5_kinds_23 : decode cX5_kinds 23 = .ok (.iconst 0, 1) := by decide +kernel
theorem dX5_kinds_24 : decode cX5_kinds 24 = .ok (.istore_n 3, 1) := by decide +kernel
theorem dX5_kinds_25 : decode cX5_kinds 25 = .ok (.iload_n 3, 1) := by decide +kernel
theorem dX5_kinds_26 : decode cX5_kinds 26 = .ok (.iconst 2, 1) := by decide +kernel
theorem dX5_kinds_27 : decode cX5_kinds 27 = .ok (.if_icmp .gt 43, 3) := by decide +kernel
theorem dX5_kinds_30 : decode cX5_kinds 30 = .ok (.aload_n 0, 1) := by decide +kernel
theorem dX5_kinds_31 : decode cX5_kinds 31 = .ok (.getfield 46, 3) := by decide +kernel
theorem dX5_kinds_34 : decode cX5_kinds 34 = .ok (.getfield 108, 3) := by decide +kernel
theorem dX5_kinds_37 : decode cX5_kinds 37 = .ok (.iload_n 1, 1) := by decide +kernel
theorem dX5_kinds_38 : decode cX5_kinds 38 = .ok (.iload_n 3, 1) := by decide +kernel
theorem dX5_kinds_39 : decode cX5_kinds 39 = .ok (.iastore, 1) := by decide +kernel
theorem dX5_kinds_40 : decode cX5_kinds 40 = .ok (.iload_n 2, 1) := by decide +kernel
theorem dX5_kinds_41 : decode cX5_kinds 41 = .ok (.aload_n 0, 1) := by decide +kernel
theorem dX5_kinds_42 : decode cX5_kinds 42 = .ok (.getfield 28, 3) := by decide +kernel
theorem dX5_kinds_45 : decode cX5_kinds 45 = .ok (.aload_n 0, 1) := by decide +kernel
theorem dX5_kinds_46 : decode cX5_kinds 46 = .ok (.getfield 46, 3) := by decide +kernel
theorem dX5_kinds_49 : decode cX5_kinds 49 = .ok (.invokevirtual 250, 3) := by decide +kernel
theorem dX5_kinds_52 : decode cX5_kinds 52 = .ok (.ifCond .eq 9, 3) := by decide +kernel
theorem dX5_kinds_55 : decode cX5_kinds 55 = .ok (.iconst 1, 1) := by decide +kernel
theorem dX5_kinds_56 : decode cX5_kinds 56 = .ok (.iload_n 3, 1) := by decide +kernel
theorem dX5_kinds_57 : decode cX5_kinds 57 = .ok (.ishl, 1) := by decide +kernel
theorem dX5_kinds_58 : decode cX5_kinds 58 = .ok (.goto 4, 3) := by decide +kernel
theorem dX5_kinds_61 : decode cX5_kinds 61 = .ok (.iconst 0, 1) := by decide +kernel
theorem dX5_kinds_62 : decode cX5_kinds 62 = .ok (.ior, 1) := by decide +kernel
theorem dX5_kinds_63 : decode cX5_kinds 63 = .ok (.istore_n 2, 1) := by decide +kernel
theorem dX5_kinds_64 : decode cX5_kinds 64 = .ok (.iinc 3 1, 3) := by decide +kernel
theorem dX5_kinds_67 : decode cX5_kinds 67 = .ok (.goto (-42), 3) := by decide +kernel
theorem dX5_kinds_70 : decode cX5_kinds 70 = .ok (.iload_n 2, 1) := by decide +kernel
theorem dX5_kinds_71 : decode cX5_kinds 71 = .ok (.ireturn, 1) := by decide +kernel
theorem dX5_streams_0 : decode cX5_streams 0 = .ok (.aload_n 0, 1) := by decide +kernel
theorem dX5_streams_1 : decode cX5_streams 1 = .ok (.invokevirtual 254, 3) := by decide +kernel
theorem dX5_streams_4 : decode cX5_streams 4 = .ok (.ifCond .ne 6, 3) := by decide +kernel
theorem dX5_streams_7 : decode cX5_streams 7 = .ok (.bipush (-3), 2) := by decide +kernel
theorem dX5_streams_9 : decode cX5_streams 9 = .ok (.ireturn, 1) := by decide +kernel
theorem dX5_streams_10 : decode cX5_streams 10 = .ok (.aload_n 0, 1) := by decide +kernel
theorem dX5_streams_11 : decode cX5_streams 11 = .ok (.getfield 46, 3) := by decide +kernel
theorem dX5_streams_14 : decode cX5_streams 14 = .ok (.aload_n 0, 1) := by decide +kernel
theorem dX5_streams_15 : decode cX5_streams 15 = .ok (.getfield 42, 3) := by decide +kernel
theorem dX5_streams_18 : decode cX5_streams 18 = .ok (.invokevirtual 179, 3) := by decide +kernel
theorem dX5_streams_21 : decode cX5_streams 21 = .ok (.iconst 0, 1) := by decide +kernel
theorem dX5_streams_22 : decode cX5_streams 22 = .ok (.istore_n 1, 1) := by decide +kernel
theorem dX5_streams_23 : decode cX5_streams 23 = .ok (.iconst 1, 1) := by decide +kernel
theorem dX5_streams_24 : decode cX5_streams 24 = .ok (.istore_n 2, 1) := by decide +kernel
theorem dX5_streams_25 : decode cX5_streams 25 = .ok (.iload_n 2, 1) := by decide +kernel
theorem dX5_streams_26 : decode cX5_streams 26 = .ok (.iconst 3, 1) := by decide +kernel
theorem dX5_streams_27 : decode cX5_streams 27 = .ok (.if_icmp .gt 41, 3) := by decide +kernel
theorem dX5_streams_30 : decode cX5_streams 30 = .ok (.aload_n 0, 1) := by decide +kernel
theorem dX5_streams_31 : decode cX5_streams 31 = .ok (.getfield 46, 3) := by decide +kernel
theorem dX5_streams_34 : decode cX5_streams 34 = .ok (.iload_n 2, 1) := by decide +kernel
theorem dX5_streams_35 : decode cX5_streams 35 = .ok (.putfield 131, 3) := by decide +kernel
theorem dX5_streams_38 : decode cX5_streams 38 = .ok (.iload_n 1, 1) := by decide +kernel
theorem dX5_streams_39 : decode cX5_streams 39 = .ok (.aload_n 0, 1) := by decide +kernel
theorem dX5_streams_40 : decode cX5_streams 40 = .ok (.getfield 28, 3) := by decide +kernel
theorem dX5_streams_43 : decode cX5_streams 43 = .ok (.aload_n 0, 1) := by decide +kernel
theorem dX5_streams_44 : decode cX5_streams 44 = .ok (.getfield 46, 3) := by decide +kernel
theorem dX5_streams_47 : decode cX5_streams 47 = .ok (.invokevirtual 250, 3) := by decide +kernel
theorem dX5_streams_50 : decode cX5_streams 50 = .ok (.ifCond .eq 9, 3) := by decide +kernel
theorem dX5_streams_53 : decode cX5_streams 53 = .ok (.iconst 1, 1) := by decide +kernel
theorem dX5_streams_54 : decode cX5_streams 54 = .ok (.iload_n 2, 1) := by decide +kernel
theorem dX5_streams_55 : decode cX5_streams 55 = .ok (.ishl, 1) := by decide +kernel
theorem dX5_streams_56 : decode cX5_streams 56 = .ok (.goto 4, 3) := by decide +kernel
theorem dX5_streams_59 : decode cX5_streams 59 = .ok (.iconst 0, 1) := by decide +kernel
theorem dX5_streams_60 : decode cX5_streams 60 = .ok (.ior, 1) := by decide +kernel
theorem dX5_streams_61 : decode cX5_streams 61 = .ok (.istore_n 1, 1) := by decide +kernel
theorem dX5_streams_62 : decode cX5_streams 62 = .ok (.iinc 2 1, 3) := by decide +kernel
theorem dX5_streams_65 : decode cX5_streams 65 = .ok (.goto (-40), 3) := by decide +kernel
theorem dX5_streams_68 : decode cX5_streams 68 = .ok (.iload_n 1, 1) := by decide +kernel
theorem dX5_streams_69 : decode cX5_streams 69 = .ok (.ireturn, 1) := by decide +kernel
theorem dX5_odds_0 : decode cX5_odds 0 = .ok (.aload_n 0, 1) := by decide +kernel
theorem dX5_odds_1 : decode cX5_odds 1 = .ok (.iload_n 1, 1) := by decide +kernel
theorem dX5_odds_2 : decode cX5_odds 2 = .ok (.invokevirtual 105, 3) := by decide +kernel
theorem dX5_odds_5 : decode cX5_odds 5 = .ok (.ifCond .eq 20, 3) := by decide +kernel
theorem dX5_odds_8 : decode cX5_odds 8 = .ok (.aload_n 0, 1) := by decide +kernel
theorem dX5_odds_9 : decode cX5_odds 9 = .ok (.iload_n 2, 1) := by decide +kernel
theorem dX5_odds_10 : decode cX5_odds 10 = .ok (.invokevirtual 89, 3) := by decide +kernel
theorem dX5_odds_13 : decode cX5_odds 13 = .ok (.ifCond .eq 12, 3) := by decide +kernel
theorem dX5_odds_16 : decode cX5_odds 16 = .ok (.iload_n 3, 1) := by decide +kernel
theorem dX5_odds_17 : decode cX5_odds 17 = .ok (.iconst 0, 1) := by decide +kernel
theorem dX5_odds_18 : decode cX5_odds 18 = .ok (.iconst 1, 1) := by decide +kernel
theorem dX5_odds_19 : decode cX5_odds 19 = .ok (.invokestatic 120, 3) := by decide +kernel
theorem dX5_odds_22 : decode cX5_odds 22 = .ok (.ifCond .ne 7, 3) := by decide +kernel
theorem dX5_odds_25 : decode cX5_odds 25 = .ok (.ldc2_w 258, 3) := by decide +kernel
theorem dX5_odds_28 : decode cX5_odds 28 = .ok (.lreturn, 1) := by decide +kernel
theorem dX5_odds_29 : decode cX5_odds 29 = .ok (.aload_n 0, 1) := by decide +kernel
theorem dX5_odds_30 : decode cX5_odds 30 = .ok (.iload_n 1, 1) := by decide +kernel
theorem dX5_odds_31 : decode cX5_odds 31 = .ok (.iload_n 2, 1) := by decide +kernel
theorem dX5_odds_32 : decode cX5_odds 32 = .ok (.invokevirtual 260, 3) := by decide +kernel
theorem dX5_odds_35 : decode cX5_odds 35 = .ok (.istore 4, 2) := by decide +kernel
theorem dX5_odds_37 : decode cX5_odds 37 = .ok (.bipush 100, 2) := by decide +kernel
theorem dX5_odds_39 : decode cX5_odds 39 = .ok (.istore 5, 2) := by decide +kernel
theorem dX5_odds_41 : decode cX5_odds 41 = .ok (.iload 4, 2) := by decide +kernel
theorem dX5_odds_43 : decode cX5_odds 43 = .ok (.iload 5, 2) := by decide +kernel
theorem dX5_odds_45 : decode cX5_odds 45 = .ok (.invokestatic 263, 3) := by decide +kernel
theorem dX5_odds_48 : decode cX5_odds 48 = .ok (.istore 6, 2) := by decide +kernel
theorem dX5_odds_50 : decode cX5_odds 50 = .ok (.iload_n 3, 1) := by decide +kernel
theorem dX5_odds_51 : decode cX5_odds 51 = .ok (.ifCond .ne 8, 3) := by decide +kernel
theorem dX5_odds_54 : decode cX5_odds 54 = .ok (.iload 4, 2) := by decide +kernel
theorem dX5_odds_56 : decode cX5_odds 56 = .ok (.goto 5, 3) := by decide +kernel
theorem dX5_odds_59 : decode cX5_odds 59 = .ok (.iload 5, 2) := by decide +kernel
theorem dX5_odds_61 : decode cX5_odds 61 = .ok (.iload 6, 2) := by decide +kernel
theorem dX5_odds_63 : decode cX5_odds 63 = .ok (.idiv, 1) := by decide +kernel
theorem dX5_odds_64 : decode cX5_odds 64 = .ok (.i2l, 1) := by decide +kernel
theorem dX5_odds_65 : decode cX5_odds 65 = .ok (.lreturn, 1) := by decide +kernel
theorem dX5_pairsOfTides_0 : decode cX5_pairsOfTides 0 = .ok (.aload_n 0, 1) := by decide +kernel
theorem dX5_pairsOfTides_1 : decode cX5_pairsOfTides 1 = .ok (.getfield 42, 3) := by decide +kernel
theorem dX5_pairsOfTides_4 : decode cX5_pairsOfTides 4 = .ok (.getfield 108, 3) := by decide +kernel
theorem dX5_pairsOfTides_7 : decode cX5_pairsOfTides 7 = .ok (.iload_n 1, 1) := by decide +kernel
theorem dX5_pairsOfTides_8 : decode cX5_pairsOfTides 8 = .ok (.iaload, 1) := by decide +kernel
theorem dX5_pairsOfTides_9 : decode cX5_pairsOfTides 9 = .ok (.istore_n 3, 1) := by decide +kernel
theorem dX5_pairsOfTides_10 : decode cX5_pairsOfTides 10 = .ok (.iconst 0, 1) := by decide +kernel
theorem dX5_pairsOfTides_11 : decode cX5_pairsOfTides 11 = .ok (.istore 4, 2) := by decide +kernel
theorem dX5_pairsOfTides_13 : decode cX5_pairsOfTides 13 = .ok (.iconst 0, 1) := by decide +kernel
theorem dX5_pairsOfTides_14 : decode cX5_pairsOfTides 14 = .ok (.istore 5, 2) := by decide +kernel
theorem dX5_pairsOfTides_16 : decode cX5_pairsOfTides 16 = .ok (.iload 5, 2) := by decide +kernel
theorem dX5_pairsOfTides_18 : decode cX5_pairsOfTides 18 = .ok (.bipush 9, 2) := by decide +kernel
theorem dX5_pairsOfTides_20 : decode cX5_pairsOfTides 20 = .ok (.if_icmp .gt 66, 3) := by decide +kernel
theorem dX5_pairsOfTides_23 : decode cX5_pairsOfTides 23 = .ok (.aload_n 0, 1) := by decide +kernel
theorem dX5_pairsOfTides_24 : decode cX5_pairsOfTides 24 = .ok (.getfield 42, 3) := by decide +kernel
theorem dX5_pairsOfTides_27 : decode cX5_pairsOfTides 27 = .ok (.iload_n 1, 1) := by decide +kernel
theorem dX5_pairsOfTides_28 : decode cX5_pairsOfTides 28 = .ok (.iload 5, 2) := by decide +kernel
theorem dX5_pairsOfTides_30 : decode cX5_pairsOfTides 30 = .ok (.invokevirtual 143, 3) := by decide +kernel
theorem dX5_pairsOfTides_33 : decode cX5_pairsOfTides 33 = .ok (.istore 6, 2) := by decide +kernel
theorem dX5_pairsOfTides_35 : decode cX5_pairsOfTides 35 = .ok (.iconst 0, 1) := by decide +kernel
theorem dX5_pairsOfTides_36 : decode cX5_pairsOfTides 36 = .ok (.istore 7, 2) := by decide +kernel
theorem dX5_pairsOfTides_38 : decode cX5_pairsOfTides 38 = .ok (.iload 7, 2) := by decide +kernel
theorem dX5_pairsOfTides_40 : decode cX5_pairsOfTides 40 = .ok (.bipush 9, 2) := by decide +kernel
theorem dX5_pairsOfTides_42 : decode cX5_pairsOfTides 42 = .ok (.if_icmp .gt 38, 3) := by decide +kernel
theorem dX5_pairsOfTides_45 : decode cX5_pairsOfTides 45 = .ok (.iload 4, 2) := by decide +kernel
theorem dX5_pairsOfTides_47 : decode cX5_pairsOfTides 47 = .ok (.aload_n 0, 1) := by decide +kernel
theorem dX5_pairsOfTides_48 : decode cX5_pairsOfTides 48 = .ok (.getfield 42, 3) := by decide +kernel
theorem dX5_pairsOfTides_51 : decode cX5_pairsOfTides 51 = .ok (.iload 6, 2) := by decide +kernel
theorem dX5_pairsOfTides_53 : decode cX5_pairsOfTides 53 = .ok (.iload_n 3, 1) := by decide +kernel
theorem dX5_pairsOfTides_54 : decode cX5_pairsOfTides 54 = .ok (.iload 7, 2) := by decide +kernel
theorem dX5_pairsOfTides_56 : decode cX5_pairsOfTides 56 = .ok (.invokevirtual 243, 3) := by decide +kernel
theorem dX5_pairsOfTides_59 : decode cX5_pairsOfTides 59 = .ok (.iload_n 2, 1) := by decide +kernel
theorem dX5_pairsOfTides_60 : decode cX5_pairsOfTides 60 = .ok (.if_icmp .ne 7, 3) := by decide +kernel
theorem dX5_pairsOfTides_63 : decode cX5_pairsOfTides 63 = .ok (.iconst 1, 1) := by decide +kernel
theorem dX5_pairsOfTides_64 : decode cX5_pairsOfTides 64 = .ok (.goto 4, 3) := by decide +kernel
theorem dX5_pairsOfTides_67 : decode cX5_pairsOfTides 67 = .ok (.iconst 0, 1) := by decide +kernel
theorem dX5_pairsOfTides_68 : decode cX5_pairsOfTides 68 = .ok (.invokestatic 159, 3) := by decide +kernel
theorem dX5_pairsOfTides_71 : decode cX5_pairsOfTides 71 = .ok (.iadd, 1) := by decide +kernel
theorem dX5_pairsOfTides_72 : decode cX5_pairsOfTides 72 = .ok (.istore 4, 2) := by decide +kernel
theorem dX5_pairsOfTides_74 : decode cX5_pairsOfTides 74 = .ok (.iinc 7 1, 3) := by decide +kernel
theorem dX5_pairsOfTides_77 : decode cX5_pairsOfTides 77 = .ok (.goto (-39), 3) := by decide +kernel
theorem dX5_pairsOfTides_80 : decode cX5_pairsOfTides 80 = .ok (.iinc 5 1, 3) := by decide +kernel
theorem dX5_pairsOfTides_83 : decode cX5_pairsOfTides 83 = .ok (.goto (-67), 3) := by decide +kernel
theorem dX5_pairsOfTides_86 : decode cX5_pairsOfTides 86 = .ok (.iload 4, 2) := by decide +kernel
theorem dX5_pairsOfTides_88 : decode cX5_pairsOfTides 88 = .ok (.ireturn, 1) := by decide +kernel
theorem dX5_commonDivisor_0 : decode cX5_commonDivisor 0 = .ok (.iload_n 1, 1) := by decide +kernel
theorem dX5_commonDivisor_1 : decode cX5_commonDivisor 1 = .ok (.istore_n 2, 1) := by decide +kernel
theorem dX5_commonDivisor_2 : decode cX5_commonDivisor 2 = .ok (.iload_n 2, 1) := by decide +kernel
theorem dX5_commonDivisor_3 : decode cX5_commonDivisor 3 = .ok (.iconst 1, 1) := by decide +kernel
theorem dX5_commonDivisor_4 : decode cX5_commonDivisor 4 = .ok (.if_icmp .le 23, 3) := by decide +kernel
theorem dX5_commonDivisor_7 : decode cX5_commonDivisor 7 = .ok (.iload_n 0, 1) := by decide +kernel
theorem dX5_commonDivisor_8 : decode cX5_commonDivisor 8 = .ok (.iload_n 2, 1) := by decide +kernel
theorem dX5_commonDivisor_9 : decode cX5_commonDivisor 9 = .ok (.irem, 1) := by decide +kernel
theorem dX5_commonDivisor_10 : decode cX5_commonDivisor 10 = .ok (.ifCond .ne 11, 3) := by decide +kernel
theorem dX5_commonDivisor_13 : decode cX5_commonDivisor 13 = .ok (.iload_n 1, 1) := by decide +kernel
theorem dX5_commonDivisor_14 : decode cX5_commonDivisor 14 = .ok (.iload_n 2, 1) := by decide +kernel
theorem dX5_commonDivisor_15 : decode cX5_commonDivisor 15 = .ok (.irem, 1) := by decide +kernel
theorem dX5_commonDivisor_16 : decode cX5_commonDivisor 16 = .ok (.ifCond .ne 5, 3) := by decide +kernel
theorem dX5_commonDivisor_19 : decode cX5_commonDivisor 19 = .ok (.iload_n 2, 1) := by decide +kernel
theorem dX5_commonDivisor_20 : decode cX5_commonDivisor 20 = .ok (.ireturn, 1) := by decide +kernel
theorem dX5_commonDivisor_21 : decode cX5_commonDivisor 21 = .ok (.iinc 2 (-1), 3) := by decide +kernel
theorem dX5_commonDivisor_24 : decode cX5_commonDivisor 24 = .ok (.goto (-22), 3) := by decide +kernel
theorem dX5_commonDivisor_27 : decode cX5_commonDivisor 27 = .ok (.iconst 1, 1) := by decide +kernel
theorem dX5_commonDivisor_28 : decode cX5_commonDivisor 28 = .ok (.ireturn, 1) := by decide +kernel
theorem dX5_sheet_0 : decode cX5_sheet 0 = .ok (.aload_n 0, 1) := by decide +kernel
theorem dX5_sheet_1 : decode cX5_sheet 1 = .ok (.iconst 0, 1) := by decide +kernel
theorem dX5_sheet_2 : decode cX5_sheet 2 = .ok (.putfield 49, 3) := by decide +kernel
theorem dX5_sheet_5 : decode cX5_sheet 5 = .ok (.iload_n 1, 1) := by decide +kernel
theorem dX5_sheet_6 : decode cX5_sheet 6 = .ok (.invokestatic 53, 3) := by decide +kernel
theorem dX5_sheet_9 : decode cX5_sheet 9 = .ok (.ifCond .ne 5, 3) := by decide +kernel
theorem dX5_sheet_12 : decode cX5_sheet 12 = .ok (.iconst (-1), 1) := by decide +kernel
theorem dX5_sheet_13 : decode cX5_sheet 13 = .ok (.ireturn, 1) := by decide +kernel
theorem dX5_sheet_14 : decode cX5_sheet 14 = .ok (.iload_n 2, 1) := by decide +kernel
theorem dX5_sheet_15 : decode cX5_sheet 15 = .ok (.invokestatic 57, 3) := by decide +kernel
theorem dX5_sheet_18 : decode cX5_sheet 18 = .ok (.ifCond .eq 9, 3) := by decide +kernel
theorem dX5_sheet_21 : decode cX5_sheet 21 = .ok (.iload_n 3, 1) := by decide +kernel
theorem dX5_sheet_22 : decode cX5_sheet 22 = .ok (.bipush 60, 2) := by decide +kernel
theorem dX5_sheet_24 : decode cX5_sheet 24 = .ok (.if_icmp .le 6, 3) := by decide +kernel
theorem dX5_sheet_27 : decode cX5_sheet 27 = .ok (.bipush (-2), 2) := by decide +kernel
theorem dX5_sheet_29 : decode cX5_sheet 29 = .ok (.ireturn, 1) := by decide +kernel
theorem dX5_sheet_30 : decode cX5_sheet 30 = .ok (.iload_n 3, 1) := by decide +kernel
theorem dX5_sheet_31 : decode cX5_sheet 31 = .ok (.ifCond .ge 9, 3) := by decide +kernel
theorem dX5_sheet_34 : decode cX5_sheet 34 = .ok (.aload_n 0, 1) := by decide +kernel
theorem dX5_sheet_35 : decode cX5_sheet 35 = .ok (.iconst 4, 1) := by decide +kernel
theorem dX5_sheet_36 : decode cX5_sheet 36 = .ok (.invokevirtual 64, 3) := by decide +kernel
theorem dX5_sheet_39 : decode cX5_sheet 39 = .ok (.ireturn, 1) := by decide +kernel
theorem dX5_sheet_40 : decode cX5_sheet 40 = .ok (.aload_n 0, 1) := by decide +kernel
theorem dX5_sheet_41 : decode cX5_sheet 41 = .ok (.getfield 13, 3) := by decide +kernel
theorem dX5_sheet_44 : decode cX5_sheet 44 = .ok (.iload_n 1, 1) := by decide +kernel
theorem dX5_sheet_45 : decode cX5_sheet 45 = .ok (.aaload, 1) := by decide +kernel
theorem dX5_sheet_46 : decode cX5_sheet 46 = .ok (.iload_n 2, 1) := by decide +kernel
theorem dX5_sheet_47 : decode cX5_sheet 47 = .ok (.iload_n 3, 1) := by decide +kernel
theorem dX5_sheet_48 : decode cX5_sheet 48 = .ok (.invokevirtual 266, 3) := by decide +kernel
theorem dX5_sheet_51 : decode cX5_sheet 51 = .ok (.iconst 1, 1) := by decide +kernel
theorem dX5_sheet_52 : decode cX5_sheet 52 = .ok (.ireturn, 1) := by decide +kernel
theorem dX5_lose_0 : decode cX5_lose 0 = .ok (.iload_n 1, 1) := by decide +kernel
theorem dX5_lose_1 : decode cX5_lose 1 = .ok (.invokestatic 53, 3) := by decide +kernel
theorem dX5_lose_4 : decode cX5_lose 4 = .ok (.ifCond .ne 5, 3) := by decide +kernel
theorem dX5_lose_7 : decode cX5_lose 7 = .ok (.iconst (-1), 1) := by decide +kernel
theorem dX5_lose_8 : decode cX5_lose 8 = .ok (.ireturn, 1) := by decide +kernel
theorem dX5_lose_9 : decode cX5_lose 9 = .ok (.aload_n 0, 1) := by decide +kernel
theorem dX5_lose_10 : decode cX5_lose 10 = .ok (.getfield 13, 3) := by decide +kernel
theorem dX5_lose_13 : decode cX5_lose 13 = .ok (.iload_n 1, 1) := by decide +kernel
theorem dX5_lose_14 : decode cX5_lose 14 = .ok (.aaload, 1) := by decide +kernel
theorem dX5_lose_15 : decode cX5_lose 15 = .ok (.getfield 269, 3) := by decide +kernel
theorem dX5_lose_18 : decode cX5_lose 18 = .ok (.invokestatic 159, 3) := by decide +kernel
theorem dX5_lose_21 : decode cX5_lose 21 = .ok (.istore_n 2, 1) := by decide +kernel
theorem dX5_lose_22 : decode cX5_lose 22 = .ok (.aload_n 0, 1) := by decide +kernel
theorem dX5_lose_23 : decode cX5_lose 23 = .ok (.getfield 13, 3) := by decide +kernel
theorem dX5_lose_26 : decode cX5_lose 26 = .ok (.iload_n 1, 1) := by decide +kernel
theorem dX5_lose_27 : decode cX5_lose 27 = .ok (.aaload, 1) := by decide +kernel
theorem dX5_lose_28 : decode cX5_lose 28 = .ok (.iconst 0, 1) := by decide +kernel
theorem dX5_lose_29 : decode cX5_lose 29 = .ok (.putfield 269, 3) := by decide +kernel
theorem dX5_lose_32 : decode cX5_lose 32 = .ok (.iload_n 2, 1) := by decide +kernel
theorem dX5_lose_33 : decode cX5_lose 33 = .ok (.ireturn, 1) := by decide +kernel
theorem dX5_put_0 : decode cX5_put 0 = .ok (.aload_n 0, 1) := by decide +kernel
theorem dX5_put_1 : decode cX5_put 1 = .ok (.iconst 0, 1) := by decide +kernel
theorem dX5_put_2 : decode cX5_put 2 = .ok (.putfield 49, 3) := by decide +kernel
theorem dX5_put_5 : decode cX5_put 5 = .ok (.iload_n 1, 1) := by decide +kernel
theorem dX5_put_6 : decode cX5_put 6 = .ok (.invokestatic 53, 3) := by decide +kernel
theorem dX5_put_9 : decode cX5_put 9 = .ok (.ifCond .ne 5, 3) := by decide +kernel
theorem dX5_put_12 : decode cX5_put 12 = .ok (.iconst (-1), 1) := by decide +kernel
theorem dX5_put_13 : decode cX5_put 13 = .ok (.ireturn, 1) := by decide +kernel
theorem dX5_put_14 : decode cX5_put 14 = .ok (.aload_n 0, 1) := by decide +kernel
theorem dX5_put_15 : decode cX5_put 15 = .ok (.getfield 13, 3) := by decide +kernel
theorem dX5_put_18 : decode cX5_put 18 = .ok (.iload_n 1, 1) := by decide +kernel
theorem dX5_put_19 : decode cX5_put 19 = .ok (.aaload, 1) := by decide +kernel
theorem dX5_put_20 : decode cX5_put 20 = .ok (.getfield 269, 3) := by decide +kernel
theorem dX5_put_23 : decode cX5_put 23 = .ok (.ifCond .ne 9, 3) := by decide +kernel
theorem dX5_put_26 : decode cX5_put 26 = .ok (.aload_n 0, 1) := by decide +kernel
theorem dX5_put_27 : decode cX5_put 27 = .ok (.iconst 1, 1) := by decide +kernel
theorem dX5_put_28 : decode cX5_put 28 = .ok (.invokevirtual 64, 3) := by decide +kernel
theorem dX5_put_31 : decode cX5_put 31 = .ok (.ireturn, 1) := by decide +kernel
theorem dX5_put_32 : decode cX5_put 32 = .ok (.aload_n 0, 1) := by decide +kernel
theorem dX5_put_33 : decode cX5_put 33 = .ok (.getfield 13, 3) := by decide +kernel
theorem dX5_put_36 : decode cX5_put 36 = .ok (.iload_n 1, 1) := by decide +kernel
theorem dX5_put_37 : decode cX5_put 37 = .ok (.aaload, 1) := by decide +kernel
theorem dX5_put_38 : decode cX5_put 38 = .ok (.iload_n 2, 1) := by decide +kernel
theorem dX5_put_39 : decode cX5_put 39 = .ok (.iconst 1, 1) := by decide +kernel
theorem dX5_put_40 : decode cX5_put 40 = .ok (.invokevirtual 273, 3) := by decide +kernel
theorem dX5_put_43 : decode cX5_put 43 = .ok (.ifCond .ne 9, 3) := by decide +kernel
theorem dX5_put_46 : decode cX5_put 46 = .ok (.aload_n 0, 1) := by decide +kernel
theorem dX5_put_47 : decode cX5_put 47 = .ok (.iconst 3, 1) := by decide +kernel
theorem dX5_put_48 : decode cX5_put 48 = .ok (.invokevirtual 64, 3) := by decide +kernel
theorem dX5_put_51 : decode cX5_put 51 = .ok (.ireturn, 1) := by decide +kernel
theorem dX5_put_52 : decode cX5_put 52 = .ok (.aload_n 0, 1) := by decide +kernel
theorem dX5_put_53 : decode cX5_put 53 = .ok (.getfield 13, 3) := by decide +kernel
theorem dX5_put_56 : decode cX5_put 56 = .ok (.iload_n 1, 1) := by decide +kernel
theorem dX5_put_57 : decode cX5_put 57 = .ok (.aaload, 1) := by decide +kernel
theorem dX5_put_58 : decode cX5_put 58 = .ok (.getfield 183, 3) := by decide +kernel
theorem dX5_put_61 : decode cX5_put 61 = .ok (.iload_n 2, 1) := by decide +kernel
theorem dX5_put_62 : decode cX5_put 62 = .ok (.aload_n 0, 1) := by decide +kernel
theorem dX5_put_63 : decode cX5_put 63 = .ok (.getfield 13, 3) := by decide +kernel
theorem dX5_put_66 : decode cX5_put 66 = .ok (.iload_n 1, 1) := by decide +kernel
theorem dX5_put_67 : decode cX5_put 67 = .ok (.aaload, 1) := by decide +kernel
theorem dX5_put_68 : decode cX5_put 68 = .ok (.iload_n 3, 1) := by decide +kernel
theorem dX5_put_69 : decode cX5_put 69 = .ok (.invokevirtual 276, 3) := by decide +kernel
theorem dX5_put_72 : decode cX5_put 72 = .ok (.iastore, 1) := by decide +kernel
theorem dX5_put_73 : decode cX5_put 73 = .ok (.iconst 1, 1) := by decide +kernel
theorem dX5_put_74 : decode cX5_put 74 = .ok (.ireturn, 1) := by decide +kernel
theorem dX5_cell_0 : decode cX5_cell 0 = .ok (.aload_n 0, 1) := by decide +kernel
theorem dX5_cell_1 : decode cX5_cell 1 = .ok (.iconst 0, 1) := by decide +kernel
theorem dX5_cell_2 : decode cX5_cell 2 = .ok (.putfield 49, 3) := by decide +kernel
theorem dX5_cell_5 : decode cX5_cell 5 = .ok (.iload_n 1, 1) := by decide +kernel
theorem dX5_cell_6 : decode cX5_cell 6 = .ok (.invokestatic 53, 3) := by decide +kernel
theorem dX5_cell_9 : decode cX5_cell 9 = .ok (.ifCond .eq 10, 3) := by decide +kernel
theorem dX5_cell_12 : decode cX5_cell 12 = .ok (.iload_n 3, 1) := by decide +kernel
theorem dX5_cell_13 : decode cX5_cell 13 = .ok (.invokestatic 57, 3) := by decide +kernel
theorem dX5_cell_16 : decode cX5_cell 16 = .ok (.ifCond .ne 7, 3) := by decide +kernel
theorem dX5_cell_19 : decode cX5_cell 19 = .ok (.ldc2_w 258, 3) := by decide +kernel
theorem dX5_cell_22 : decode cX5_cell 22 = .ok (.lreturn, 1) := by decide +kernel
theorem dX5_cell_23 : decode cX5_cell 23 = .ok (.aload_n 0, 1) := by decide +kernel
theorem dX5_cell_24 : decode cX5_cell 24 = .ok (.getfield 13, 3) := by decide +kernel
theorem dX5_cell_27 : decode cX5_cell 27 = .ok (.iload_n 1, 1) := by decide +kernel
theorem dX5_cell_28 : decode cX5_cell 28 = .ok (.aaload, 1) := by decide +kernel
theorem dX5_cell_29 : decode cX5_cell 29 = .ok (.iload_n 3, 1) := by decide +kernel
theorem dX5_cell_30 : decode cX5_cell 30 = .ok (.iload_n 2, 1) := by decide +kernel
theorem dX5_cell_31 : decode cX5_cell 31 = .ok (.iconst 1, 1) := by decide +kernel
theorem dX5_cell_32 : decode cX5_cell 32 = .ok (.invokestatic 60, 3) := by decide +kernel
theorem dX5_cell_35 : decode cX5_cell 35 = .ok (.istore 4, 2) := by decide +kernel
theorem dX5_cell_37 : decode cX5_cell 37 = .ok (.iload 4, 2) := by decide +kernel
theorem dX5_cell_39 : decode cX5_cell 39 = .ok (.ifCond .eq 13, 3) := by decide +kernel
theorem dX5_cell_42 : decode cX5_cell 42 = .ok (.aload_n 0, 1) := by decide +kernel
theorem dX5_cell_43 : decode cX5_cell 43 = .ok (.iload 4, 2) := by decide +kernel
theorem dX5_cell_45 : decode cX5_cell 45 = .ok (.putfield 49, 3) := by decide +kernel
theorem dX5_cell_48 : decode cX5_cell 48 = .ok (.ldc2_w 258, 3) := by decide +kernel
theorem dX5_cell_51 : decode cX5_cell 51 = .ok (.lreturn, 1) := by decide +kernel
theorem dX5_cell_52 : decode cX5_cell 52 = .ok (.aload_n 0, 1) := by decide +kernel
theorem dX5_cell_53 : decode cX5_cell 53 = .ok (.getfield 13, 3) := by decide +kernel
theorem dX5_cell_56 : decode cX5_cell 56 = .ok (.iload_n 1, 1) := by decide +kernel
theorem dX5_cell_57 : decode cX5_cell 57 = .ok (.aaload, 1) := by decide +kernel
theorem dX5_cell_58 : decode cX5_cell 58 = .ok (.getfield 183, 3) := by decide +kernel
theorem dX5_cell_61 : decode cX5_cell 61 = .ok (.iload_n 2, 1) := by decide +kernel
theorem dX5_cell_62 : decode cX5_cell 62 = .ok (.iaload, 1) := by decide +kernel
theorem dX5_cell_63 : decode cX5_cell 63 = .ok (.i2l, 1) := by decide +kernel
theorem dX5_cell_64 : decode cX5_cell 64 = .ok (.lreturn, 1) := by decide +kernel
theorem dX5_copy_0 : decode cX5_copy 0 = .ok (.aload_n 0, 1) := by decide +kernel
theorem dX5_copy_1 : decode cX5_copy 1 = .ok (.iconst 0, 1) := by decide +kernel
theorem dX5_copy_2 : decode cX5_copy 2 = .ok (.putfield 49, 3) := by decide +kernel
theorem dX5_copy_5 : decode cX5_copy 5 = .ok (.iload_n 1, 1) := by decide +kernel
theorem dX5_copy_6 : decode cX5_copy 6 = .ok (.invokestatic 53, 3) := by decide +kernel
theorem dX5_copy_9 : decode cX5_copy 9 = .ok (.ifCond .eq 10, 3) := by decide +kernel
theorem dX5_copy_12 : decode cX5_copy 12 = .ok (.iload_n 3, 1) := by decide +kernel
theorem dX5_copy_13 : decode cX5_copy 13 = .ok (.invokestatic 53, 3) := by decide +kernel
theorem dX5_copy_16 : decode cX5_copy 16 = .ok (.ifCond .ne 5, 3) := by decide +kernel
theorem dX5_copy_19 : decode cX5_copy 19 = .ok (.iconst (-1), 1) := by decide +kernel
theorem dX5_copy_20 : decode cX5_copy 20 = .ok (.ireturn, 1) := by decide +kernel
theorem dX5_copy_21 : decode cX5_copy 21 = .ok (.aload_n 0, 1) := by decide +kernel
theorem dX5_copy_22 : decode cX5_copy 22 = .ok (.getfield 13, 3) := by decide +kernel
theorem dX5_copy_25 : decode cX5_copy 25 = .ok (.iload_n 1, 1) := by decide +kernel
theorem dX5_copy_26 : decode cX5_copy 26 = .ok (.aaload, 1) := by decide +kernel
theorem dX5_copy_27 : decode cX5_copy 27 = .ok (.astore 6, 2) := by decide +kernel
theorem dX5_copy_29 : decode cX5_copy 29 = .ok (.aload_n 0, 1) := by decide +kernel
theorem dX5_copy_30 : decode cX5_copy 30 = .ok (.getfield 13, 3) := by decide +kernel
theorem dX5_copy_33 : decode cX5_copy 33 = .ok (.iload_n 3, 1) := by decide +kernel
theorem dX5_copy_34 : decode cX5_copy 34 = .ok (.aaload, 1) := by decide +kernel
theorem dX5_copy_35 : decode cX5_copy 35 = .ok (.astore 7, 2) := by decide +kernel
theorem dX5_copy_37 : decode cX5_copy 37 = .ok (.aload 6, 2) := by decide +kernel
theorem dX5_copy_39 : decode cX5_copy 39 = .ok (.getfield 269, 3) := by decide +kernel
theorem dX5_copy_42 : decode cX5_copy 42 = .ok (.ifCond .eq 11, 3) := by decide +kernel
theorem dX5_copy_45 : decode cX5_copy 45 = .ok (.aload 7, 2) := by decide +kernel
theorem dX5_copy_47 : decode cX5_copy 47 = .ok (.getfield 269, 3) := by decide +kernel
theorem dX5_copy_50 : decode cX5_copy 50 = .ok (.ifCond .ne 9, 3) := by decide +kernel
theorem dX5_copy_53 : decode cX5_copy 53 = .ok (.aload_n 0, 1) := by decide +kernel
theorem dX5_copy_54 : decode cX5_copy 54 = .ok (.iconst 1, 1) := by decide +kernel
theorem dX5_copy_55 : decode cX5_copy 55 = .ok (.invokevirtual 64, 3) := by decide +kernel
theorem dX5_copy_58 : decode cX5_copy 58 = .ok (.ireturn, 1) := by decide +kernel
theorem dX5_copy_59 : decode cX5_copy 59 = .ok (.aload 6, 2) := by decide +kernel
theorem dX5_copy_61 : decode cX5_copy 61 = .ok (.getfield 279, 3) := by decide +kernel
theorem dX5_copy_64 : decode cX5_copy 64 = .ok (.aload 7, 2) := by decide +kernel
theorem dX5_copy_66 : decode cX5_copy 66 = .ok (.getfield 279, 3) := by decide +kernel
theorem dX5_copy_69 : decode cX5_copy 69 = .ok (.if_icmp .eq 9, 3) := by decide +kernel
theorem dX5_copy_72 : decode cX5_copy 72 = .ok (.aload_n 0, 1) := by decide +kernel
theorem dX5_copy_73 : decode cX5_copy 73 = .ok (.iconst 2, 1) := by decide +kernel
theorem dX5_copy_74 : decode cX5_copy 74 = .ok (.invokevirtual 64, 3) := by decide +kernel
theorem dX5_copy_77 : decode cX5_copy 77 = .ok (.ireturn, 1) := by decide +kernel
theorem dX5_copy_78 : decode cX5_copy 78 = .ok (.aload 6, 2) := by decide +kernel
theorem dX5_copy_80 : decode cX5_copy 80 = .ok (.iload_n 2, 1) := by decide +kernel
theorem dX5_copy_81 : decode cX5_copy 81 = .ok (.iload 5, 2) := by decide +kernel
theorem dX5_copy_83 : decode cX5_copy 83 = .ok (.invokevirtual 273, 3) := by decide +kernel
theorem dX5_copy_86 : decode cX5_copy 86 = .ok (.ifCond .eq 15, 3) := by decide +kernel
theorem dX5_copy_89 : decode cX5_copy 89 = .ok (.aload 7, 2) := by decide +kernel
theorem dX5_copy_91 : decode cX5_copy 91 = .ok (.iload 4, 2) := by decide +kernel
theorem dX5_copy_93 : decode cX5_copy 93 = .ok (.iload 5, 2) := by decide +kernel
theorem dX5_copy_95 : decode cX5_copy 95 = .ok (.invokevirtual 273, 3) := by decide +kernel
theorem dX5_copy_98 : decode cX5_copy 98 = .ok (.ifCond .ne 9, 3) := by decide +kernel
theorem dX5_copy_101 : decode cX5_copy 101 = .ok (.aload_n 0, 1) := by decide +kernel
theorem dX5_copy_102 : decode cX5_copy 102 = .ok (.iconst 3, 1) := by decide +kernel
theorem dX5_copy_103 : decode cX5_copy 103 = .ok (.invokevirtual 64, 3) := by decide +kernel
theorem dX5_copy_106 : decode cX5_copy 106 = .ok (.ireturn, 1) := by decide +kernel
theorem dX5_copy_107 : decode cX5_copy 107 = .ok (.aload 6, 2) := by decide +kernel
theorem dX5_copy_109 : decode cX5_copy 109 = .ok (.getfield 183, 3) := by decide +kernel
theorem dX5_copy_112 : decode cX5_copy 112 = .ok (.iload_n 2, 1) := by decide +kernel
theorem dX5_copy_113 : decode cX5_copy 113 = .ok (.aload 7, 2) := by decide +kernel
theorem dX5_copy_115 : decode cX5_copy 115 = .ok (.getfield 183, 3) := by decide +kernel
theorem dX5_copy_118 : decode cX5_copy 118 = .ok (.iload 4, 2) := by decide +kernel
theorem dX5_copy_120 : decode cX5_copy 120 = .ok (.iload 5, 2) := by decide +kernel
theorem dX5_copy_122 : decode cX5_copy 122 = .ok (.invokestatic 282, 3) := by decide +kernel
theorem dX5_copy_125 : decode cX5_copy 125 = .ok (.iload 5, 2) := by decide +kernel
theorem dX5_copy_127 : decode cX5_copy 127 = .ok (.ireturn, 1) := by decide +kernel
theorem dX5_tell_0 : decode cX5_tell 0 = .ok (.aload_n 0, 1) := by decide +kernel
theorem dX5_tell_1 : decode cX5_tell 1 = .ok (.iload_n 1, 1) := by decide +kernel
theorem dX5_tell_2 : decode cX5_tell 2 = .ok (.invokevirtual 105, 3) := by decide +kernel
theorem dX5_tell_5 : decode cX5_tell 5 = .ok (.ifCond .ne 5, 3) := by decide +kernel
theorem dX5_tell_8 : decode cX5_tell 8 = .ok (.iconst (-1), 1) := by decide +kernel
theorem dX5_tell_9 : decode cX5_tell 9 = .ok (.ireturn, 1) := by decide +kernel
theorem dX5_tell_10 : decode cX5_tell 10 = .ok (.aload_n 0, 1) := by decide +kernel
theorem dX5_tell_11 : decode cX5_tell 11 = .ok (.getfield 42, 3) := by decide +kernel
theorem dX5_tell_14 : decode cX5_tell 14 = .ok (.getfield 108, 3) := by decide +kernel
theorem dX5_tell_17 : decode cX5_tell 17 = .ok (.iload_n 1, 1) := by decide +kernel
theorem dX5_tell_18 : decode cX5_tell 18 = .ok (.iaload, 1) := by decide +kernel
theorem dX5_tell_19 : decode cX5_tell 19 = .ok (.lookupswitch 37 #[(0, 25), (1, 31)], 25) := by decide +kernel
theorem dX5_tell_44 : decode cX5_tell 44 = .ok (.aload_n 0, 1) := by decide +kernel
theorem dX5_tell_45 : decode cX5_tell 45 = .ok (.iload_n 1, 1) := by decide +kernel
theorem dX5_tell_46 : decode cX5_tell 46 = .ok (.invokevirtual 288, 3) := by decide +kernel
theorem dX5_tell_49 : decode cX5_tell 49 = .ok (.ireturn, 1) := by decide +kernel
theorem dX5_tell_50 : decode cX5_tell 50 = .ok (.aload_n 0, 1) := by decide +kernel
theorem dX5_tell_51 : decode cX5_tell 51 = .ok (.iload_n 1, 1) := by decide +kernel
theorem dX5_tell_52 : decode cX5_tell 52 = .ok (.invokevirtual 291, 3) := by decide +kernel
theorem dX5_tell_55 : decode cX5_tell 55 = .ok (.ireturn, 1) := by decide +kernel
theorem dX5_tell_56 : decode cX5_tell 56 = .ok (.aload_n 0, 1) := by decide +kernel
theorem dX5_tell_57 : decode cX5_tell 57 = .ok (.iload_n 1, 1) := by decide +kernel
theorem dX5_tell_58 : decode cX5_tell 58 = .ok (.invokevirtual 294, 3) := by decide +kernel
theorem dX5_tell_61 : decode cX5_tell 61 = .ok (.ireturn, 1) := by decide +kernel
theorem dX5_shrimpBody_0 : decode cX5_shrimpBody 0 = .ok (.aload_n 0, 1) := by decide +kernel
theorem dX5_shrimpBody_1 : decode cX5_shrimpBody 1 = .ok (.iconst 1, 1) := by decide +kernel
theorem dX5_shrimpBody_2 : decode cX5_shrimpBody 2 = .ok (.invokevirtual 297, 3) := by decide +kernel
theorem dX5_shrimpBody_5 : decode cX5_shrimpBody 5 = .ok (.aload_n 0, 1) := by decide +kernel
theorem dX5_shrimpBody_6 : decode cX5_shrimpBody 6 = .ok (.getfield 42, 3) := by decide +kernel
theorem dX5_shrimpBody_9 : decode cX5_shrimpBody 9 = .ok (.getfield 114, 3) := by decide +kernel
theorem dX5_shrimpBody_12 : decode cX5_shrimpBody 12 = .ok (.iload_n 1, 1) := by decide +kernel
theorem dX5_shrimpBody_13 : decode cX5_shrimpBody 13 = .ok (.iaload, 1) := by decide +kernel
theorem dX5_shrimpBody_14 : decode cX5_shrimpBody 14 = .ok (.ireturn, 1) := by decide +kernel
theorem dX5_crabBody_0 : decode cX5_crabBody 0 = .ok (.aload_n 0, 1) := by decide +kernel
theorem dX5_crabBody_1 : decode cX5_crabBody 1 = .ok (.iconst 2, 1) := by decide +kernel
theorem dX5_crabBody_2 : decode cX5_crabBody 2 = .ok (.invokevirtual 297, 3) := by decide +kernel
theorem dX5_crabBody_5 : decode cX5_crabBody 5 = .ok (.aload_n 0, 1) := by decide +kernel
theorem dX5_crabBody_6 : decode cX5_crabBody 6 = .ok (.iload_n 1, 1) := by decide +kernel
theorem dX5_crabBody_7 : decode cX5_crabBody 7 = .ok (.invokevirtual 288, 3) := by decide +kernel
theorem dX5_crabBody_10 : decode cX5_crabBody 10 = .ok (.bipush 100, 2) := by decide +kernel
theorem dX5_crabBody_12 : decode cX5_crabBody 12 = .ok (.iadd, 1) := by decide +kernel
theorem dX5_crabBody_13 : decode cX5_crabBody 13 = .ok (.ireturn, 1) := by decide +kernel
theorem dX5_limpetBody_0 : decode cX5_limpetBody 0 = .ok (.aload_n 0, 1) := by decide +kernel
theorem dX5_limpetBody_1 : decode cX5_limpetBody 1 = .ok (.iconst 3, 1) := by decide +kernel
theorem dX5_limpetBody_2 : decode cX5_limpetBody 2 = .ok (.invokevirtual 297, 3) := by decide +kernel
theorem dX5_limpetBody_5 : decode cX5_limpetBody 5 = .ok (.aload_n 0, 1) := by decide +kernel
theorem dX5_limpetBody_6 : decode cX5_limpetBody 6 = .ok (.iload_n 1, 1) := by decide +kernel
theorem dX5_limpetBody_7 : decode cX5_limpetBody 7 = .ok (.invokevirtual 291, 3) := by decide +kernel
theorem dX5_limpetBody_10 : decode cX5_limpetBody 10 = .ok (.istore_n 2, 1) := by decide +kernel
theorem dX5_limpetBody_11 : decode cX5_limpetBody 11 = .ok (.iload_n 2, 1) := by decide +kernel
theorem dX5_limpetBody_12 : decode cX5_limpetBody 12 = .ok (.aload_n 0, 1) := by decide +kernel
theorem dX5_limpetBody_13 : decode cX5_limpetBody 13 = .ok (.iload_n 1, 1) := by decide +kernel
theorem dX5_limpetBody_14 : decode cX5_limpetBody 14 = .ok (.invokevirtual 288, 3) := by decide +kernel
theorem dX5_limpetBody_17 : decode cX5_limpetBody 17 = .ok (.iadd, 1) := by decide +kernel
theorem dX5_limpetBody_18 : decode cX5_limpetBody 18 = .ok (.ireturn, 1) := by decide +kernel
theorem dX5_name_0 : decode cX5_name 0 = .ok (.aload_n 0, 1) := by decide +kernel
theorem dX5_name_1 : decode cX5_name 1 = .ok (.iload_n 1, 1) := by decide +kernel
theorem dX5_name_2 : decode cX5_name 2 = .ok (.invokevirtual 105, 3) := by decide +kernel
theorem dX5_name_5 : decode cX5_name 5 = .ok (.ifCond .ne 5, 3) := by decide +kernel
theorem dX5_name_8 : decode cX5_name 8 = .ok (.iconst (-1), 1) := by decide +kernel
theorem dX5_name_9 : decode cX5_name 9 = .ok (.ireturn, 1) := by decide +kernel
theorem dX5_name_10 : decode cX5_name 10 = .ok (.aload_n 0, 1) := by decide +kernel
theorem dX5_name_11 : decode cX5_name 11 = .ok (.getfield 42, 3) := by decide +kernel
theorem dX5_name_14 : decode cX5_name 14 = .ok (.getfield 108, 3) := by decide +kernel
theorem dX5_name_17 : decode cX5_name 17 = .ok (.iload_n 1, 1) := by decide +kernel
theorem dX5_name_18 : decode cX5_name 18 = .ok (.iaload, 1) := by decide +kernel
theorem dX5_name_19 : decode cX5_name 19 = .ok (.iconst 2, 1) := by decide +kernel
theorem dX5_name_20 : decode cX5_name 20 = .ok (.if_icmp .ne 7, 3) := by decide +kernel
theorem dX5_name_23 : decode cX5_name 23 = .ok (.iconst 1, 1) := by decide +kernel
theorem dX5_name_24 : decode cX5_name 24 = .ok (.goto 4, 3) := by decide +kernel
theorem dX5_name_27 : decode cX5_name 27 = .ok (.iconst 0, 1) := by decide +kernel
theorem dX5_name_28 : decode cX5_name 28 = .ok (.istore_n 2, 1) := by decide +kernel
theorem dX5_name_29 : decode cX5_name 29 = .ok (.aload_n 0, 1) := by decide +kernel
theorem dX5_name_30 : decode cX5_name 30 = .ok (.iload_n 2, 1) := by decide +kernel
theorem dX5_name_31 : decode cX5_name 31 = .ok (.ifCond .eq 7, 3) := by decide +kernel
theorem dX5_name_34 : decode cX5_name 34 = .ok (.iconst 5, 1) := by decide +kernel
theorem dX5_name_35 : decode cX5_name 35 = .ok (.goto 4, 3) := by decide +kernel
theorem dX5_name_38 : decode cX5_name 38 = .ok (.iconst 4, 1) := by decide +kernel
theorem dX5_name_39 : decode cX5_name 39 = .ok (.invokevirtual 297, 3) := by decide +kernel
theorem dX5_name_42 : decode cX5_name 42 = .ok (.iload_n 2, 1) := by decide +kernel
theorem dX5_name_43 : decode cX5_name 43 = .ok (.ifCond .eq 8, 3) := by decide +kernel
theorem dX5_name_46 : decode cX5_name 46 = .ok (.bipush 60, 2) := by decide +kernel
theorem dX5_name_48 : decode cX5_name 48 = .ok (.goto 4, 3) := by decide +kernel
theorem dX5_name_51 : decode cX5_name 51 = .ok (.iload_n 1, 1) := by decide +kernel
theorem dX5_name_52 : decode cX5_name 52 = .ok (.ireturn, 1) := by decide +kernel
theorem dX5_leave_0 : decode cX5_leave 0 = .ok (.aload_n 0, 1) := by decide +kernel
theorem dX5_leave_1 : decode cX5_leave 1 = .ok (.bipush 31, 2) := by decide +kernel
theorem dX5_leave_3 : decode cX5_leave 3 = .ok (.aload_n 0, 1) := by decide +kernel
theorem dX5_leave_4 : decode cX5_leave 4 = .ok (.getfield 300, 3) := by decide +kernel
theorem dX5_leave_7 : decode cX5_leave 7 = .ok (.imul, 1) := by decide +kernel
theorem dX5_leave_8 : decode cX5_leave 8 = .ok (.iload_n 1, 1) := by decide +kernel
theorem dX5_leave_9 : decode cX5_leave 9 = .ok (.iadd, 1) := by decide +kernel
theorem dX5_leave_10 : decode cX5_leave 10 = .ok (.putfield 300, 3) := by decide +kernel
theorem dX5_leave_13 : decode cX5_leave 13 = .ok (.return_, 1) := by decide +kernel
theorem dX5_as_0 : decode cX5_as 0 = .ok (.aload_n 0, 1) := by decide +kernel
theorem dX5_as_1 : decode cX5_as 1 = .ok (.iconst 0, 1) := by decide +kernel
theorem dX5_as_2 : decode cX5_as 2 = .ok (.putfield 49, 3) := by decide +kernel
theorem dX5_as_5 : decode cX5_as 5 = .ok (.aload_n 0, 1) := by decide +kernel
theorem dX5_as_6 : decode cX5_as 6 = .ok (.iload_n 1, 1) := by decide +kernel
theorem dX5_as_7 : decode cX5_as 7 = .ok (.invokevirtual 105, 3) := by decide +kernel
theorem dX5_as_10 : decode cX5_as 10 = .ok (.ifCond .ne 5, 3) := by decide +kernel
theorem dX5_as_13 : decode cX5_as 13 = .ok (.iconst (-1), 1) := by decide +kernel
theorem dX5_as_14 : decode cX5_as 14 = .ok (.ireturn, 1) := by decide +kernel
theorem dX5_as_15 : decode cX5_as 15 = .ok (.iload_n 2, 1) := by decide +kernel
theorem dX5_as_16 : decode cX5_as 16 = .ok (.iconst 0, 1) := by decide +kernel
theorem dX5_as_17 : decode cX5_as 17 = .ok (.iconst 2, 1) := by decide +kernel
theorem dX5_as_18 : decode cX5_as 18 = .ok (.invokestatic 120, 3) := by decide +kernel
theorem dX5_as_21 : decode cX5_as 21 = .ok (.ifCond .ne 6, 3) := by decide +kernel
theorem dX5_as_24 : decode cX5_as 24 = .ok (.bipush (-2), 2) := by decide +kernel
theorem dX5_as_26 : decode cX5_as 26 = .ok (.ireturn, 1) := by decide +kernel
theorem dX5_as_27 : decode cX5_as 27 = .ok (.iload_n 2, 1) := by decide +kernel
theorem dX5_as_28 : decode cX5_as 28 = .ok (.aload_n 0, 1) := by decide +kernel
theorem dX5_as_29 : decode cX5_as 29 = .ok (.getfield 42, 3) := by decide +kernel
theorem dX5_as_32 : decode cX5_as 32 = .ok (.getfield 108, 3) := by decide +kernel
theorem dX5_as_35 : decode cX5_as 35 = .ok (.iload_n 1, 1) := by decide +kernel
theorem dX5_as_36 : decode cX5_as 36 = .ok (.iaload, 1) := by decide +kernel
theorem dX5_as_37 : decode cX5_as 37 = .ok (.if_icmp .le 11, 3) := by decide +kernel
theorem dX5_as_40 : decode cX5_as 40 = .ok (.aload_n 0, 1) := by decide +kernel
theorem dX5_as_41 : decode cX5_as 41 = .ok (.iconst 2, 1) := by decide +kernel
theorem dX5_as_42 : decode cX5_as 42 = .ok (.invokevirtual 64, 3) := by decide +kernel
theorem dX5_as_45 : decode cX5_as 45 = .ok (.goto 4, 3) := by decide +kernel
theorem dX5_as_48 : decode cX5_as 48 = .ok (.iconst 1, 1) := by decide +kernel
theorem dX5_as_49 : decode cX5_as 49 = .ok (.ireturn, 1) := by decide +kernel
theorem dX5_trace_0 : decode cX5_trace 0 = .ok (.aload_n 0, 1) := by decide +kernel
theorem dX5_trace_1 : decode cX5_trace 1 = .ok (.getfield 300, 3) := by decide +kernel
theorem dX5_trace_4 : decode cX5_trace 4 = .ok (.ireturn, 1) := by decide +kernel
theorem dX5_fault_0 : decode cX5_fault 0 = .ok (.aload_n 0, 1) := by decide +kernel
theorem dX5_fault_1 : decode cX5_fault 1 = .ok (.getfield 49, 3) := by decide +kernel
theorem dX5_fault_4 : decode cX5_fault 4 = .ok (.ireturn, 1) := by decide +kernel
theorem dX5_many_0 : decode cX5_many 0 = .ok (.iload_n 1, 1) := by decide +kernel
theorem dX5_many_1 : decode cX5_many 1 = .ok (.tableswitch 87 0 5 #[39, 47, 55, 63, 71, 79], 39) := by decide +kernel
theorem dX5_many_40 : decode cX5_many 40 = .ok (.aload_n 0, 1) := by decide +kernel
theorem dX5_many_41 : decode cX5_many 41 = .ok (.getfield 42, 3) := by decide +kernel
theorem dX5_many_44 : decode cX5_many 44 = .ok (.getfield 86, 3) := by decide +kernel
theorem dX5_many_47 : decode cX5_many 47 = .ok (.ireturn, 1) := by decide +kernel
theorem dX5_many_48 : decode cX5_many 48 = .ok (.aload_n 0, 1) := by decide +kernel
theorem dX5_many_49 : decode cX5_many 49 = .ok (.getfield 42, 3) := by decide +kernel
theorem dX5_many_52 : decode cX5_many 52 = .ok (.getfield 203, 3) := by decide +kernel
theorem dX5_many_55 : decode cX5_many 55 = .ok (.ireturn, 1) := by decide +kernel
theorem dX5_many_56 : decode cX5_many 56 = .ok (.aload_n 0, 1) := by decide +kernel
theorem dX5_many_57 : decode cX5_many 57 = .ok (.getfield 42, 3) := by decide +kernel
theorem dX5_many_60 : decode cX5_many 60 = .ok (.getfield 131, 3) := by decide +kernel
theorem dX5_many_63 : decode cX5_many 63 = .ok (.ireturn, 1) := by decide +kernel
theorem dX5_many_64 : decode cX5_many 64 = .ok (.aload_n 0, 1) := by decide +kernel
theorem dX5_many_65 : decode cX5_many 65 = .ok (.getfield 42, 3) := by decide +kernel
theorem dX5_many_68 : decode cX5_many 68 = .ok (.getfield 134, 3) := by decide +kernel
theorem dX5_many_71 : decode cX5_many 71 = .ok (.ireturn, 1) := by decide +kernel
theorem dX5_many_72 : decode cX5_many 72 = .ok (.aload_n 0, 1) := by decide +kernel
theorem dX5_many_73 : decode cX5_many 73 = .ok (.getfield 42, 3) := by decide +kernel
theorem dX5_many_76 : decode cX5_many 76 = .ok (.getfield 137, 3) := by decide +kernel
theorem dX5_many_79 : decode cX5_many 79 = .ok (.ireturn, 1) := by decide +kernel
theorem dX5_many_80 : decode cX5_many 80 = .ok (.aload_n 0, 1) := by decide +kernel
theorem dX5_many_81 : decode cX5_many 81 = .ok (.getfield 28, 3) := by decide +kernel
theorem dX5_many_84 : decode cX5_many 84 = .ok (.getfield 83, 3) := by decide +kernel
theorem dX5_many_87 : decode cX5_many 87 = .ok (.ireturn, 1) := by decide +kernel
theorem dX5_many_88 : decode cX5_many 88 = .ok (.bipush (-2), 2) := by decide +kernel
theorem dX5_many_90 : decode cX5_many 90 = .ok (.ireturn, 1) := by decide +kernel
theorem dX5_isWithin_0 : decode cX5_isWithin 0 = .ok (.iload_n 0, 1) := by decide +kernel
theorem dX5_isWithin_1 : decode cX5_isWithin 1 = .ok (.iload_n 1, 1) := by decide +kernel
theorem dX5_isWithin_2 : decode cX5_isWithin 2 = .ok (.if_icmp .lt 12, 3) := by decide +kernel
theorem dX5_isWithin_5 : decode cX5_isWithin 5 = .ok (.iload_n 0, 1) := by decide +kernel
theorem dX5_isWithin_6 : decode cX5_isWithin 6 = .ok (.iload_n 2, 1) := by decide +kernel
theorem dX5_isWithin_7 : decode cX5_isWithin 7 = .ok (.if_icmp .gt 7, 3) := by decide +kernel
theorem dX5_isWithin_10 : decode cX5_isWithin 10 = .ok (.iconst 1, 1) := by decide +kernel
theorem dX5_isWithin_11 : decode cX5_isWithin 11 = .ok (.goto 4, 3) := by decide +kernel
theorem dX5_isWithin_14 : decode cX5_isWithin 14 = .ok (.iconst 0, 1) := by decide +kernel
theorem dX5_isWithin_15 : decode cX5_isWithin 15 = .ok (.ireturn, 1) := by decide +kernel
theorem dX5_isDigit_0 : decode cX5_isDigit 0 = .ok (.iload_n 0, 1) := by decide +kernel
theorem dX5_isDigit_1 : decode cX5_isDigit 1 = .ok (.iconst 0, 1) := by decide +kernel
theorem dX5_isDigit_2 : decode cX5_isDigit 2 = .ok (.bipush 9, 2) := by decide +kernel
theorem dX5_isDigit_4 : decode cX5_isDigit 4 = .ok (.invokestatic 120, 3) := by decide +kernel
theorem dX5_isDigit_7 : decode cX5_isDigit 7 = .ok (.ireturn, 1) := by decide +kernel
theorem dX5_isSheet_0 : decode cX5_isSheet 0 = .ok (.iload_n 0, 1) := by decide +kernel
theorem dX5_isSheet_1 : decode cX5_isSheet 1 = .ok (.iconst 0, 1) := by decide +kernel
theorem dX5_isSheet_2 : decode cX5_isSheet 2 = .ok (.iconst 3, 1) := by decide +kernel
theorem dX5_isSheet_3 : decode cX5_isSheet 3 = .ok (.invokestatic 120, 3) := by decide +kernel
theorem dX5_isSheet_6 : decode cX5_isSheet 6 = .ok (.ireturn, 1) := by decide +kernel
theorem dX5_isLane_0 : decode cX5_isLane 0 = .ok (.iload_n 0, 1) := by decide +kernel
theorem dX5_isLane_1 : decode cX5_isLane 1 = .ok (.iconst 0, 1) := by decide +kernel
theorem dX5_isLane_2 : decode cX5_isLane 2 = .ok (.iconst 2, 1) := by decide +kernel
theorem dX5_isLane_3 : decode cX5_isLane 3 = .ok (.invokestatic 120, 3) := by decide +kernel
theorem dX5_isLane_6 : decode cX5_isLane 6 = .ok (.ireturn, 1) := by decide +kernel
theorem dX5_isToldOfYears_0 : decode cX5_isToldOfYears 0 = .ok (.iload_n 0, 1) := by decide +kernel
theorem dX5_isToldOfYears_1 : decode cX5_isToldOfYears 1 = .ok (.iconst 0, 1) := by decide +kernel
theorem dX5_isToldOfYears_2 : decode cX5_isToldOfYears 2 = .ok (.iconst 3, 1) := by decide +kernel
theorem dX5_isToldOfYears_3 : decode cX5_isToldOfYears 3 = .ok (.invokestatic 120, 3) := by decide +kernel
theorem dX5_isToldOfYears_6 : decode cX5_isToldOfYears 6 = .ok (.ifCond .ne 25, 3) := by decide +kernel
theorem dX5_isToldOfYears_9 : decode cX5_isToldOfYears 9 = .ok (.iload_n 0, 1) := by decide +kernel
theorem dX5_isToldOfYears_10 : decode cX5_isToldOfYears 10 = .ok (.bipush 10, 2) := by decide +kernel
theorem dX5_isToldOfYears_12 : decode cX5_isToldOfYears 12 = .ok (.bipush 15, 2) := by decide +kernel
theorem dX5_isToldOfYears_14 : decode cX5_isToldOfYears 14 = .ok (.invokestatic 120, 3) := by decide +kernel
theorem dX5_isToldOfYears_17 : decode cX5_isToldOfYears 17 = .ok (.ifCond .ne 14, 3) := by decide +kernel
theorem dX5_isToldOfYears_20 : decode cX5_isToldOfYears 20 = .ok (.iload_n 0, 1) := by decide +kernel
theorem dX5_isToldOfYears_21 : decode cX5_isToldOfYears 21 = .ok (.bipush 20, 2) := by decide +kernel
theorem dX5_isToldOfYears_23 : decode cX5_isToldOfYears 23 = .ok (.bipush 29, 2) := by decide +kernel
theorem dX5_isToldOfYears_25 : decode cX5_isToldOfYears 25 = .ok (.invokestatic 120, 3) := by decide +kernel
theorem dX5_isToldOfYears_28 : decode cX5_isToldOfYears 28 = .ok (.ifCond .eq 7, 3) := by decide +kernel
theorem dX5_isToldOfYears_31 : decode cX5_isToldOfYears 31 = .ok (.iconst 1, 1) := by decide +kernel
theorem dX5_isToldOfYears_32 : decode cX5_isToldOfYears 32 = .ok (.goto 4, 3) := by decide +kernel
theorem dX5_isToldOfYears_35 : decode cX5_isToldOfYears 35 = .ok (.iconst 0, 1) := by decide +kernel
theorem dX5_isToldOfYears_36 : decode cX5_isToldOfYears 36 = .ok (.ireturn, 1) := by decide +kernel
theorem dX5_oneIf_0 : decode cX5_oneIf 0 = .ok (.iload_n 0, 1) := by decide +kernel
theorem dX5_oneIf_1 : decode cX5_oneIf 1 = .ok (.ifCond .eq 7, 3) := by decide +kernel
theorem dX5_oneIf_4 : decode cX5_oneIf 4 = .ok (.iconst 1, 1) := by decide +kernel
theorem dX5_oneIf_5 : decode cX5_oneIf 5 = .ok (.goto 4, 3) := by decide +kernel
theorem dX5_oneIf_8 : decode cX5_oneIf 8 = .ok (.iconst 0, 1) := by decide +kernel
theorem dX5_oneIf_9 : decode cX5_oneIf 9 = .ok (.ireturn, 1) := by decide +kernel
theorem dX5_isPool_0 : decode cX5_isPool 0 = .ok (.iload_n 1, 1) := by decide +kernel
theorem dX5_isPool_1 : decode cX5_isPool 1 = .ok (.iconst 0, 1) := by decide +kernel
theorem dX5_isPool_2 : decode cX5_isPool 2 = .ok (.aload_n 0, 1) := by decide +kernel
theorem dX5_isPool_3 : decode cX5_isPool 3 = .ok (.getfield 42, 3) := by decide +kernel
theorem dX5_isPool_6 : decode cX5_isPool 6 = .ok (.getfield 203, 3) := by decide +kernel
theorem dX5_isPool_9 : decode cX5_isPool 9 = .ok (.iconst 1, 1) := by decide +kernel
theorem dX5_isPool_10 : decode cX5_isPool 10 = .ok (.isub, 1) := by decide +kernel
theorem dX5_isPool_11 : decode cX5_isPool 11 = .ok (.invokestatic 120, 3) := by decide +kernel
theorem dX5_isPool_14 : decode cX5_isPool 14 = .ok (.ireturn, 1) := by decide +kernel
theorem dX5_isMember_0 : decode cX5_isMember 0 = .ok (.iload_n 1, 1) := by decide +kernel
theorem dX5_isMember_1 : decode cX5_isMember 1 = .ok (.iconst 0, 1) := by decide +kernel
theorem dX5_isMember_2 : decode cX5_isMember 2 = .ok (.aload_n 0, 1) := by decide +kernel
theorem dX5_isMember_3 : decode cX5_isMember 3 = .ok (.getfield 42, 3) := by decide +kernel
theorem dX5_isMember_6 : decode cX5_isMember 6 = .ok (.getfield 86, 3) := by decide +kernel
theorem dX5_isMember_9 : decode cX5_isMember 9 = .ok (.iconst 1, 1) := by decide +kernel
theorem dX5_isMember_10 : decode cX5_isMember 10 = .ok (.isub, 1) := by decide +kernel
theorem dX5_isMember_11 : decode cX5_isMember 11 = .ok (.invokestatic 120, 3) := by decide +kernel
theorem dX5_isMember_14 : decode cX5_isMember 14 = .ok (.ireturn, 1) := by decide +kernel
theorem dX5_hasShore_0 : decode cX5_hasShore 0 = .ok (.aload_n 0, 1) := by decide +kernel
theorem dX5_hasShore_1 : decode cX5_hasShore 1 = .ok (.getfield 42, 3) := by decide +kernel
theorem dX5_hasShore_4 : decode cX5_hasShore 4 = .ok (.getfield 203, 3) := by decide +kernel
theorem dX5_hasShore_7 : decode cX5_hasShore 7 = .ok (.ifCond .le 7, 3) := by decide +kernel
theorem dX5_hasShore_10 : decode cX5_hasShore 10 = .ok (.iconst 1, 1) := by decide +kernel
theorem dX5_hasShore_11 : decode cX5_hasShore 11 = .ok (.goto 4, 3) := by decide +kernel
theorem dX5_hasShore_14 : decode cX5_hasShore 14 = .ok (.iconst 0, 1) := by decide +kernel
theorem dX5_hasShore_15 : decode cX5_hasShore 15 = .ok (.ireturn, 1) := by decide +kernel
theorem dX5_refusalUnless_0 : decode cX5_refusalUnless 0 = .ok (.iload_n 1, 1) := by decide +kernel
theorem dX5_refusalUnless_1 : decode cX5_refusalUnless 1 = .ok (.ifCond .ne 6, 3) := by decide +kernel
theorem dX5_refusalUnless_4 : decode cX5_refusalUnless 4 = .ok (.bipush (-2), 2) := by decide +kernel
theorem dX5_refusalUnless_6 : decode cX5_refusalUnless 6 = .ok (.ireturn, 1) := by decide +kernel
theorem dX5_refusalUnless_7 : decode cX5_refusalUnless 7 = .ok (.aload_n 0, 1) := by decide +kernel
theorem dX5_refusalUnless_8 : decode cX5_refusalUnless 8 = .ok (.invokevirtual 254, 3) := by decide +kernel
theorem dX5_refusalUnless_11 : decode cX5_refusalUnless 11 = .ok (.ifCond .eq 7, 3) := by decide +kernel
theorem dX5_refusalUnless_14 : decode cX5_refusalUnless 14 = .ok (.iconst 0, 1) := by decide +kernel
theorem dX5_refusalUnless_15 : decode cX5_refusalUnless 15 = .ok (.goto 5, 3) := by decide +kernel
theorem dX5_refusalUnless_18 : decode cX5_refusalUnless 18 = .ok (.bipush (-3), 2) := by decide +kernel
theorem dX5_refusalUnless_20 : decode cX5_refusalUnless 20 = .ok (.ireturn, 1) := by decide +kernel
theorem dX5_refusalOfRow_0 : decode cX5_refusalOfRow 0 = .ok (.aload_n 0, 1) := by decide +kernel
theorem dX5_refusalOfRow_1 : decode cX5_refusalOfRow 1 = .ok (.iconst 0, 1) := by decide +kernel
theorem dX5_refusalOfRow_2 : decode cX5_refusalOfRow 2 = .ok (.putfield 49, 3) := by decide +kernel
theorem dX5_refusalOfRow_5 : decode cX5_refusalOfRow 5 = .ok (.iload_n 1, 1) := by decide +kernel
theorem dX5_refusalOfRow_6 : decode cX5_refusalOfRow 6 = .ok (.invokestatic 53, 3) := by decide +kernel
theorem dX5_refusalOfRow_9 : decode cX5_refusalOfRow 9 = .ok (.ifCond .ne 5, 3) := by decide +kernel
theorem dX5_refusalOfRow_12 : decode cX5_refusalOfRow 12 = .ok (.iconst (-1), 1) := by decide +kernel
theorem dX5_refusalOfRow_13 : decode cX5_refusalOfRow 13 = .ok (.ireturn, 1) := by decide +kernel
theorem dX5_refusalOfRow_14 : decode cX5_refusalOfRow 14 = .ok (.iload_n 2, 1) := by decide +kernel
theorem dX5_refusalOfRow_15 : decode cX5_refusalOfRow 15 = .ok (.invokestatic 57, 3) := by decide +kernel
theorem dX5_refusalOfRow_18 : decode cX5_refusalOfRow 18 = .ok (.ifCond .eq 19, 3) := by decide +kernel
theorem dX5_refusalOfRow_21 : decode cX5_refusalOfRow 21 = .ok (.iload 4, 2) := by decide +kernel
theorem dX5_refusalOfRow_23 : decode cX5_refusalOfRow 23 = .ok (.iconst 0, 1) := by decide +kernel
theorem dX5_refusalOfRow_24 : decode cX5_refusalOfRow 24 = .ok (.bipush 20, 2) := by decide +kernel
theorem dX5_refusalOfRow_26 : decode cX5_refusalOfRow 26 = .ok (.invokestatic 120, 3) := by decide +kernel
theorem dX5_refusalOfRow_29 : decode cX5_refusalOfRow 29 = .ok (.ifCond .eq 8, 3) := by decide +kernel
theorem dX5_refusalOfRow_32 : decode cX5_refusalOfRow 32 = .ok (.iload 5, 2) := by decide +kernel
theorem dX5_refusalOfRow_34 : decode cX5_refusalOfRow 34 = .ok (.ifCond .ne 6, 3) := by decide +kernel
theorem dX5_refusalOfRow_37 : decode cX5_refusalOfRow 37 = .ok (.bipush (-2), 2) := by decide +kernel
theorem dX5_refusalOfRow_39 : decode cX5_refusalOfRow 39 = .ok (.ireturn, 1) := by decide +kernel
theorem dX5_refusalOfRow_40 : decode cX5_refusalOfRow 40 = .ok (.aload_n 0, 1) := by decide +kernel
theorem dX5_refusalOfRow_41 : decode cX5_refusalOfRow 41 = .ok (.getfield 13, 3) := by decide +kernel
theorem dX5_refusalOfRow_44 : decode cX5_refusalOfRow 44 = .ok (.iload_n 1, 1) := by decide +kernel
theorem dX5_refusalOfRow_45 : decode cX5_refusalOfRow 45 = .ok (.aaload, 1) := by decide +kernel
theorem dX5_refusalOfRow_46 : decode cX5_refusalOfRow 46 = .ok (.iload_n 2, 1) := by decide +kernel
theorem dX5_refusalOfRow_47 : decode cX5_refusalOfRow 47 = .ok (.iload_n 3, 1) := by decide +kernel
theorem dX5_refusalOfRow_48 : decode cX5_refusalOfRow 48 = .ok (.iload 4, 2) := by decide +kernel
theorem dX5_refusalOfRow_50 : decode cX5_refusalOfRow 50 = .ok (.invokestatic 60, 3) := by decide +kernel
theorem dX5_refusalOfRow_53 : decode cX5_refusalOfRow 53 = .ok (.istore 6, 2) := by decide +kernel
theorem dX5_refusalOfRow_55 : decode cX5_refusalOfRow 55 = .ok (.iload 6, 2) := by decide +kernel
theorem dX5_refusalOfRow_57 : decode cX5_refusalOfRow 57 = .ok (.ifCond .eq 10, 3) := by decide +kernel
theorem dX5_refusalOfRow_60 : decode cX5_refusalOfRow 60 = .ok (.aload_n 0, 1) := by decide +kernel
theorem dX5_refusalOfRow_61 : decode cX5_refusalOfRow 61 = .ok (.iload 6, 2) := by decide +kernel
theorem dX5_refusalOfRow_63 : decode cX5_refusalOfRow 63 = .ok (.invokevirtual 64, 3) := by decide +kernel
theorem dX5_refusalOfRow_66 : decode cX5_refusalOfRow 66 = .ok (.ireturn, 1) := by decide +kernel
theorem dX5_refusalOfRow_67 : decode cX5_refusalOfRow 67 = .ok (.aload_n 0, 1) := by decide +kernel
theorem dX5_refusalOfRow_68 : decode cX5_refusalOfRow 68 = .ok (.invokevirtual 254, 3) := by decide +kernel
theorem dX5_refusalOfRow_71 : decode cX5_refusalOfRow 71 = .ok (.ifCond .eq 7, 3) := by decide +kernel
theorem dX5_refusalOfRow_74 : decode cX5_refusalOfRow 74 = .ok (.iconst 0, 1) := by decide +kernel
theorem dX5_refusalOfRow_75 : decode cX5_refusalOfRow 75 = .ok (.goto 5, 3) := by decide +kernel
theorem dX5_refusalOfRow_78 : decode cX5_refusalOfRow 78 = .ok (.bipush (-3), 2) := by decide +kernel
theorem dX5_refusalOfRow_80 : decode cX5_refusalOfRow 80 = .ok (.ireturn, 1) := by decide +kernel
theorem dX5_faulted_0 : decode cX5_faulted 0 = .ok (.aload_n 0, 1) := by decide +kernel
theorem dX5_faulted_1 : decode cX5_faulted 1 = .ok (.iload_n 1, 1) := by decide +kernel
theorem dX5_faulted_2 : decode cX5_faulted 2 = .ok (.putfield 49, 3) := by decide +kernel
theorem dX5_faulted_5 : decode cX5_faulted 5 = .ok (.bipush (-10), 2) := by decide +kernel
theorem dX5_faulted_7 : decode cX5_faulted 7 = .ok (.iload_n 1, 1) := by decide +kernel
theorem dX5_faulted_8 : decode cX5_faulted 8 = .ok (.isub, 1) := by decide +kernel
theorem dX5_faulted_9 : decode cX5_faulted 9 = .ok (.ireturn, 1) := by decide +kernel
theorem dX5_rowFault_0 : decode cX5_rowFault 0 = .ok (.aload_n 0, 1) := by decide +kernel
theorem dX5_rowFault_1 : decode cX5_rowFault 1 = .ok (.getfield 269, 3) := by decide +kernel
theorem dX5_rowFault_4 : decode cX5_rowFault 4 = .ok (.ifCond .eq 13, 3) := by decide +kernel
theorem dX5_rowFault_7 : decode cX5_rowFault 7 = .ok (.aload_n 0, 1) := by decide +kernel
theorem dX5_rowFault_8 : decode cX5_rowFault 8 = .ok (.getfield 279, 3) := by decide +kernel
theorem dX5_rowFault_11 : decode cX5_rowFault 11 = .ok (.iload_n 1, 1) := by decide +kernel
theorem dX5_rowFault_12 : decode cX5_rowFault 12 = .ok (.if_icmp .eq 5, 3) := by decide +kernel
theorem dX5_rowFault_15 : decode cX5_rowFault 15 = .ok (.iconst 2, 1) := by decide +kernel
theorem dX5_rowFault_16 : decode cX5_rowFault 16 = .ok (.ireturn, 1) := by decide +kernel
theorem dX5_rowFault_17 : decode cX5_rowFault 17 = .ok (.aload_n 0, 1) := by decide +kernel
theorem dX5_rowFault_18 : decode cX5_rowFault 18 = .ok (.getfield 269, 3) := by decide +kernel
theorem dX5_rowFault_21 : decode cX5_rowFault 21 = .ok (.ifCond .ne 5, 3) := by decide +kernel
theorem dX5_rowFault_24 : decode cX5_rowFault 24 = .ok (.iconst 1, 1) := by decide +kernel
theorem dX5_rowFault_25 : decode cX5_rowFault 25 = .ok (.ireturn, 1) := by decide +kernel
theorem dX5_rowFault_26 : decode cX5_rowFault 26 = .ok (.iload_n 3, 1) := by decide +kernel
theorem dX5_rowFault_27 : decode cX5_rowFault 27 = .ok (.ifCond .ge 5, 3) := by decide +kernel
theorem dX5_rowFault_30 : decode cX5_rowFault 30 = .ok (.iconst 4, 1) := by decide +kernel
theorem dX5_rowFault_31 : decode cX5_rowFault 31 = .ok (.ireturn, 1) := by decide +kernel
theorem dX5_rowFault_32 : decode cX5_rowFault 32 = .ok (.aload_n 0, 1) := by decide +kernel
theorem dX5_rowFault_33 : decode cX5_rowFault 33 = .ok (.iload_n 2, 1) := by decide +kernel
theorem dX5_rowFault_34 : decode cX5_rowFault 34 = .ok (.iload_n 3, 1) := by decide +kernel
theorem dX5_rowFault_35 : decode cX5_rowFault 35 = .ok (.invokevirtual 273, 3) := by decide +kernel
theorem dX5_rowFault_38 : decode cX5_rowFault 38 = .ok (.ifCond .eq 7, 3) := by decide +kernel
theorem dX5_rowFault_41 : decode cX5_rowFault 41 = .ok (.iconst 0, 1) := by decide +kernel
theorem dX5_rowFault_42 : decode cX5_rowFault 42 = .ok (.goto 4, 3) := by decide +kernel
theorem dX5_rowFault_45 : decode cX5_rowFault 45 = .ok (.iconst 3, 1) := by decide +kernel
theorem dX5_rowFault_46 : decode cX5_rowFault 46 = .ok (.ireturn, 1) := by decide +kernel
theorem dX5_swapShores_0 : decode cX5_swapShores 0 = .ok (.aload_n 0, 1) := by decide +kernel
theorem dX5_swapShores_1 : decode cX5_swapShores 1 = .ok (.getfield 42, 3) := by decide +kernel
theorem dX5_swapShores_4 : decode cX5_swapShores 4 = .ok (.astore_n 1, 1) := by decide +kernel
theorem dX5_swapShores_5 : decode cX5_swapShores 5 = .ok (.aload_n 0, 1) := by decide +kernel
theorem dX5_swapShores_6 : decode cX5_swapShores 6 = .ok (.aload_n 0, 1) := by decide +kernel
theorem dX5_swapShores_7 : decode cX5_swapShores 7 = .ok (.getfield 46, 3) := by decide +kernel
theorem dX5_swapShores_10 : decode cX5_swapShores 10 = .ok (.putfield 42, 3) := by decide +kernel
theorem dX5_swapShores_13 : decode cX5_swapShores 13 = .ok (.aload_n 0, 1) := by decide +kernel
theorem dX5_swapShores_14 : decode cX5_swapShores 14 = .ok (.aload_n 1, 1) := by decide +kernel
theorem dX5_swapShores_15 : decode cX5_swapShores 15 = .ok (.putfield 46, 3) := by decide +kernel
theorem dX5_swapShores_18 : decode cX5_swapShores 18 = .ok (.return_, 1) := by decide +kernel
theorem dJ6_bitCount_0f7a4_0 : decode cJ6_bitCount_0f7a4 0 = .ok (.iload_n 0, 1) := by decide +kernel
theorem dJ6_bitCount_0f7a4_1 : decode cJ6_bitCount_0f7a4 1 = .ok (.iload_n 0, 1) := by decide +kernel
theorem dJ6_bitCount_0f7a4_2 : decode cJ6_bitCount_0f7a4 2 = .ok (.iconst 1, 1) := by decide +kernel
theorem dJ6_bitCount_0f7a4_3 : decode cJ6_bitCount_0f7a4 3 = .ok (.iushr, 1) := by decide +kernel
theorem dJ6_bitCount_0f7a4_4 : decode cJ6_bitCount_0f7a4 4 = .ok (.ldc_w 265, 3) := by decide +kernel
theorem dJ6_bitCount_0f7a4_7 : decode cJ6_bitCount_0f7a4 7 = .ok (.iand, 1) := by decide +kernel
theorem dJ6_bitCount_0f7a4_8 : decode cJ6_bitCount_0f7a4 8 = .ok (.isub, 1) := by decide +kernel
theorem dJ6_bitCount_0f7a4_9 : decode cJ6_bitCount_0f7a4 9 = .ok (.istore_n 0, 1) := by decide +kernel
theorem dJ6_bitCount_0f7a4_10 : decode cJ6_bitCount_0f7a4 10 = .ok (.iload_n 0, 1) := by decide +kernel
theorem dJ6_bitCount_0f7a4_11 : decode cJ6_bitCount_0f7a4 11 = .ok (.ldc_w 266, 3) := by decide +kernel
theorem dJ6_bitCount_0f7a4_14 : decode cJ6_bitCount_0f7a4 14 = .ok (.iand, 1) := by decide +kernel
theorem dJ6_bitCount_0f7a4_15 : decode cJ6_bitCount_0f7a4 15 = .ok (.iload_n 0, 1) := by decide +kernel
theorem dJ6_bitCount_0f7a4_16 : decode cJ6_bitCount_0f7a4 16 = .ok (.iconst 2, 1) := by decide +kernel
theorem dJ6_bitCount_0f7a4_17 : decode cJ6_bitCount_0f7a4 17 = .ok (.iushr, 1) := by decide +kernel
theorem dJ6_bitCount_0f7a4_18 : decode cJ6_bitCount_0f7a4 18 = .ok (.ldc_w 266, 3) := by decide +kernel
theorem dJ6_bitCount_0f7a4_21 : decode cJ6_bitCount_0f7a4 21 = .ok (.iand, 1) := by decide +kernel
theorem dJ6_bitCount_0f7a4_22 : decode cJ6_bitCount_0f7a4 22 = .ok (.iadd, 1) := by decide +kernel
theorem dJ6_bitCount_0f7a4_23 : decode cJ6_bitCount_0f7a4 23 = .ok (.istore_n 0, 1) := by decide +kernel
theorem dJ6_bitCount_0f7a4_24 : decode cJ6_bitCount_0f7a4 24 = .ok (.iload_n 0, 1) := by decide +kernel
theorem dJ6_bitCount_0f7a4_25 : decode cJ6_bitCount_0f7a4 25 = .ok (.iload_n 0, 1) := by decide +kernel
theorem dJ6_bitCount_0f7a4_26 : decode cJ6_bitCount_0f7a4 26 = .ok (.iconst 4, 1) := by decide +kernel
theorem dJ6_bitCount_0f7a4_27 : decode cJ6_bitCount_0f7a4 27 = .ok (.iushr, 1) := by decide +kernel
theorem dJ6_bitCount_0f7a4_28 : decode cJ6_bitCount_0f7a4 28 = .ok (.iadd, 1) := by decide +kernel
theorem dJ6_bitCount_0f7a4_29 : decode cJ6_bitCount_0f7a4 29 = .ok (.ldc_w 267, 3) := by decide +kernel
theorem dJ6_bitCount_0f7a4_32 : decode cJ6_bitCount_0f7a4 32 = .ok (.iand, 1) := by decide +kernel
theorem dJ6_bitCount_0f7a4_33 : decode cJ6_bitCount_0f7a4 33 = .ok (.istore_n 0, 1) := by decide +kernel
theorem dJ6_bitCount_0f7a4_34 : decode cJ6_bitCount_0f7a4 34 = .ok (.iload_n 0, 1) := by decide +kernel
theorem dJ6_bitCount_0f7a4_35 : decode cJ6_bitCount_0f7a4 35 = .ok (.iload_n 0, 1) := by decide +kernel
theorem dJ6_bitCount_0f7a4_36 : decode cJ6_bitCount_0f7a4 36 = .ok (.bipush 8, 2) := by decide +kernel
theorem dJ6_bitCount_0f7a4_38 : decode cJ6_bitCount_0f7a4 38 = .ok (.iushr, 1) := by decide +kernel
theorem dJ6_bitCount_0f7a4_39 : decode cJ6_bitCount_0f7a4 39 = .ok (.iadd, 1) := by decide +kernel
theorem dJ6_bitCount_0f7a4_40 : decode cJ6_bitCount_0f7a4 40 = .ok (.istore_n 0, 1) := by decide +kernel
theorem dJ6_bitCount_0f7a4_41 : decode cJ6_bitCount_0f7a4 41 = .ok (.iload_n 0, 1) := by decide +kernel
theorem dJ6_bitCount_0f7a4_42 : decode cJ6_bitCount_0f7a4 42 = .ok (.iload_n 0, 1) := by decide +kernel
theorem dJ6_bitCount_0f7a4_43 : decode cJ6_bitCount_0f7a4 43 = .ok (.bipush 16, 2) := by decide +kernel
theorem dJ6_bitCount_0f7a4_45 : decode cJ6_bitCount_0f7a4 45 = .ok (.iushr, 1) := by decide +kernel
theorem dJ6_bitCount_0f7a4_46 : decode cJ6_bitCount_0f7a4 46 = .ok (.iadd, 1) := by decide +kernel
theorem dJ6_bitCount_0f7a4_47 : decode cJ6_bitCount_0f7a4 47 = .ok (.istore_n 0, 1) := by decide +kernel
theorem dJ6_bitCount_0f7a4_48 : decode cJ6_bitCount_0f7a4 48 = .ok (.iload_n 0, 1) := by decide +kernel
theorem dJ6_bitCount_0f7a4_49 : decode cJ6_bitCount_0f7a4 49 = .ok (.bipush 63, 2) := by decide +kernel
theorem dJ6_bitCount_0f7a4_51 : decode cJ6_bitCount_0f7a4 51 = .ok (.iand, 1) := by decide +kernel
theorem dJ6_bitCount_0f7a4_52 : decode cJ6_bitCount_0f7a4 52 = .ok (.ireturn, 1) := by decide +kernel
theorem dJ9_abs_0f7a4_0 : decode cJ9_abs_0f7a4 0 = .ok (.iload_n 0, 1) := by decide +kernel
theorem dJ9_abs_0f7a4_1 : decode cJ9_abs_0f7a4 1 = .ok (.ifCond .ge 8, 3) := by decide +kernel
theorem dJ9_abs_0f7a4_4 : decode cJ9_abs_0f7a4 4 = .ok (.iload_n 0, 1) := by decide +kernel
theorem dJ9_abs_0f7a4_5 : decode cJ9_abs_0f7a4 5 = .ok (.ineg, 1) := by decide +kernel
theorem dJ9_abs_0f7a4_6 : decode cJ9_abs_0f7a4 6 = .ok (.goto 4, 3) := by decide +kernel
theorem dJ9_abs_0f7a4_9 : decode cJ9_abs_0f7a4 9 = .ok (.iload_n 0, 1) := by decide +kernel
theorem dJ9_abs_0f7a4_10 : decode cJ9_abs_0f7a4 10 = .ok (.ireturn, 1) := by decide +kernel
end
section
theorem dX6_init_0 : decode cX6_init 0 = .ok (.aload_n 0, 1) := by decide +kernel
theorem dX6_init_1 : decode cX6_init 1 = .ok (.invokespecial 1, 3) := by decide +kernel
theorem dX6_init_4 : decode cX6_init 4 = .ok (.aload_n 0, 1) := by decide +kernel
theorem dX6_init_5 : decode cX6_init 5 = .ok (.iconst 4, 1) := by decide +kernel
theorem dX6_init_6 : decode cX6_init 6 = .ok (.newarray .int, 2) := by decide +kernel
theorem dX6_init_8 : decode cX6_init 8 = .ok (.dup, 1) := by decide +kernel
theorem dX6_init_9 : decode cX6_init 9 = .ok (.iconst 0, 1) := by decide +kernel
theorem dX6_init_10 : decode cX6_init 10 = .ok (.bipush (-9), 2) := by decide +kernel
theorem dX6_init_12 : decode cX6_init 12 = .ok (.iastore, 1) := by decide +kernel
theorem dX6_init_13 : decode cX6_init 13 = .ok (.dup, 1) := by decide +kernel
theorem dX6_init_14 : decode cX6_init 14 = .ok (.iconst 1, 1) := by decide +kernel
theorem dX6_init_15 : decode cX6_init 15 = .ok (.bipush (-9), 2) := by decide +kernel
theorem dX6_init_17 : decode cX6_init 17 = .ok (.iastore, 1) := by decide +kernel
theorem dX6_init_18 : decode cX6_init 18 = .ok (.dup, 1) := by decide +kernel
theorem dX6_init_19 : decode cX6_init 19 = .ok (.iconst 2, 1) := by decide +kernel
theorem dX6_init_20 : decode cX6_init 20 = .ok (.bipush (-9), 2) := by decide +kernel
theorem dX6_init_22 : decode cX6_init 22 = .ok (.iastore, 1) := by decide +kernel
theorem dX6_init_23 : decode cX6_init 23 = .ok (.dup, 1) := by decide +kernel
theorem dX6_init_24 : decode cX6_init 24 = .ok (.iconst 3, 1) := by decide +kernel
theorem dX6_init_25 : decode cX6_init 25 = .ok (.bipush (-9), 2) := by decide +kernel
theorem dX6_init_27 : decode cX6_init 27 = .ok (.iastore, 1) := by decide +kernel
theorem dX6_init_28 : decode cX6_init 28 = .ok (.putfield 9, 3) := by decide +kernel
theorem dX6_init_31 : decode cX6_init 31 = .ok (.aload_n 0, 1) := by decide +kernel
theorem dX6_init_32 : decode cX6_init 32 = .ok (.iconst 4, 1) := by decide +kernel
theorem dX6_init_33 : decode cX6_init 33 = .ok (.newarray .int, 2) := by decide +kernel
theorem dX6_init_35 : decode cX6_init 35 = .ok (.putfield 13, 3) := by decide +kernel
theorem dX6_init_38 : decode cX6_init 38 = .ok (.aload_n 0, 1) := by decide +kernel
theorem dX6_init_39 : decode cX6_init 39 = .ok (.sipush 240, 3) := by decide +kernel
theorem dX6_init_42 : decode cX6_init 42 = .ok (.newarray .int, 2) := by decide +kernel
theorem dX6_init_44 : decode cX6_init 44 = .ok (.putfield 16, 3) := by decide +kernel
theorem dX6_init_47 : decode cX6_init 47 = .ok (.aload_n 0, 1) := by decide +kernel
theorem dX6_init_48 : decode cX6_init 48 = .ok (.bipush 6, 2) := by decide +kernel
theorem dX6_init_50 : decode cX6_init 50 = .ok (.newarray .int, 2) := by decide +kernel
theorem dX6_init_52 : decode cX6_init 52 = .ok (.putfield 19, 3) := by decide +kernel
theorem dX6_init_55 : decode cX6_init 55 = .ok (.aload_n 0, 1) := by decide +kernel
theorem dX6_init_56 : decode cX6_init 56 = .ok (.bipush 6, 2) := by decide +kernel
theorem dX6_init_58 : decode cX6_init 58 = .ok (.newarray .int, 2) := by decide +kernel
theorem dX6_init_60 : decode cX6_init 60 = .ok (.putfield 22, 3) := by decide +kernel
theorem dX6_init_63 : decode cX6_init 63 = .ok (.aload_n 0, 1) := by decide +kernel
theorem dX6_init_64 : decode cX6_init 64 = .ok (.bipush 6, 2) := by decide +kernel
theorem dX6_init_66 : decode cX6_init 66 = .ok (.newarray .int, 2) := by decide +kernel
theorem dX6_init_68 : decode cX6_init 68 = .ok (.putfield 25, 3) := by decide +kernel
theorem dX6_init_71 : decode cX6_init 71 = .ok (.aload_n 0, 1) := by decide +kernel
theorem dX6_init_72 : decode cX6_init 72 = .ok (.bipush 6, 2) := by decide +kernel
theorem dX6_init_74 : decode cX6_init 74 = .ok (.newarray .int, 2) := by decide +kernel
theorem dX6_init_76 : decode cX6_init 76 = .ok (.putfield 28, 3) := by decide +kernel
theorem dX6_init_79 : decode cX6_init 79 = .ok (.aload_n 0, 1) := by decide +kernel
theorem dX6_init_80 : decode cX6_init 80 = .ok (.bipush 6, 2) := by decide +kernel
theorem dX6_init_82 : decode cX6_init 82 = .ok (.newarray .int, 2) := by decide +kernel
theorem dX6_init_84 : decode cX6_init 84 = .ok (.putfield 31, 3) := by decide +kernel
theorem dX6_init_87 : decode cX6_init 87 = .ok (.aload_n 0, 1) := by decide +kernel
theorem dX6_init_88 : decode cX6_init 88 = .ok (.bipush 6, 2) := by decide +kernel
theorem dX6_init_90 : decode cX6_init 90 = .ok (.newarray .int, 2) := by decide +kernel
theorem dX6_init_92 : decode cX6_init 92 = .ok (.putfield 34, 3) := by decide +kernel
theorem dX6_init_95 : decode cX6_init 95 = .ok (.aload_n 0, 1) := by decide +kernel
theorem dX6_init_96 : decode cX6_init 96 = .ok (.bipush 6, 2) := by decide +kernel
theorem dX6_init_98 : decode cX6_init 98 = .ok (.newarray .int, 2) := by decide +kernel
theorem dX6_init_100 : decode cX6_init 100 = .ok (.putfield 37, 3) := by decide +kernel
theorem dX6_init_103 : decode cX6_init 103 = .ok (.aload_n 0, 1) := by decide +kernel
theorem dX6_init_104 : decode cX6_init 104 = .ok (.bipush 6, 2) := by decide +kernel
theorem dX6_init_106 : decode cX6_init 106 = .ok (.newarray .int, 2) := by decide +kernel
theorem dX6_init_108 : decode cX6_init 108 = .ok (.putfield 40, 3) := by decide +kernel
theorem dX6_init_111 : decode cX6_init 111 = .ok (.aload_n 0, 1) := by decide +kernel
theorem dX6_init_112 : decode cX6_init 112 = .ok (.bipush 6, 2) := by decide +kernel
theorem dX6_init_114 : decode cX6_init 114 = .ok (.newarray .int, 2) := by decide +kernel
theorem dX6_init_116 : decode cX6_init 116 = .ok (.putfield 43, 3) := by decide +kernel
theorem dX6_init_119 : decode cX6_init 119 = .ok (.aload_n 0, 1) := by decide +kernel
theorem dX6_init_120 : decode cX6_init 120 = .ok (.bipush 6, 2) := by decide +kernel
theorem dX6_init_122 : decode cX6_init 122 = .ok (.newarray .int, 2) := by decide +kernel
theorem dX6_init_124 : decode cX6_init 124 = .ok (.putfield 46, 3) := by decide +kernel
theorem dX6_init_127 : decode cX6_init 127 = .ok (.aload_n 0, 1) := by decide +kernel
theorem dX6_init_128 : decode cX6_init 128 = .ok (.bipush 6, 2) := by decide +kernel
theorem dX6_init_130 : decode cX6_init 130 = .ok (.newarray .int, 2) := by decide +kernel
theorem dX6_init_132 : decode cX6_init 132 = .ok (.putfield 49, 3) := by decide +kernel
theorem dX6_init_135 : decode cX6_init 135 = .ok (.aload_n 0, 1) := by decide +kernel
theorem dX6_init_136 : decode cX6_init 136 = .ok (.bipush 6, 2) := by decide +kernel
theorem dX6_init_138 : decode cX6_init 138 = .ok (.newarray .int, 2) := by decide +kernel
theorem dX6_init_140 : decode cX6_init 140 = .ok (.putfield 52, 3) := by decide +kernel
theorem dX6_init_143 : decode cX6_init 143 = .ok (.aload_n 0, 1) := by decide +kernel
theorem dX6_init_144 : decode cX6_init 144 = .ok (.bipush 8, 2) := by decide +kernel
theorem dX6_init_146 : decode cX6_init 146 = .ok (.newarray .int, 2) := by decide +kernel
theorem dX6_init_148 : decode cX6_init 148 = .ok (.putfield 55, 3) := by decide +kernel
theorem dX6_init_151 : decode cX6_init 151 = .ok (.aload_n 0, 1) := by decide +kernel
theorem dX6_init_152 : decode cX6_init 152 = .ok (.bipush 8, 2) := by decide +kernel
theorem dX6_init_154 : decode cX6_init 154 = .ok (.newarray .int, 2) := by decide +kernel
theorem dX6_init_156 : decode cX6_init 156 = .ok (.putfield 58, 3) := by decide +kernel
theorem dX6_init_159 : decode cX6_init 159 = .ok (.aload_n 0, 1) := by decide +kernel
theorem dX6_init_160 : decode cX6_init 160 = .ok (.bipush 8, 2) := by decide +kernel
theorem dX6_init_162 : decode cX6_init 162 = .ok (.newarray .int, 2) := by decide +kernel
theorem dX6_init_164 : decode cX6_init 164 = .ok (.putfield 61, 3) := by decide +kernel
theorem dX6_init_167 : decode cX6_init 167 = .ok (.return_, 1) := by decide +kernel
theorem dX6_fails_0 : decode cX6_fails 0 = .ok (.aload_n 0, 1) := by decide +kernel
theorem dX6_fails_1 : decode cX6_fails 1 = .ok (.iload_n 1, 1) := by decide +kernel
theorem dX6_fails_2 : decode cX6_fails 2 = .ok (.putfield 64, 3) := by decide +kernel
theorem dX6_fails_5 : decode cX6_fails 5 = .ok (.bipush (-10), 2) := by decide +kernel
theorem dX6_fails_7 : decode cX6_fails 7 = .ok (.iload_n 1, 1) := by decide +kernel
theorem dX6_fails_8 : decode cX6_fails 8 = .ok (.isub, 1) := by decide +kernel
theorem dX6_fails_9 : decode cX6_fails 9 = .ok (.ireturn, 1) := by decide +kernel
theorem dX6_lost_0 : decode cX6_lost 0 = .ok (.aload_n 0, 1) := by decide +kernel
theorem dX6_lost_1 : decode cX6_lost 1 = .ok (.iload_n 1, 1) := by decide +kernel
theorem dX6_lost_2 : decode cX6_lost 2 = .ok (.putfield 64, 3) := by decide +kernel
theorem dX6_lost_5 : decode cX6_lost 5 = .ok (.ldc2_w 68, 3) := by decide +kernel
theorem dX6_lost_8 : decode cX6_lost 8 = .ok (.lreturn, 1) := by decide +kernel
theorem dX6_within_0 : decode cX6_within 0 = .ok (.iload_n 0, 1) := by decide +kernel
theorem dX6_within_1 : decode cX6_within 1 = .ok (.iload_n 1, 1) := by decide +kernel
theorem dX6_within_2 : decode cX6_within 2 = .ok (.if_icmp .lt 12, 3) := by decide +kernel
theorem dX6_within_5 : decode cX6_within 5 = .ok (.iload_n 0, 1) := by decide +kernel
theorem dX6_within_6 : decode cX6_within 6 = .ok (.iload_n 2, 1) := by decide +kernel
theorem dX6_within_7 : decode cX6_within 7 = .ok (.if_icmp .gt 7, 3) := by decide +kernel
theorem dX6_within_10 : decode cX6_within 10 = .ok (.iconst 1, 1) := by decide +kernel
theorem dX6_within_11 : decode cX6_within 11 = .ok (.goto 4, 3) := by decide +kernel
theorem dX6_within_14 : decode cX6_within 14 = .ok (.iconst 0, 1) := by decide +kernel
theorem dX6_within_15 : decode cX6_within 15 = .ok (.ireturn, 1) := by decide +kernel
theorem dX6_isSheet_0 : decode cX6_isSheet 0 = .ok (.iload_n 0, 1) := by decide +kernel
theorem dX6_isSheet_1 : decode cX6_isSheet 1 = .ok (.iconst 0, 1) := by decide +kernel
theorem dX6_isSheet_2 : decode cX6_isSheet 2 = .ok (.iconst 3, 1) := by decide +kernel
theorem dX6_isSheet_3 : decode cX6_isSheet 3 = .ok (.invokestatic 70, 3) := by decide +kernel
theorem dX6_isSheet_6 : decode cX6_isSheet 6 = .ok (.ireturn, 1) := by decide +kernel
theorem dX6_isSort_0 : decode cX6_isSort 0 = .ok (.iload_n 0, 1) := by decide +kernel
theorem dX6_isSort_1 : decode cX6_isSort 1 = .ok (.iconst 0, 1) := by decide +kernel
theorem dX6_isSort_2 : decode cX6_isSort 2 = .ok (.iconst 2, 1) := by decide +kernel
theorem dX6_isSort_3 : decode cX6_isSort 3 = .ok (.invokestatic 70, 3) := by decide +kernel
theorem dX6_isSort_6 : decode cX6_isSort 6 = .ok (.ireturn, 1) := by decide +kernel
theorem dX6_against_0 : decode cX6_against 0 = .ok (.aload_n 0, 1) := by decide +kernel
theorem dX6_against_1 : decode cX6_against 1 = .ok (.getfield 9, 3) := by decide +kernel
theorem dX6_against_4 : decode cX6_against 4 = .ok (.iload_n 1, 1) := by decide +kernel
theorem dX6_against_5 : decode cX6_against 5 = .ok (.iaload, 1) := by decide +kernel
theorem dX6_against_6 : decode cX6_against 6 = .ok (.bipush (-9), 2) := by decide +kernel
theorem dX6_against_8 : decode cX6_against 8 = .ok (.if_icmp .eq 15, 3) := by decide +kernel
theorem dX6_against_11 : decode cX6_against 11 = .ok (.aload_n 0, 1) := by decide +kernel
theorem dX6_against_12 : decode cX6_against 12 = .ok (.getfield 9, 3) := by decide +kernel
theorem dX6_against_15 : decode cX6_against 15 = .ok (.iload_n 1, 1) := by decide +kernel
theorem dX6_against_16 : decode cX6_against 16 = .ok (.iaload, 1) := by decide +kernel
theorem dX6_against_17 : decode cX6_against 17 = .ok (.iload_n 2, 1) := by decide +kernel
theorem dX6_against_18 : decode cX6_against 18 = .ok (.if_icmp .eq 5, 3) := by decide +kernel
theorem dX6_against_21 : decode cX6_against 21 = .ok (.iconst 2, 1) := by decide +kernel
theorem dX6_against_22 : decode cX6_against 22 = .ok (.ireturn, 1) := by decide +kernel
theorem dX6_against_23 : decode cX6_against 23 = .ok (.aload_n 0, 1) := by decide +kernel
theorem dX6_against_24 : decode cX6_against 24 = .ok (.getfield 9, 3) := by decide +kernel
theorem dX6_against_27 : decode cX6_against 27 = .ok (.iload_n 1, 1) := by decide +kernel
theorem dX6_against_28 : decode cX6_against 28 = .ok (.iaload, 1) := by decide +kernel
theorem dX6_against_29 : decode cX6_against 29 = .ok (.bipush (-9), 2) := by decide +kernel
theorem dX6_against_31 : decode cX6_against 31 = .ok (.if_icmp .ne 5, 3) := by decide +kernel
theorem dX6_against_34 : decode cX6_against 34 = .ok (.iconst 1, 1) := by decide +kernel
theorem dX6_against_35 : decode cX6_against 35 = .ok (.ireturn, 1) := by decide +kernel
theorem dX6_against_36 : decode cX6_against 36 = .ok (.iload 4, 2) := by decide +kernel
theorem dX6_against_38 : decode cX6_against 38 = .ok (.ifCond .ge 5, 3) := by decide +kernel
theorem dX6_against_41 : decode cX6_against 41 = .ok (.iconst 4, 1) := by decide +kernel
theorem dX6_against_42 : decode cX6_against 42 = .ok (.ireturn, 1) := by decide +kernel
theorem dX6_against_43 : decode cX6_against 43 = .ok (.iload_n 3, 1) := by decide +kernel
theorem dX6_against_44 : decode cX6_against 44 = .ok (.ifCond .lt 26, 3) := by decide +kernel
theorem dX6_against_47 : decode cX6_against 47 = .ok (.iload_n 3, 1) := by decide +kernel
theorem dX6_against_48 : decode cX6_against 48 = .ok (.aload_n 0, 1) := by decide +kernel
theorem dX6_against_49 : decode cX6_against 49 = .ok (.getfield 13, 3) := by decide +kernel
theorem dX6_against_52 : decode cX6_against 52 = .ok (.iload_n 1, 1) := by decide +kernel
theorem dX6_against_53 : decode cX6_against 53 = .ok (.iaload, 1) := by decide +kernel
theorem dX6_against_54 : decode cX6_against 54 = .ok (.if_icmp .gt 16, 3) := by decide +kernel
theorem dX6_against_57 : decode cX6_against 57 = .ok (.iload 4, 2) := by decide +kernel
theorem dX6_against_59 : decode cX6_against 59 = .ok (.aload_n 0, 1) := by decide +kernel
theorem dX6_against_60 : decode cX6_against 60 = .ok (.getfield 13, 3) := by decide +kernel
theorem dX6_against_63 : decode cX6_against 63 = .ok (.iload_n 1, 1) := by decide +kernel
theorem dX6_against_64 : decode cX6_against 64 = .ok (.iaload, 1) := by decide +kernel
theorem dX6_against_65 : decode cX6_against 65 = .ok (.iload_n 3, 1) := by decide +kernel
theorem dX6_against_66 : decode cX6_against 66 = .ok (.isub, 1) := by decide +kernel
theorem dX6_against_67 : decode cX6_against 67 = .ok (.if_icmp .le 7, 3) := by decide +kernel
theorem dX6_against_70 : decode cX6_against 70 = .ok (.iconst 3, 1) := by decide +kernel
theorem dX6_against_71 : decode cX6_against 71 = .ok (.goto 4, 3) := by decide +kernel
theorem dX6_against_74 : decode cX6_against 74 = .ok (.iconst 0, 1) := by decide +kernel
theorem dX6_against_75 : decode cX6_against 75 = .ok (.ireturn, 1) := by decide +kernel
theorem dX6_isPool_0 : decode cX6_isPool 0 = .ok (.iload_n 1, 1) := by decide +kernel
theorem dX6_isPool_1 : decode cX6_isPool 1 = .ok (.ifCond .lt 15, 3) := by decide +kernel
theorem dX6_isPool_4 : decode cX6_isPool 4 = .ok (.iload_n 1, 1) := by decide +kernel
theorem dX6_isPool_5 : decode cX6_isPool 5 = .ok (.aload_n 0, 1) := by decide +kernel
theorem dX6_isPool_6 : decode cX6_isPool 6 = .ok (.getfield 74, 3) := by decide +kernel
theorem dX6_isPool_9 : decode cX6_isPool 9 = .ok (.if_icmp .ge 7, 3) := by decide +kernel
theorem dX6_isPool_12 : decode cX6_isPool 12 = .ok (.iconst 1, 1) := by decide +kernel
theorem dX6_isPool_13 : decode cX6_isPool 13 = .ok (.goto 4, 3) := by decide +kernel
theorem dX6_isPool_16 : decode cX6_isPool 16 = .ok (.iconst 0, 1) := by decide +kernel
theorem dX6_isPool_17 : decode cX6_isPool 17 = .ok (.ireturn, 1) := by decide +kernel
theorem dX6_isMember_0 : decode cX6_isMember 0 = .ok (.iload_n 1, 1) := by decide +kernel
theorem dX6_isMember_1 : decode cX6_isMember 1 = .ok (.ifCond .lt 15, 3) := by decide +kernel
theorem dX6_isMember_4 : decode cX6_isMember 4 = .ok (.iload_n 1, 1) := by decide +kernel
theorem dX6_isMember_5 : decode cX6_isMember 5 = .ok (.aload_n 0, 1) := by decide +kernel
theorem dX6_isMember_6 : decode cX6_isMember 6 = .ok (.getfield 77, 3) := by decide +kernel
theorem dX6_isMember_9 : decode cX6_isMember 9 = .ok (.if_icmp .ge 7, 3) := by decide +kernel
theorem dX6_isMember_12 : decode cX6_isMember 12 = .ok (.iconst 1, 1) := by decide +kernel
theorem dX6_isMember_13 : decode cX6_isMember 13 = .ok (.goto 4, 3) := by decide +kernel
theorem dX6_isMember_16 : decode cX6_isMember 16 = .ok (.iconst 0, 1) := by decide +kernel
theorem dX6_isMember_17 : decode cX6_isMember 17 = .ok (.ireturn, 1) := by decide +kernel
theorem dX6_isDigit_0 : decode cX6_isDigit 0 = .ok (.iload_n 0, 1) := by decide +kernel
theorem dX6_isDigit_1 : decode cX6_isDigit 1 = .ok (.iconst 0, 1) := by decide +kernel
theorem dX6_isDigit_2 : decode cX6_isDigit 2 = .ok (.bipush 9, 2) := by decide +kernel
theorem dX6_isDigit_4 : decode cX6_isDigit 4 = .ok (.invokestatic 70, 3) := by decide +kernel
theorem dX6_isDigit_7 : decode cX6_isDigit 7 = .ok (.ireturn, 1) := by decide +kernel
theorem dX6_digit_0 : decode cX6_digit 0 = .ok (.aload_n 0, 1) := by decide +kernel
theorem dX6_digit_1 : decode cX6_digit 1 = .ok (.getfield 80, 3) := by decide +kernel
theorem dX6_digit_4 : decode cX6_digit 4 = .ok (.iload_n 1, 1) := by decide +kernel
theorem dX6_digit_5 : decode cX6_digit 5 = .ok (.if_icmp .ge 26, 3) := by decide +kernel
theorem dX6_digit_8 : decode cX6_digit 8 = .ok (.aload_n 0, 1) := by decide +kernel
theorem dX6_digit_9 : decode cX6_digit 9 = .ok (.getfield 16, 3) := by decide +kernel
theorem dX6_digit_12 : decode cX6_digit 12 = .ok (.aload_n 0, 1) := by decide +kernel
theorem dX6_digit_13 : decode cX6_digit 13 = .ok (.getfield 80, 3) := by decide +kernel
theorem dX6_digit_16 : decode cX6_digit 16 = .ok (.iaload, 1) := by decide +kernel
theorem dX6_digit_17 : decode cX6_digit 17 = .ok (.bipush 48, 2) := by decide +kernel
theorem dX6_digit_19 : decode cX6_digit 19 = .ok (.iload_n 2, 1) := by decide +kernel
theorem dX6_digit_20 : decode cX6_digit 20 = .ok (.iadd, 1) := by decide +kernel
theorem dX6_digit_21 : decode cX6_digit 21 = .ok (.bipush 48, 2) := by decide +kernel
theorem dX6_digit_23 : decode cX6_digit 23 = .ok (.iload_n 3, 1) := by decide +kernel
theorem dX6_digit_24 : decode cX6_digit 24 = .ok (.iadd, 1) := by decide +kernel
theorem dX6_digit_25 : decode cX6_digit 25 = .ok (.invokestatic 70, 3) := by decide +kernel
theorem dX6_digit_28 : decode cX6_digit 28 = .ok (.ifCond .ne 6, 3) := by decide +kernel
theorem dX6_digit_31 : decode cX6_digit 31 = .ok (.bipush (-9), 2) := by decide +kernel
theorem dX6_digit_33 : decode cX6_digit 33 = .ok (.ireturn, 1) := by decide +kernel
theorem dX6_digit_34 : decode cX6_digit 34 = .ok (.aload_n 0, 1) := by decide +kernel
theorem dX6_digit_35 : decode cX6_digit 35 = .ok (.dup, 1) := by decide +kernel
theorem dX6_digit_36 : decode cX6_digit 36 = .ok (.getfield 80, 3) := by decide +kernel
theorem dX6_digit_39 : decode cX6_digit 39 = .ok (.iconst 1, 1) := by decide +kernel
theorem dX6_digit_40 : decode cX6_digit 40 = .ok (.iadd, 1) := by decide +kernel
theorem dX6_digit_41 : decode cX6_digit 41 = .ok (.putfield 80, 3) := by decide +kernel
theorem dX6_digit_44 : decode cX6_digit 44 = .ok (.aload_n 0, 1) := by decide +kernel
theorem dX6_digit_45 : decode cX6_digit 45 = .ok (.getfield 16, 3) := by decide +kernel
theorem dX6_digit_48 : decode cX6_digit 48 = .ok (.aload_n 0, 1) := by decide +kernel
theorem dX6_digit_49 : decode cX6_digit 49 = .ok (.getfield 80, 3) := by decide +kernel
theorem dX6_digit_52 : decode cX6_digit 52 = .ok (.iconst 1, 1) := by decide +kernel
theorem dX6_digit_53 : decode cX6_digit 53 = .ok (.isub, 1) := by decide +kernel
theorem dX6_digit_54 : decode cX6_digit 54 = .ok (.iaload, 1) := by decide +kernel
theorem dX6_digit_55 : decode cX6_digit 55 = .ok (.bipush 48, 2) := by decide +kernel
theorem dX6_digit_57 : decode cX6_digit 57 = .ok (.isub, 1) := by decide +kernel
theorem dX6_digit_58 : decode cX6_digit 58 = .ok (.ireturn, 1) := by decide +kernel
theorem dX6_isSign_0 : decode cX6_isSign 0 = .ok (.aload_n 0, 1) := by decide +kernel
theorem dX6_isSign_1 : decode cX6_isSign 1 = .ok (.getfield 80, 3) := by decide +kernel
theorem dX6_isSign_4 : decode cX6_isSign 4 = .ok (.iload_n 1, 1) := by decide +kernel
theorem dX6_isSign_5 : decode cX6_isSign 5 = .ok (.if_icmp .ge 16, 3) := by decide +kernel
theorem dX6_isSign_8 : decode cX6_isSign 8 = .ok (.aload_n 0, 1) := by decide +kernel
theorem dX6_isSign_9 : decode cX6_isSign 9 = .ok (.getfield 16, 3) := by decide +kernel
theorem dX6_isSign_12 : decode cX6_isSign 12 = .ok (.aload_n 0, 1) := by decide +kernel
theorem dX6_isSign_13 : decode cX6_isSign 13 = .ok (.getfield 80, 3) := by decide +kernel
theorem dX6_isSign_16 : decode cX6_isSign 16 = .ok (.iaload, 1) := by decide +kernel
theorem dX6_isSign_17 : decode cX6_isSign 17 = .ok (.iload_n 2, 1) := by decide +kernel
theorem dX6_isSign_18 : decode cX6_isSign 18 = .ok (.if_icmp .eq 5, 3) := by decide +kernel
theorem dX6_isSign_21 : decode cX6_isSign 21 = .ok (.iconst 0, 1) := by decide +kernel
theorem dX6_isSign_22 : decode cX6_isSign 22 = .ok (.ireturn, 1) := by decide +kernel
theorem dX6_isSign_23 : decode cX6_isSign 23 = .ok (.aload_n 0, 1) := by decide +kernel
theorem dX6_isSign_24 : decode cX6_isSign 24 = .ok (.dup, 1) := by decide +kernel
theorem dX6_isSign_25 : decode cX6_isSign 25 = .ok (.getfield 80, 3) := by decide +kernel
theorem dX6_isSign_28 : decode cX6_isSign 28 = .ok (.iconst 1, 1) := by decide +kernel
theorem dX6_isSign_29 : decode cX6_isSign 29 = .ok (.iadd, 1) := by decide +kernel
theorem dX6_isSign_30 : decode cX6_isSign 30 = .ok (.putfield 80, 3) := by decide +kernel
theorem dX6_isSign_33 : decode cX6_isSign 33 = .ok (.iconst 1, 1) := by decide +kernel
theorem dX6_isSign_34 : decode cX6_isSign 34 = .ok (.ireturn, 1) := by decide +kernel
theorem dX6_shore_0 : decode cX6_shore 0 = .ok (.aload_n 0, 1) := by decide +kernel
theorem dX6_shore_1 : decode cX6_shore 1 = .ok (.iconst 0, 1) := by decide +kernel
theorem dX6_shore_2 : decode cX6_shore 2 = .ok (.putfield 64, 3) := by decide +kernel
theorem dX6_shore_5 : decode cX6_shore 5 = .ok (.iload_n 1, 1) := by decide +kernel
theorem dX6_shore_6 : decode cX6_shore 6 = .ok (.invokestatic 83, 3) := by decide +kernel
theorem dX6_shore_9 : decode cX6_shore 9 = .ok (.ifCond .ne 5, 3) := by decide +kernel
theorem dX6_shore_12 : decode cX6_shore 12 = .ok (.iconst (-1), 1) := by decide +kernel
theorem dX6_shore_13 : decode cX6_shore 13 = .ok (.ireturn, 1) := by decide +kernel
theorem dX6_shore_14 : decode cX6_shore 14 = .ok (.iload_n 2, 1) := by decide +kernel
theorem dX6_shore_15 : decode cX6_shore 15 = .ok (.invokestatic 87, 3) := by decide +kernel
theorem dX6_shore_18 : decode cX6_shore 18 = .ok (.ifCond .ne 6, 3) := by decide +kernel
theorem dX6_shore_21 : decode cX6_shore 21 = .ok (.bipush (-2), 2) := by decide +kernel
theorem dX6_shore_23 : decode cX6_shore 23 = .ok (.ireturn, 1) := by decide +kernel
theorem dX6_shore_24 : decode cX6_shore 24 = .ok (.aload_n 0, 1) := by decide +kernel
theorem dX6_shore_25 : decode cX6_shore 25 = .ok (.iload_n 1, 1) := by decide +kernel
theorem dX6_shore_26 : decode cX6_shore 26 = .ok (.iload_n 2, 1) := by decide +kernel
theorem dX6_shore_27 : decode cX6_shore 27 = .ok (.iload_n 3, 1) := by decide +kernel
theorem dX6_shore_28 : decode cX6_shore 28 = .ok (.iload 4, 2) := by decide +kernel
theorem dX6_shore_30 : decode cX6_shore 30 = .ok (.invokevirtual 90, 3) := by decide +kernel
theorem dX6_shore_33 : decode cX6_shore 33 = .ok (.istore 5, 2) := by decide +kernel
theorem dX6_shore_35 : decode cX6_shore 35 = .ok (.iload 5, 2) := by decide +kernel
theorem dX6_shore_37 : decode cX6_shore 37 = .ok (.ifCond .eq 10, 3) := by decide +kernel
theorem dX6_shore_40 : decode cX6_shore 40 = .ok (.aload_n 0, 1) := by decide +kernel
theorem dX6_shore_41 : decode cX6_shore 41 = .ok (.iload 5, 2) := by decide +kernel
theorem dX6_shore_43 : decode cX6_shore 43 = .ok (.invokevirtual 94, 3) := by decide +kernel
theorem dX6_shore_46 : decode cX6_shore 46 = .ok (.ireturn, 1) := by decide +kernel
theorem dX6_shore_47 : decode cX6_shore 47 = .ok (.bipush 60, 2) := by decide +kernel
theorem dX6_shore_49 : decode cX6_shore 49 = .ok (.iload_n 1, 1) := by decide +kernel
theorem dX6_shore_50 : decode cX6_shore 50 = .ok (.imul, 1) := by decide +kernel
theorem dX6_shore_51 : decode cX6_shore 51 = .ok (.iload_n 3, 1) := by decide +kernel
theorem dX6_shore_52 : decode cX6_shore 52 = .ok (.iadd, 1) := by decide +kernel
theorem dX6_shore_53 : decode cX6_shore 53 = .ok (.istore 6, 2) := by decide +kernel
theorem dX6_shore_55 : decode cX6_shore 55 = .ok (.aload_n 0, 1) := by decide +kernel
theorem dX6_shore_56 : decode cX6_shore 56 = .ok (.iload 6, 2) := by decide +kernel
theorem dX6_shore_58 : decode cX6_shore 58 = .ok (.putfield 80, 3) := by decide +kernel
theorem dX6_shore_61 : decode cX6_shore 61 = .ok (.aload_n 0, 1) := by decide +kernel
theorem dX6_shore_62 : decode cX6_shore 62 = .ok (.iload 6, 2) := by decide +kernel
theorem dX6_shore_64 : decode cX6_shore 64 = .ok (.iload 4, 2) := by decide +kernel
theorem dX6_shore_66 : decode cX6_shore 66 = .ok (.iadd, 1) := by decide +kernel
theorem dX6_shore_67 : decode cX6_shore 67 = .ok (.invokevirtual 98, 3) := by decide +kernel
theorem dX6_shore_70 : decode cX6_shore 70 = .ok (.ifCond .ne 14, 3) := by decide +kernel
theorem dX6_shore_73 : decode cX6_shore 73 = .ok (.bipush (-100), 2) := by decide +kernel
theorem dX6_shore_75 : decode cX6_shore 75 = .ok (.aload_n 0, 1) := by decide +kernel
theorem dX6_shore_76 : decode cX6_shore 76 = .ok (.getfield 80, 3) := by decide +kernel
theorem dX6_shore_79 : decode cX6_shore 79 = .ok (.iload 6, 2) := by decide +kernel
theorem dX6_shore_81 : decode cX6_shore 81 = .ok (.isub, 1) := by decide +kernel
theorem dX6_shore_82 : decode cX6_shore 82 = .ok (.isub, 1) := by decide +kernel
theorem dX6_shore_83 : decode cX6_shore 83 = .ok (.ireturn, 1) := by decide +kernel
theorem dX6_shore_84 : decode cX6_shore 84 = .ok (.aload_n 0, 1) := by decide +kernel
theorem dX6_shore_85 : decode cX6_shore 85 = .ok (.invokevirtual 101, 3) := by decide +kernel
theorem dX6_shore_88 : decode cX6_shore 88 = .ok (.aload_n 0, 1) := by decide +kernel
theorem dX6_shore_89 : decode cX6_shore 89 = .ok (.getfield 77, 3) := by decide +kernel
theorem dX6_shore_92 : decode cX6_shore 92 = .ok (.ireturn, 1) := by decide +kernel
theorem dX6_takeShore_0 : decode cX6_takeShore 0 = .ok (.aload_n 0, 1) := by decide +kernel
theorem dX6_takeShore_1 : decode cX6_takeShore 1 = .ok (.aload_n 0, 1) := by decide +kernel
theorem dX6_takeShore_2 : decode cX6_takeShore 2 = .ok (.getfield 104, 3) := by decide +kernel
theorem dX6_takeShore_5 : decode cX6_takeShore 5 = .ok (.putfield 107, 3) := by decide +kernel
theorem dX6_takeShore_8 : decode cX6_takeShore 8 = .ok (.aload_n 0, 1) := by decide +kernel
theorem dX6_takeShore_9 : decode cX6_takeShore 9 = .ok (.aload_n 0, 1) := by decide +kernel
theorem dX6_takeShore_10 : decode cX6_takeShore 10 = .ok (.getfield 110, 3) := by decide +kernel
theorem dX6_takeShore_13 : decode cX6_takeShore 13 = .ok (.putfield 113, 3) := by decide +kernel
theorem dX6_takeShore_16 : decode cX6_takeShore 16 = .ok (.aload_n 0, 1) := by decide +kernel
theorem dX6_takeShore_17 : decode cX6_takeShore 17 = .ok (.aload_n 0, 1) := by decide +kernel
theorem dX6_takeShore_18 : decode cX6_takeShore 18 = .ok (.getfield 116, 3) := by decide +kernel
theorem dX6_takeShore_21 : decode cX6_takeShore 21 = .ok (.putfield 119, 3) := by decide +kernel
theorem dX6_takeShore_24 : decode cX6_takeShore 24 = .ok (.aload_n 0, 1) := by decide +kernel
theorem dX6_takeShore_25 : decode cX6_takeShore 25 = .ok (.aload_n 0, 1) := by decide +kernel
theorem dX6_takeShore_26 : decode cX6_takeShore 26 = .ok (.getfield 122, 3) := by decide +kernel
theorem dX6_takeShore_29 : decode cX6_takeShore 29 = .ok (.putfield 74, 3) := by decide +kernel
theorem dX6_takeShore_32 : decode cX6_takeShore 32 = .ok (.iconst 0, 1) := by decide +kernel
theorem dX6_takeShore_33 : decode cX6_takeShore 33 = .ok (.istore_n 1, 1) := by decide +kernel
theorem dX6_takeShore_34 : decode cX6_takeShore 34 = .ok (.iload_n 1, 1) := by decide +kernel
theorem dX6_takeShore_35 : decode cX6_takeShore 35 = .ok (.aload_n 0, 1) := by decide +kernel
theorem dX6_takeShore_36 : decode cX6_takeShore 36 = .ok (.getfield 74, 3) := by decide +kernel
theorem dX6_takeShore_39 : decode cX6_takeShore 39 = .ok (.if_icmp .ge 33, 3) := by decide +kernel
theorem dX6_takeShore_42 : decode cX6_takeShore 42 = .ok (.aload_n 0, 1) := by decide +kernel
theorem dX6_takeShore_43 : decode cX6_takeShore 43 = .ok (.getfield 19, 3) := by decide +kernel
theorem dX6_takeShore_46 : decode cX6_takeShore 46 = .ok (.iload_n 1, 1) := by decide +kernel
theorem dX6_takeShore_47 : decode cX6_takeShore 47 = .ok (.aload_n 0, 1) := by decide +kernel
theorem dX6_takeShore_48 : decode cX6_takeShore 48 = .ok (.getfield 34, 3) := by decide +kernel
theorem dX6_takeShore_51 : decode cX6_takeShore 51 = .ok (.iload_n 1, 1) := by decide +kernel
theorem dX6_takeShore_52 : decode cX6_takeShore 52 = .ok (.iaload, 1) := by decide +kernel
theorem dX6_takeShore_53 : decode cX6_takeShore 53 = .ok (.iastore, 1) := by decide +kernel
theorem dX6_takeShore_54 : decode cX6_takeShore 54 = .ok (.aload_n 0, 1) := by decide +kernel
theorem dX6_takeShore_55 : decode cX6_takeShore 55 = .ok (.getfield 22, 3) := by decide +kernel
theorem dX6_takeShore_58 : decode cX6_takeShore 58 = .ok (.iload_n 1, 1) := by decide +kernel
theorem dX6_takeShore_59 : decode cX6_takeShore 59 = .ok (.aload_n 0, 1) := by decide +kernel
theorem dX6_takeShore_60 : decode cX6_takeShore 60 = .ok (.getfield 37, 3) := by decide +kernel
theorem dX6_takeShore_63 : decode cX6_takeShore 63 = .ok (.iload_n 1, 1) := by decide +kernel
theorem dX6_takeShore_64 : decode cX6_takeShore 64 = .ok (.iaload, 1) := by decide +kernel
theorem dX6_takeShore_65 : decode cX6_takeShore 65 = .ok (.iastore, 1) := by decide +kernel
theorem dX6_takeShore_66 : decode cX6_takeShore 66 = .ok (.iinc 1 1, 3) := by decide +kernel
theorem dX6_takeShore_69 : decode cX6_takeShore 69 = .ok (.goto (-35), 3) := by decide +kernel
theorem dX6_takeShore_72 : decode cX6_takeShore 72 = .ok (.aload_n 0, 1) := by decide +kernel
theorem dX6_takeShore_73 : decode cX6_takeShore 73 = .ok (.aload_n 0, 1) := by decide +kernel
theorem dX6_takeShore_74 : decode cX6_takeShore 74 = .ok (.getfield 125, 3) := by decide +kernel
theorem dX6_takeShore_77 : decode cX6_takeShore 77 = .ok (.putfield 77, 3) := by decide +kernel
theorem dX6_takeShore_80 : decode cX6_takeShore 80 = .ok (.iconst 0, 1) := by decide +kernel
theorem dX6_takeShore_81 : decode cX6_takeShore 81 = .ok (.istore_n 1, 1) := by decide +kernel
theorem dX6_takeShore_82 : decode cX6_takeShore 82 = .ok (.iload_n 1, 1) := by decide +kernel
theorem dX6_takeShore_83 : decode cX6_takeShore 83 = .ok (.aload_n 0, 1) := by decide +kernel
theorem dX6_takeShore_84 : decode cX6_takeShore 84 = .ok (.getfield 77, 3) := by decide +kernel
theorem dX6_takeShore_87 : decode cX6_takeShore 87 = .ok (.if_icmp .ge 45, 3) := by decide +kernel
theorem dX6_takeShore_90 : decode cX6_takeShore 90 = .ok (.aload_n 0, 1) := by decide +kernel
theorem dX6_takeShore_91 : decode cX6_takeShore 91 = .ok (.getfield 25, 3) := by decide +kernel
theorem dX6_takeShore_94 : decode cX6_takeShore 94 = .ok (.iload_n 1, 1) := by decide +kernel
theorem dX6_takeShore_95 : decode cX6_takeShore 95 = .ok (.aload_n 0, 1) := by decide +kernel
theorem dX6_takeShore_96 : decode cX6_takeShore 96 = .ok (.getfield 40, 3) := by decide +kernel
theorem dX6_takeShore_99 : decode cX6_takeShore 99 = .ok (.iload_n 1, 1) := by decide +kernel
theorem dX6_takeShore_100 : decode cX6_takeShore 100 = .ok (.iaload, 1) := by decide +kernel
theorem dX6_takeShore_101 : decode cX6_takeShore 101 = .ok (.iastore, 1) := by decide +kernel
theorem dX6_takeShore_102 : decode cX6_takeShore 102 = .ok (.aload_n 0, 1) := by decide +kernel
theorem dX6_takeShore_103 : decode cX6_takeShore 103 = .ok (.getfield 28, 3) := by decide +kernel
theorem dX6_takeShore_106 : decode cX6_takeShore 106 = .ok (.iload_n 1, 1) := by decide +kernel
theorem dX6_takeShore_107 : decode cX6_takeShore 107 = .ok (.aload_n 0, 1) := by decide +kernel
theorem dX6_takeShore_108 : decode cX6_takeShore 108 = .ok (.getfield 43, 3) := by decide +kernel
theorem dX6_takeShore_111 : decode cX6_takeShore 111 = .ok (.iload_n 1, 1) := by decide +kernel
theorem dX6_takeShore_112 : decode cX6_takeShore 112 = .ok (.iaload, 1) := by decide +kernel
theorem dX6_takeShore_113 : decode cX6_takeShore 113 = .ok (.iastore, 1) := by decide +kernel
theorem dX6_takeShore_114 : decode cX6_takeShore 114 = .ok (.aload_n 0, 1) := by decide +kernel
theorem dX6_takeShore_115 : decode cX6_takeShore 115 = .ok (.getfield 31, 3) := by decide +kernel
theorem dX6_takeShore_118 : decode cX6_takeShore 118 = .ok (.iload_n 1, 1) := by decide +kernel
theorem dX6_takeShore_119 : decode cX6_takeShore 119 = .ok (.aload_n 0, 1) := by decide +kernel
theorem dX6_takeShore_120 : decode cX6_takeShore 120 = .ok (.getfield 46, 3) := by decide +kernel
theorem dX6_takeShore_123 : decode cX6_takeShore 123 = .ok (.iload_n 1, 1) := by decide +kernel
theorem dX6_takeShore_124 : decode cX6_takeShore 124 = .ok (.iaload, 1) := by decide +kernel
theorem dX6_takeShore_125 : decode cX6_takeShore 125 = .ok (.iastore, 1) := by decide +kernel
theorem dX6_takeShore_126 : decode cX6_takeShore 126 = .ok (.iinc 1 1, 3) := by decide +kernel
theorem dX6_takeShore_129 : decode cX6_takeShore 129 = .ok (.goto (-47), 3) := by decide +kernel
theorem dX6_takeShore_132 : decode cX6_takeShore 132 = .ok (.aload_n 0, 1) := by decide +kernel
theorem dX6_takeShore_133 : decode cX6_takeShore 133 = .ok (.iconst 0, 1) := by decide +kernel
theorem dX6_takeShore_134 : decode cX6_takeShore 134 = .ok (.putfield 128, 3) := by decide +kernel
theorem dX6_takeShore_137 : decode cX6_takeShore 137 = .ok (.return_, 1) := by decide +kernel
theorem dX6_readShore_0 : decode cX6_readShore 0 = .ok (.aload_n 0, 1) := by decide +kernel
theorem dX6_readShore_1 : decode cX6_readShore 1 = .ok (.iconst 0, 1) := by decide +kernel
theorem dX6_readShore_2 : decode cX6_readShore 2 = .ok (.putfield 122, 3) := by decide +kernel
theorem dX6_readShore_5 : decode cX6_readShore 5 = .ok (.aload_n 0, 1) := by decide +kernel
theorem dX6_readShore_6 : decode cX6_readShore 6 = .ok (.iconst 0, 1) := by decide +kernel
theorem dX6_readShore_7 : decode cX6_readShore 7 = .ok (.putfield 125, 3) := by decide +kernel
theorem dX6_readShore_10 : decode cX6_readShore 10 = .ok (.aload_n 0, 1) := by decide +kernel
theorem dX6_readShore_11 : decode cX6_readShore 11 = .ok (.iload_n 1, 1) := by decide +kernel
theorem dX6_readShore_12 : decode cX6_readShore 12 = .ok (.bipush 114, 2) := by decide +kernel
theorem dX6_readShore_14 : decode cX6_readShore 14 = .ok (.invokevirtual 131, 3) := by decide +kernel
theorem dX6_readShore_17 : decode cX6_readShore 17 = .ok (.ifCond .ne 5, 3) := by decide +kernel
theorem dX6_readShore_20 : decode cX6_readShore 20 = .ok (.iconst 0, 1) := by decide +kernel
theorem dX6_readShore_21 : decode cX6_readShore 21 = .ok (.ireturn, 1) := by decide +kernel
theorem dX6_readShore_22 : decode cX6_readShore 22 = .ok (.aload_n 0, 1) := by decide +kernel
theorem dX6_readShore_23 : decode cX6_readShore 23 = .ok (.aload_n 0, 1) := by decide +kernel
theorem dX6_readShore_24 : decode cX6_readShore 24 = .ok (.iload_n 1, 1) := by decide +kernel
theorem dX6_readShore_25 : decode cX6_readShore 25 = .ok (.iconst 1, 1) := by decide +kernel
theorem dX6_readShore_26 : decode cX6_readShore 26 = .ok (.iconst 3, 1) := by decide +kernel
theorem dX6_readShore_27 : decode cX6_readShore 27 = .ok (.invokevirtual 135, 3) := by decide +kernel
theorem dX6_readShore_30 : decode cX6_readShore 30 = .ok (.putfield 104, 3) := by decide +kernel
theorem dX6_readShore_33 : decode cX6_readShore 33 = .ok (.aload_n 0, 1) := by decide +kernel
theorem dX6_readShore_34 : decode cX6_readShore 34 = .ok (.getfield 104, 3) := by decide +kernel
theorem dX6_readShore_37 : decode cX6_readShore 37 = .ok (.bipush (-9), 2) := by decide +kernel
theorem dX6_readShore_39 : decode cX6_readShore 39 = .ok (.if_icmp .ne 5, 3) := by decide +kernel
theorem dX6_readShore_42 : decode cX6_readShore 42 = .ok (.iconst 0, 1) := by decide +kernel
theorem dX6_readShore_43 : decode cX6_readShore 43 = .ok (.ireturn, 1) := by decide +kernel
theorem dX6_readShore_44 : decode cX6_readShore 44 = .ok (.aload_n 0, 1) := by decide +kernel
theorem dX6_readShore_45 : decode cX6_readShore 45 = .ok (.aload_n 0, 1) := by decide +kernel
theorem dX6_readShore_46 : decode cX6_readShore 46 = .ok (.iload_n 1, 1) := by decide +kernel
theorem dX6_readShore_47 : decode cX6_readShore 47 = .ok (.iconst 0, 1) := by decide +kernel
theorem dX6_readShore_48 : decode cX6_readShore 48 = .ok (.bipush 9, 2) := by decide +kernel
theorem dX6_readShore_50 : decode cX6_readShore 50 = .ok (.invokevirtual 135, 3) := by decide +kernel
theorem dX6_readShore_53 : decode cX6_readShore 53 = .ok (.putfield 110, 3) := by decide +kernel
theorem dX6_readShore_56 : decode cX6_readShore 56 = .ok (.aload_n 0, 1) := by decide +kernel
theorem dX6_readShore_57 : decode cX6_readShore 57 = .ok (.getfield 110, 3) := by decide +kernel
theorem dX6_readShore_60 : decode cX6_readShore 60 = .ok (.bipush (-9), 2) := by decide +kernel
theorem dX6_readShore_62 : decode cX6_readShore 62 = .ok (.if_icmp .ne 5, 3) := by decide +kernel
theorem dX6_readShore_65 : decode cX6_readShore 65 = .ok (.iconst 0, 1) := by decide +kernel
theorem dX6_readShore_66 : decode cX6_readShore 66 = .ok (.ireturn, 1) := by decide +kernel
theorem dX6_readShore_67 : decode cX6_readShore 67 = .ok (.aload_n 0, 1) := by decide +kernel
theorem dX6_readShore_68 : decode cX6_readShore 68 = .ok (.aload_n 0, 1) := by decide +kernel
theorem dX6_readShore_69 : decode cX6_readShore 69 = .ok (.iload_n 1, 1) := by decide +kernel
theorem dX6_readShore_70 : decode cX6_readShore 70 = .ok (.iconst 0, 1) := by decide +kernel
theorem dX6_readShore_71 : decode cX6_readShore 71 = .ok (.bipush 9, 2) := by decide +kernel
theorem dX6_readShore_73 : decode cX6_readShore 73 = .ok (.invokevirtual 135, 3) := by decide +kernel
theorem dX6_readShore_76 : decode cX6_readShore 76 = .ok (.putfield 116, 3) := by decide +kernel
theorem dX6_readShore_79 : decode cX6_readShore 79 = .ok (.aload_n 0, 1) := by decide +kernel
theorem dX6_readShore_80 : decode cX6_readShore 80 = .ok (.getfield 116, 3) := by decide +kernel
theorem dX6_readShore_83 : decode cX6_readShore 83 = .ok (.bipush (-9), 2) := by decide +kernel
theorem dX6_readShore_85 : decode cX6_readShore 85 = .ok (.if_icmp .ne 5, 3) := by decide +kernel
theorem dX6_readShore_88 : decode cX6_readShore 88 = .ok (.iconst 0, 1) := by decide +kernel
theorem dX6_readShore_89 : decode cX6_readShore 89 = .ok (.ireturn, 1) := by decide +kernel
theorem dX6_readShore_90 : decode cX6_readShore 90 = .ok (.aload_n 0, 1) := by decide +kernel
theorem dX6_readShore_91 : decode cX6_readShore 91 = .ok (.getfield 122, 3) := by decide +kernel
theorem dX6_readShore_94 : decode cX6_readShore 94 = .ok (.bipush 6, 2) := by decide +kernel
theorem dX6_readShore_96 : decode cX6_readShore 96 = .ok (.if_icmp .ge 23, 3) := by decide +kernel
theorem dX6_readShore_99 : decode cX6_readShore 99 = .ok (.aload_n 0, 1) := by decide +kernel
theorem dX6_readShore_100 : decode cX6_readShore 100 = .ok (.iload_n 1, 1) := by decide +kernel
theorem dX6_readShore_101 : decode cX6_readShore 101 = .ok (.bipush 44, 2) := by decide +kernel
theorem dX6_readShore_103 : decode cX6_readShore 103 = .ok (.invokevirtual 131, 3) := by decide +kernel
theorem dX6_readShore_106 : decode cX6_readShore 106 = .ok (.ifCond .eq 13, 3) := by decide +kernel
theorem dX6_readShore_109 : decode cX6_readShore 109 = .ok (.aload_n 0, 1) := by decide +kernel
theorem dX6_readShore_110 : decode cX6_readShore 110 = .ok (.iload_n 1, 1) := by decide +kernel
theorem dX6_readShore_111 : decode cX6_readShore 111 = .ok (.invokevirtual 139, 3) := by decide +kernel
theorem dX6_readShore_114 : decode cX6_readShore 114 = .ok (.ifCond .ne (-24), 3) := by decide +kernel
theorem dX6_readShore_117 : decode cX6_readShore 117 = .ok (.iconst 0, 1) := by decide +kernel
theorem dX6_readShore_118 : decode cX6_readShore 118 = .ok (.ireturn, 1) := by decide +kernel
theorem dX6_readShore_119 : decode cX6_readShore 119 = .ok (.aload_n 0, 1) := by decide +kernel
theorem dX6_readShore_120 : decode cX6_readShore 120 = .ok (.getfield 122, 3) := by decide +kernel
theorem dX6_readShore_123 : decode cX6_readShore 123 = .ok (.iconst 2, 1) := by decide +kernel
theorem dX6_readShore_124 : decode cX6_readShore 124 = .ok (.if_icmp .ge 5, 3) := by decide +kernel
theorem dX6_readShore_127 : decode cX6_readShore 127 = .ok (.iconst 0, 1) := by decide +kernel
theorem dX6_readShore_128 : decode cX6_readShore 128 = .ok (.ireturn, 1) := by decide +kernel
theorem dX6_readShore_129 : decode cX6_readShore 129 = .ok (.aload_n 0, 1) := by decide +kernel
theorem dX6_readShore_130 : decode cX6_readShore 130 = .ok (.getfield 125, 3) := by decide +kernel
theorem dX6_readShore_133 : decode cX6_readShore 133 = .ok (.ifCond .eq 20, 3) := by decide +kernel
theorem dX6_readShore_136 : decode cX6_readShore 136 = .ok (.aload_n 0, 1) := by decide +kernel
theorem dX6_readShore_137 : decode cX6_readShore 137 = .ok (.getfield 125, 3) := by decide +kernel
theorem dX6_readShore_140 : decode cX6_readShore 140 = .ok (.bipush 6, 2) := by decide +kernel
theorem dX6_readShore_142 : decode cX6_readShore 142 = .ok (.if_icmp .ge 31, 3) := by decide +kernel
theorem dX6_readShore_145 : decode cX6_readShore 145 = .ok (.aload_n 0, 1) := by decide +kernel
theorem dX6_readShore_146 : decode cX6_readShore 146 = .ok (.getfield 80, 3) := by decide +kernel
theorem dX6_readShore_149 : decode cX6_readShore 149 = .ok (.iload_n 1, 1) := by decide +kernel
theorem dX6_readShore_150 : decode cX6_readShore 150 = .ok (.if_icmp .ge 23, 3) := by decide +kernel
theorem dX6_readShore_153 : decode cX6_readShore 153 = .ok (.aload_n 0, 1) := by decide +kernel
theorem dX6_readShore_154 : decode cX6_readShore 154 = .ok (.iload_n 1, 1) := by decide +kernel
theorem dX6_readShore_155 : decode cX6_readShore 155 = .ok (.bipush 59, 2) := by decide +kernel
theorem dX6_readShore_157 : decode cX6_readShore 157 = .ok (.invokevirtual 131, 3) := by decide +kernel
theorem dX6_readShore_160 : decode cX6_readShore 160 = .ok (.ifCond .eq 11, 3) := by decide +kernel
theorem dX6_readShore_163 : decode cX6_readShore 163 = .ok (.aload_n 0, 1) := by decide +kernel
theorem dX6_readShore_164 : decode cX6_readShore 164 = .ok (.iload_n 1, 1) := by decide +kernel
theorem dX6_readShore_165 : decode cX6_readShore 165 = .ok (.invokevirtual 142, 3) := by decide +kernel
theorem dX6_readShore_168 : decode cX6_readShore 168 = .ok (.ifCond .ne (-39), 3) := by decide +kernel
theorem dX6_readShore_171 : decode cX6_readShore 171 = .ok (.iconst 0, 1) := by decide +kernel
theorem dX6_readShore_172 : decode cX6_readShore 172 = .ok (.ireturn, 1) := by decide +kernel
theorem dX6_readShore_173 : decode cX6_readShore 173 = .ok (.aload_n 0, 1) := by decide +kernel
theorem dX6_readShore_174 : decode cX6_readShore 174 = .ok (.getfield 80, 3) := by decide +kernel
theorem dX6_readShore_177 : decode cX6_readShore 177 = .ok (.iload_n 1, 1) := by decide +kernel
theorem dX6_readShore_178 : decode cX6_readShore 178 = .ok (.if_icmp .ne 7, 3) := by decide +kernel
theorem dX6_readShore_181 : decode cX6_readShore 181 = .ok (.iconst 1, 1) := by decide +kernel
theorem dX6_readShore_182 : decode cX6_readShore 182 = .ok (.goto 4, 3) := by decide +kernel
theorem dX6_readShore_185 : decode cX6_readShore 185 = .ok (.iconst 0, 1) := by decide +kernel
theorem dX6_readShore_186 : decode cX6_readShore 186 = .ok (.ireturn, 1) := by decide +kernel
theorem dX6_readPool_0 : decode cX6_readPool 0 = .ok (.aload_n 0, 1) := by decide +kernel
theorem dX6_readPool_1 : decode cX6_readPool 1 = .ok (.getfield 34, 3) := by decide +kernel
theorem dX6_readPool_4 : decode cX6_readPool 4 = .ok (.aload_n 0, 1) := by decide +kernel
theorem dX6_readPool_5 : decode cX6_readPool 5 = .ok (.getfield 122, 3) := by decide +kernel
theorem dX6_readPool_8 : decode cX6_readPool 8 = .ok (.aload_n 0, 1) := by decide +kernel
theorem dX6_readPool_9 : decode cX6_readPool 9 = .ok (.iload_n 1, 1) := by decide +kernel
theorem dX6_readPool_10 : decode cX6_readPool 10 = .ok (.iconst 1, 1) := by decide +kernel
theorem dX6_readPool_11 : decode cX6_readPool 11 = .ok (.bipush 9, 2) := by decide +kernel
theorem dX6_readPool_13 : decode cX6_readPool 13 = .ok (.invokevirtual 135, 3) := by decide +kernel
theorem dX6_readPool_16 : decode cX6_readPool 16 = .ok (.iastore, 1) := by decide +kernel
theorem dX6_readPool_17 : decode cX6_readPool 17 = .ok (.aload_n 0, 1) := by decide +kernel
theorem dX6_readPool_18 : decode cX6_readPool 18 = .ok (.getfield 34, 3) := by decide +kernel
theorem dX6_readPool_21 : decode cX6_readPool 21 = .ok (.aload_n 0, 1) := by decide +kernel
theorem dX6_readPool_22 : decode cX6_readPool 22 = .ok (.getfield 122, 3) := by decide +kernel
theorem dX6_readPool_25 : decode cX6_readPool 25 = .ok (.iaload, 1) := by decide +kernel
theorem dX6_readPool_26 : decode cX6_readPool 26 = .ok (.bipush (-9), 2) := by decide +kernel
theorem dX6_readPool_28 : decode cX6_readPool 28 = .ok (.if_icmp .ne 5, 3) := by decide +kernel
theorem dX6_readPool_31 : decode cX6_readPool 31 = .ok (.iconst 0, 1) := by decide +kernel
theorem dX6_readPool_32 : decode cX6_readPool 32 = .ok (.ireturn, 1) := by decide +kernel
theorem dX6_readPool_33 : decode cX6_readPool 33 = .ok (.aload_n 0, 1) := by decide +kernel
theorem dX6_readPool_34 : decode cX6_readPool 34 = .ok (.getfield 37, 3) := by decide +kernel
theorem dX6_readPool_37 : decode cX6_readPool 37 = .ok (.aload_n 0, 1) := by decide +kernel
theorem dX6_readPool_38 : decode cX6_readPool 38 = .ok (.getfield 122, 3) := by decide +kernel
theorem dX6_readPool_41 : decode cX6_readPool 41 = .ok (.aload_n 0, 1) := by decide +kernel
theorem dX6_readPool_42 : decode cX6_readPool 42 = .ok (.iload_n 1, 1) := by decide +kernel
theorem dX6_readPool_43 : decode cX6_readPool 43 = .ok (.iconst 1, 1) := by decide +kernel
theorem dX6_readPool_44 : decode cX6_readPool 44 = .ok (.bipush 9, 2) := by decide +kernel
theorem dX6_readPool_46 : decode cX6_readPool 46 = .ok (.invokevirtual 135, 3) := by decide +kernel
theorem dX6_readPool_49 : decode cX6_readPool 49 = .ok (.iastore, 1) := by decide +kernel
theorem dX6_readPool_50 : decode cX6_readPool 50 = .ok (.aload_n 0, 1) := by decide +kernel
theorem dX6_readPool_51 : decode cX6_readPool 51 = .ok (.dup, 1) := by decide +kernel
theorem dX6_readPool_52 : decode cX6_readPool 52 = .ok (.getfield 122, 3) := by decide +kernel
theorem dX6_readPool_55 : decode cX6_readPool 55 = .ok (.iconst 1, 1) := by decide +kernel
theorem dX6_readPool_56 : decode cX6_readPool 56 = .ok (.iadd, 1) := by decide +kernel
theorem dX6_readPool_57 : decode cX6_readPool 57 = .ok (.putfield 122, 3) := by decide +kernel
theorem dX6_readPool_60 : decode cX6_readPool 60 = .ok (.aload_n 0, 1) := by decide +kernel
theorem dX6_readPool_61 : decode cX6_readPool 61 = .ok (.getfield 37, 3) := by decide +kernel
theorem dX6_readPool_64 : decode cX6_readPool 64 = .ok (.aload_n 0, 1) := by decide +kernel
theorem dX6_readPool_65 : decode cX6_readPool 65 = .ok (.getfield 122, 3) := by decide +kernel
theorem dX6_readPool_68 : decode cX6_readPool 68 = .ok (.iconst 1, 1) := by decide +kernel
theorem dX6_readPool_69 : decode cX6_readPool 69 = .ok (.isub, 1) := by decide +kernel
theorem dX6_readPool_70 : decode cX6_readPool 70 = .ok (.iaload, 1) := by decide +kernel
theorem dX6_readPool_71 : decode cX6_readPool 71 = .ok (.bipush (-9), 2) := by decide +kernel
theorem dX6_readPool_73 : decode cX6_readPool 73 = .ok (.if_icmp .eq 7, 3) := by decide +kernel
theorem dX6_readPool_76 : decode cX6_readPool 76 = .ok (.iconst 1, 1) := by decide +kernel
theorem dX6_readPool_77 : decode cX6_readPool 77 = .ok (.goto 4, 3) := by decide +kernel
theorem dX6_readPool_80 : decode cX6_readPool 80 = .ok (.iconst 0, 1) := by decide +kernel
theorem dX6_readPool_81 : decode cX6_readPool 81 = .ok (.ireturn, 1) := by decide +kernel
theorem dX6_readMember_0 : decode cX6_readMember 0 = .ok (.aload_n 0, 1) := by decide +kernel
theorem dX6_readMember_1 : decode cX6_readMember 1 = .ok (.getfield 80, 3) := by decide +kernel
theorem dX6_readMember_4 : decode cX6_readMember 4 = .ok (.iload_n 1, 1) := by decide +kernel
theorem dX6_readMember_5 : decode cX6_readMember 5 = .ok (.if_icmp .ge 15, 3) := by decide +kernel
theorem dX6_readMember_8 : decode cX6_readMember 8 = .ok (.aload_n 0, 1) := by decide +kernel
theorem dX6_readMember_9 : decode cX6_readMember 9 = .ok (.getfield 16, 3) := by decide +kernel
theorem dX6_readMember_12 : decode cX6_readMember 12 = .ok (.aload_n 0, 1) := by decide +kernel
theorem dX6_readMember_13 : decode cX6_readMember 13 = .ok (.getfield 80, 3) := by decide +kernel
theorem dX6_readMember_16 : decode cX6_readMember 16 = .ok (.iaload, 1) := by decide +kernel
theorem dX6_readMember_17 : decode cX6_readMember 17 = .ok (.goto 4, 3) := by decide +kernel
theorem dX6_readMember_20 : decode cX6_readMember 20 = .ok (.iconst 0, 1) := by decide +kernel
theorem dX6_readMember_21 : decode cX6_readMember 21 = .ok (.istore_n 2, 1) := by decide +kernel
theorem dX6_readMember_22 : decode cX6_readMember 22 = .ok (.aload_n 0, 1) := by decide +kernel
theorem dX6_readMember_23 : decode cX6_readMember 23 = .ok (.getfield 40, 3) := by decide +kernel
theorem dX6_readMember_26 : decode cX6_readMember 26 = .ok (.aload_n 0, 1) := by decide +kernel
theorem dX6_readMember_27 : decode cX6_readMember 27 = .ok (.getfield 125, 3) := by decide +kernel
theorem dX6_readMember_30 : decode cX6_readMember 30 = .ok (.iload_n 2, 1) := by decide +kernel
theorem dX6_readMember_31 : decode cX6_readMember 31 = .ok (.bipush 115, 2) := by decide +kernel
theorem dX6_readMember_33 : decode cX6_readMember 33 = .ok (.if_icmp .ne 7, 3) := by decide +kernel
theorem dX6_readMember_36 : decode cX6_readMember 36 = .ok (.iconst 0, 1) := by decide +kernel
theorem dX6_readMember_37 : decode cX6_readMember 37 = .ok (.goto 25, 3) := by decide +kernel
theorem dX6_readMember_40 : decode cX6_readMember 40 = .ok (.iload_n 2, 1) := by decide +kernel
theorem dX6_readMember_41 : decode cX6_readMember 41 = .ok (.bipush 99, 2) := by decide +kernel
theorem dX6_readMember_43 : decode cX6_readMember 43 = .ok (.if_icmp .ne 7, 3) := by decide +kernel
theorem dX6_readMember_46 : decode cX6_readMember 46 = .ok (.iconst 1, 1) := by decide +kernel
theorem dX6_readMember_47 : decode cX6_readMember 47 = .ok (.goto 15, 3) := by decide +kernel
theorem dX6_readMember_50 : decode cX6_readMember 50 = .ok (.iload_n 2, 1) := by decide +kernel
theorem dX6_readMember_51 : decode cX6_readMember 51 = .ok (.bipush 108, 2) := by decide +kernel
theorem dX6_readMember_53 : decode cX6_readMember 53 = .ok (.if_icmp .ne 7, 3) := by decide +kernel
theorem dX6_readMember_56 : decode cX6_readMember 56 = .ok (.iconst 2, 1) := by decide +kernel
theorem dX6_readMember_57 : decode cX6_readMember 57 = .ok (.goto 5, 3) := by decide +kernel
theorem dX6_readMember_60 : decode cX6_readMember 60 = .ok (.bipush (-9), 2) := by decide +kernel
theorem dX6_readMember_62 : decode cX6_readMember 62 = .ok (.iastore, 1) := by decide +kernel
theorem dX6_readMember_63 : decode cX6_readMember 63 = .ok (.aload_n 0, 1) := by decide +kernel
theorem dX6_readMember_64 : decode cX6_readMember 64 = .ok (.getfield 40, 3) := by decide +kernel
theorem dX6_readMember_67 : decode cX6_readMember 67 = .ok (.aload_n 0, 1) := by decide +kernel
theorem dX6_readMember_68 : decode cX6_readMember 68 = .ok (.getfield 125, 3) := by decide +kernel
theorem dX6_readMember_71 : decode cX6_readMember 71 = .ok (.iaload, 1) := by decide +kernel
theorem dX6_readMember_72 : decode cX6_readMember 72 = .ok (.bipush (-9), 2) := by decide +kernel
theorem dX6_readMember_74 : decode cX6_readMember 74 = .ok (.if_icmp .ne 5, 3) := by decide +kernel
theorem dX6_readMember_77 : decode cX6_readMember 77 = .ok (.iconst 0, 1) := by decide +kernel
theorem dX6_readMember_78 : decode cX6_readMember 78 = .ok (.ireturn, 1) := by decide +kernel
theorem dX6_readMember_79 : decode cX6_readMember 79 = .ok (.aload_n 0, 1) := by decide +kernel
theorem dX6_readMember_80 : decode cX6_readMember 80 = .ok (.dup, 1) := by decide +kernel
theorem dX6_readMember_81 : decode cX6_readMember 81 = .ok (.getfield 80, 3) := by decide +kernel
theorem dX6_readMember_84 : decode cX6_readMember 84 = .ok (.iconst 1, 1) := by decide +kernel
theorem dX6_readMember_85 : decode cX6_readMember 85 = .ok (.iadd, 1) := by decide +kernel
theorem dX6_readMember_86 : decode cX6_readMember 86 = .ok (.putfield 80, 3) := by decide +kernel
theorem dX6_readMember_89 : decode cX6_readMember 89 = .ok (.aload_n 0, 1) := by decide +kernel
theorem dX6_readMember_90 : decode cX6_readMember 90 = .ok (.getfield 43, 3) := by decide +kernel
theorem dX6_readMember_93 : decode cX6_readMember 93 = .ok (.aload_n 0, 1) := by decide +kernel
theorem dX6_readMember_94 : decode cX6_readMember 94 = .ok (.getfield 125, 3) := by decide +kernel
theorem dX6_readMember_97 : decode cX6_readMember 97 = .ok (.aload_n 0, 1) := by decide +kernel
theorem dX6_readMember_98 : decode cX6_readMember 98 = .ok (.iload_n 1, 1) := by decide +kernel
theorem dX6_readMember_99 : decode cX6_readMember 99 = .ok (.iconst 0, 1) := by decide +kernel
theorem dX6_readMember_100 : decode cX6_readMember 100 = .ok (.aload_n 0, 1) := by decide +kernel
theorem dX6_readMember_101 : decode cX6_readMember 101 = .ok (.getfield 122, 3) := by decide +kernel
theorem dX6_readMember_104 : decode cX6_readMember 104 = .ok (.iconst 1, 1) := by decide +kernel
theorem dX6_readMember_105 : decode cX6_readMember 105 = .ok (.isub, 1) := by decide +kernel
theorem dX6_readMember_106 : decode cX6_readMember 106 = .ok (.invokevirtual 135, 3) := by decide +kernel
theorem dX6_readMember_109 : decode cX6_readMember 109 = .ok (.iastore, 1) := by decide +kernel
theorem dX6_readMember_110 : decode cX6_readMember 110 = .ok (.aload_n 0, 1) := by decide +kernel
theorem dX6_readMember_111 : decode cX6_readMember 111 = .ok (.getfield 43, 3) := by decide +kernel
theorem dX6_readMember_114 : decode cX6_readMember 114 = .ok (.aload_n 0, 1) := by decide +kernel
theorem dX6_readMember_115 : decode cX6_readMember 115 = .ok (.getfield 125, 3) := by decide +kernel
theorem dX6_readMember_118 : decode cX6_readMember 118 = .ok (.iaload, 1) := by decide +kernel
theorem dX6_readMember_119 : decode cX6_readMember 119 = .ok (.bipush (-9), 2) := by decide +kernel
theorem dX6_readMember_121 : decode cX6_readMember 121 = .ok (.if_icmp .ne 5, 3) := by decide +kernel
theorem dX6_readMember_124 : decode cX6_readMember 124 = .ok (.iconst 0, 1) := by decide +kernel
theorem dX6_readMember_125 : decode cX6_readMember 125 = .ok (.ireturn, 1) := by decide +kernel
theorem dX6_readMember_126 : decode cX6_readMember 126 = .ok (.aload_n 0, 1) := by decide +kernel
theorem dX6_readMember_127 : decode cX6_readMember 127 = .ok (.getfield 46, 3) := by decide +kernel
theorem dX6_readMember_130 : decode cX6_readMember 130 = .ok (.aload_n 0, 1) := by decide +kernel
theorem dX6_readMember_131 : decode cX6_readMember 131 = .ok (.getfield 125, 3) := by decide +kernel
theorem dX6_readMember_134 : decode cX6_readMember 134 = .ok (.aload_n 0, 1) := by decide +kernel
theorem dX6_readMember_135 : decode cX6_readMember 135 = .ok (.iload_n 1, 1) := by decide +kernel
theorem dX6_readMember_136 : decode cX6_readMember 136 = .ok (.iconst 0, 1) := by decide +kernel
theorem dX6_readMember_137 : decode cX6_readMember 137 = .ok (.bipush 9, 2) := by decide +kernel
theorem dX6_readMember_139 : decode cX6_readMember 139 = .ok (.invokevirtual 135, 3) := by decide +kernel
theorem dX6_readMember_142 : decode cX6_readMember 142 = .ok (.iastore, 1) := by decide +kernel
theorem dX6_readMember_143 : decode cX6_readMember 143 = .ok (.aload_n 0, 1) := by decide +kernel
theorem dX6_readMember_144 : decode cX6_readMember 144 = .ok (.dup, 1) := by decide +kernel
theorem dX6_readMember_145 : decode cX6_readMember 145 = .ok (.getfield 125, 3) := by decide +kernel
theorem dX6_readMember_148 : decode cX6_readMember 148 = .ok (.iconst 1, 1) := by decide +kernel
theorem dX6_readMember_149 : decode cX6_readMember 149 = .ok (.iadd, 1) := by decide +kernel
theorem dX6_readMember_150 : decode cX6_readMember 150 = .ok (.putfield 125, 3) := by decide +kernel
theorem dX6_readMember_153 : decode cX6_readMember 153 = .ok (.aload_n 0, 1) := by decide +kernel
theorem dX6_readMember_154 : decode cX6_readMember 154 = .ok (.getfield 46, 3) := by decide +kernel
theorem dX6_readMember_157 : decode cX6_readMember 157 = .ok (.aload_n 0, 1) := by decide +kernel
theorem dX6_readMember_158 : decode cX6_readMember 158 = .ok (.getfield 125, 3) := by decide +kernel
theorem dX6_readMember_161 : decode cX6_readMember 161 = .ok (.iconst 1, 1) := by decide +kernel
theorem dX6_readMember_162 : decode cX6_readMember 162 = .ok (.isub, 1) := by decide +kernel
theorem dX6_readMember_163 : decode cX6_readMember 163 = .ok (.iaload, 1) := by decide +kernel
theorem dX6_readMember_164 : decode cX6_readMember 164 = .ok (.bipush (-9), 2) := by decide +kernel
theorem dX6_readMember_166 : decode cX6_readMember 166 = .ok (.if_icmp .eq 7, 3) := by decide +kernel
theorem dX6_readMember_169 : decode cX6_readMember 169 = .ok (.iconst 1, 1) := by decide +kernel
theorem dX6_readMember_170 : decode cX6_readMember 170 = .ok (.goto 4, 3) := by decide +kernel
theorem dX6_readMember_173 : decode cX6_readMember 173 = .ok (.iconst 0, 1) := by decide +kernel
theorem dX6_readMember_174 : decode cX6_readMember 174 = .ok (.ireturn, 1) := by decide +kernel
theorem dX6_sitters_0 : decode cX6_sitters 0 = .ok (.iconst 0, 1) := by decide +kernel
theorem dX6_sitters_1 : decode cX6_sitters 1 = .ok (.istore_n 2, 1) := by decide +kernel
theorem dX6_sitters_2 : decode cX6_sitters 2 = .ok (.iconst 0, 1) := by decide +kernel
theorem dX6_sitters_3 : decode cX6_sitters 3 = .ok (.istore_n 3, 1) := by decide +kernel
theorem dX6_sitters_4 : decode cX6_sitters 4 = .ok (.iload_n 3, 1) := by decide +kernel
theorem dX6_sitters_5 : decode cX6_sitters 5 = .ok (.aload_n 0, 1) := by decide +kernel
theorem dX6_sitters_6 : decode cX6_sitters 6 = .ok (.getfield 77, 3) := by decide +kernel
theorem dX6_sitters_9 : decode cX6_sitters 9 = .ok (.if_icmp .ge 29, 3) := by decide +kernel
theorem dX6_sitters_12 : decode cX6_sitters 12 = .ok (.iload_n 2, 1) := by decide +kernel
theorem dX6_sitters_13 : decode cX6_sitters 13 = .ok (.aload_n 0, 1) := by decide +kernel
theorem dX6_sitters_14 : decode cX6_sitters 14 = .ok (.getfield 28, 3) := by decide +kernel
theorem dX6_sitters_17 : decode cX6_sitters 17 = .ok (.iload_n 3, 1) := by decide +kernel
theorem dX6_sitters_18 : decode cX6_sitters 18 = .ok (.iaload, 1) := by decide +kernel
theorem dX6_sitters_19 : decode cX6_sitters 19 = .ok (.iload_n 1, 1) := by decide +kernel
theorem dX6_sitters_20 : decode cX6_sitters 20 = .ok (.if_icmp .ne 9, 3) := by decide +kernel
theorem dX6_sitters_23 : decode cX6_sitters 23 = .ok (.iconst 1, 1) := by decide +kernel
theorem dX6_sitters_24 : decode cX6_sitters 24 = .ok (.iload_n 3, 1) := by decide +kernel
theorem dX6_sitters_25 : decode cX6_sitters 25 = .ok (.ishl, 1) := by decide +kernel
theorem dX6_sitters_26 : decode cX6_sitters 26 = .ok (.goto 4, 3) := by decide +kernel
theorem dX6_sitters_29 : decode cX6_sitters 29 = .ok (.iconst 0, 1) := by decide +kernel
theorem dX6_sitters_30 : decode cX6_sitters 30 = .ok (.ior, 1) := by decide +kernel
theorem dX6_sitters_31 : decode cX6_sitters 31 = .ok (.istore_n 2, 1) := by decide +kernel
theorem dX6_sitters_32 : decode cX6_sitters 32 = .ok (.iinc 3 1, 3) := by decide +kernel
theorem dX6_sitters_35 : decode cX6_sitters 35 = .ok (.goto (-31), 3) := by decide +kernel
theorem dX6_sitters_38 : decode cX6_sitters 38 = .ok (.iload_n 2, 1) := by decide +kernel
theorem dX6_sitters_39 : decode cX6_sitters 39 = .ok (.ireturn, 1) := by decide +kernel
theorem dX6_size_0 : decode cX6_size 0 = .ok (.iconst 0, 1) := by decide +kernel
theorem dX6_size_1 : decode cX6_size 1 = .ok (.istore_n 1, 1) := by decide +kernel
theorem dX6_size_2 : decode cX6_size 2 = .ok (.iload_n 0, 1) := by decide +kernel
theorem dX6_size_3 : decode cX6_size 3 = .ok (.istore_n 2, 1) := by decide +kernel
theorem dX6_size_4 : decode cX6_size 4 = .ok (.iload_n 2, 1) := by decide +kernel
theorem dX6_size_5 : decode cX6_size 5 = .ok (.ifCond .le 16, 3) := by decide +kernel
theorem dX6_size_8 : decode cX6_size 8 = .ok (.iload_n 1, 1) := by decide +kernel
theorem dX6_size_9 : decode cX6_size 9 = .ok (.iload_n 2, 1) := by decide +kernel
theorem dX6_size_10 : decode cX6_size 10 = .ok (.iconst 1, 1) := by decide +kernel
theorem dX6_size_11 : decode cX6_size 11 = .ok (.iand, 1) := by decide +kernel
theorem dX6_size_12 : decode cX6_size 12 = .ok (.iadd, 1) := by decide +kernel
theorem dX6_size_13 : decode cX6_size 13 = .ok (.istore_n 1, 1) := by decide +kernel
theorem dX6_size_14 : decode cX6_size 14 = .ok (.iload_n 2, 1) := by decide +kernel
theorem dX6_size_15 : decode cX6_size 15 = .ok (.iconst 1, 1) := by decide +kernel
theorem dX6_size_16 : decode cX6_size 16 = .ok (.ishr, 1) := by decide +kernel
theorem dX6_size_17 : decode cX6_size 17 = .ok (.istore_n 2, 1) := by decide +kernel
theorem dX6_size_18 : decode cX6_size 18 = .ok (.goto (-14), 3) := by decide +kernel
theorem dX6_size_21 : decode cX6_size 21 = .ok (.iload_n 1, 1) := by decide +kernel
theorem dX6_size_22 : decode cX6_size 22 = .ok (.ireturn, 1) := by decide +kernel
theorem dX6_farOf_0 : decode cX6_farOf 0 = .ok (.aload_n 0, 1) := by decide +kernel
theorem dX6_farOf_1 : decode cX6_farOf 1 = .ok (.getfield 25, 3) := by decide +kernel
theorem dX6_farOf_4 : decode cX6_farOf 4 = .ok (.iload_n 1, 1) := by decide +kernel
theorem dX6_farOf_5 : decode cX6_farOf 5 = .ok (.iaload, 1) := by decide +kernel
theorem dX6_farOf_6 : decode cX6_farOf 6 = .ok (.ifCond .ne 10, 3) := by decide +kernel
theorem dX6_farOf_9 : decode cX6_farOf 9 = .ok (.aload_n 0, 1) := by decide +kernel
theorem dX6_farOf_10 : decode cX6_farOf 10 = .ok (.getfield 107, 3) := by decide +kernel
theorem dX6_farOf_13 : decode cX6_farOf 13 = .ok (.goto 28, 3) := by decide +kernel
theorem dX6_farOf_16 : decode cX6_farOf 16 = .ok (.aload_n 0, 1) := by decide +kernel
theorem dX6_farOf_17 : decode cX6_farOf 17 = .ok (.getfield 25, 3) := by decide +kernel
theorem dX6_farOf_20 : decode cX6_farOf 20 = .ok (.iload_n 1, 1) := by decide +kernel
theorem dX6_farOf_21 : decode cX6_farOf 21 = .ok (.iaload, 1) := by decide +kernel
theorem dX6_farOf_22 : decode cX6_farOf 22 = .ok (.iconst 1, 1) := by decide +kernel
theorem dX6_farOf_23 : decode cX6_farOf 23 = .ok (.if_icmp .ne 12, 3) := by decide +kernel
theorem dX6_farOf_26 : decode cX6_farOf 26 = .ok (.aload_n 0, 1) := by decide +kernel
theorem dX6_farOf_27 : decode cX6_farOf 27 = .ok (.getfield 107, 3) := by decide +kernel
theorem dX6_farOf_30 : decode cX6_farOf 30 = .ok (.iconst 1, 1) := by decide +kernel
theorem dX6_farOf_31 : decode cX6_farOf 31 = .ok (.isub, 1) := by decide +kernel
theorem dX6_farOf_32 : decode cX6_farOf 32 = .ok (.goto 9, 3) := by decide +kernel
theorem dX6_farOf_35 : decode cX6_farOf 35 = .ok (.aload_n 0, 1) := by decide +kernel
theorem dX6_farOf_36 : decode cX6_farOf 36 = .ok (.getfield 107, 3) := by decide +kernel
theorem dX6_farOf_39 : decode cX6_farOf 39 = .ok (.iconst 2, 1) := by decide +kernel
theorem dX6_farOf_40 : decode cX6_farOf 40 = .ok (.idiv, 1) := by decide +kernel
theorem dX6_farOf_41 : decode cX6_farOf 41 = .ok (.ireturn, 1) := by decide +kernel
theorem dX6_ofPool_0 : decode cX6_ofPool 0 = .ok (.aload_n 0, 1) := by decide +kernel
theorem dX6_ofPool_1 : decode cX6_ofPool 1 = .ok (.iload_n 1, 1) := by decide +kernel
theorem dX6_ofPool_2 : decode cX6_ofPool 2 = .ok (.invokevirtual 145, 3) := by decide +kernel
theorem dX6_ofPool_5 : decode cX6_ofPool 5 = .ok (.ifCond .ne 5, 3) := by decide +kernel
theorem dX6_ofPool_8 : decode cX6_ofPool 8 = .ok (.iconst (-1), 1) := by decide +kernel
theorem dX6_ofPool_9 : decode cX6_ofPool 9 = .ok (.ireturn, 1) := by decide +kernel
theorem dX6_ofPool_10 : decode cX6_ofPool 10 = .ok (.iload_n 2, 1) := by decide +kernel
theorem dX6_ofPool_11 : decode cX6_ofPool 11 = .ok (.tableswitch 70 0 3 #[29, 36, 43, 49], 29) := by decide +kernel
theorem dX6_ofPool_40 : decode cX6_ofPool 40 = .ok (.aload_n 0, 1) := by decide +kernel
theorem dX6_ofPool_41 : decode cX6_ofPool 41 = .ok (.getfield 19, 3) := by decide +kernel
theorem dX6_ofPool_44 : decode cX6_ofPool 44 = .ok (.iload_n 1, 1) := by decide +kernel
theorem dX6_ofPool_45 : decode cX6_ofPool 45 = .ok (.iaload, 1) := by decide +kernel
theorem dX6_ofPool_46 : decode cX6_ofPool 46 = .ok (.ireturn, 1) := by decide +kernel
theorem dX6_ofPool_47 : decode cX6_ofPool 47 = .ok (.aload_n 0, 1) := by decide +kernel
theorem dX6_ofPool_48 : decode cX6_ofPool 48 = .ok (.getfield 22, 3) := by decide +kernel
theorem dX6_ofPool_51 : decode cX6_ofPool 51 = .ok (.iload_n 1, 1) := by decide +kernel
theorem dX6_ofPool_52 : decode cX6_ofPool 52 = .ok (.iaload, 1) := by decide +kernel
theorem dX6_ofPool_53 : decode cX6_ofPool 53 = .ok (.ireturn, 1) := by decide +kernel
theorem dX6_ofPool_54 : decode cX6_ofPool 54 = .ok (.aload_n 0, 1) := by decide +kernel
theorem dX6_ofPool_55 : decode cX6_ofPool 55 = .ok (.iload_n 1, 1) := by decide +kernel
theorem dX6_ofPool_56 : decode cX6_ofPool 56 = .ok (.invokevirtual 148, 3) := by decide +kernel
theorem dX6_ofPool_59 : decode cX6_ofPool 59 = .ok (.ireturn, 1) := by decide +kernel
theorem dX6_ofPool_60 : decode cX6_ofPool 60 = .ok (.bipush 6, 2) := by decide +kernel
theorem dX6_ofPool_62 : decode cX6_ofPool 62 = .ok (.aload_n 0, 1) := by decide +kernel
theorem dX6_ofPool_63 : decode cX6_ofPool 63 = .ok (.getfield 22, 3) := by decide +kernel
theorem dX6_ofPool_66 : decode cX6_ofPool 66 = .ok (.iload_n 1, 1) := by decide +kernel
theorem dX6_ofPool_67 : decode cX6_ofPool 67 = .ok (.iaload, 1) := by decide +kernel
theorem dX6_ofPool_68 : decode cX6_ofPool 68 = .ok (.imul, 1) := by decide +kernel
theorem dX6_ofPool_69 : decode cX6_ofPool 69 = .ok (.aload_n 0, 1) := by decide +kernel
theorem dX6_ofPool_70 : decode cX6_ofPool 70 = .ok (.iload_n 1, 1) := by decide +kernel
theorem dX6_ofPool_71 : decode cX6_ofPool 71 = .ok (.invokevirtual 148, 3) := by decide +kernel
theorem dX6_ofPool_74 : decode cX6_ofPool 74 = .ok (.invokestatic 151, 3) := by decide +kernel
theorem dX6_ofPool_77 : decode cX6_ofPool 77 = .ok (.iconst 1, 1) := by decide +kernel
theorem dX6_ofPool_78 : decode cX6_ofPool 78 = .ok (.iadd, 1) := by decide +kernel
theorem dX6_ofPool_79 : decode cX6_ofPool 79 = .ok (.idiv, 1) := by decide +kernel
theorem dX6_ofPool_80 : decode cX6_ofPool 80 = .ok (.ireturn, 1) := by decide +kernel
theorem dX6_ofPool_81 : decode cX6_ofPool 81 = .ok (.bipush (-2), 2) := by decide +kernel
theorem dX6_ofPool_83 : decode cX6_ofPool 83 = .ok (.ireturn, 1) := by decide +kernel
theorem dX6_ofMember_0 : decode cX6_ofMember 0 = .ok (.aload_n 0, 1) := by decide +kernel
theorem dX6_ofMember_1 : decode cX6_ofMember 1 = .ok (.iload_n 1, 1) := by decide +kernel
theorem dX6_ofMember_2 : decode cX6_ofMember 2 = .ok (.invokevirtual 154, 3) := by decide +kernel
theorem dX6_ofMember_5 : decode cX6_ofMember 5 = .ok (.ifCond .ne 5, 3) := by decide +kernel
theorem dX6_ofMember_8 : decode cX6_ofMember 8 = .ok (.iconst (-1), 1) := by decide +kernel
theorem dX6_ofMember_9 : decode cX6_ofMember 9 = .ok (.ireturn, 1) := by decide +kernel
theorem dX6_ofMember_10 : decode cX6_ofMember 10 = .ok (.iload_n 2, 1) := by decide +kernel
theorem dX6_ofMember_11 : decode cX6_ofMember 11 = .ok (.ifCond .ne 12, 3) := by decide +kernel
theorem dX6_ofMember_14 : decode cX6_ofMember 14 = .ok (.aload_n 0, 1) := by decide +kernel
theorem dX6_ofMember_15 : decode cX6_ofMember 15 = .ok (.getfield 25, 3) := by decide +kernel
theorem dX6_ofMember_18 : decode cX6_ofMember 18 = .ok (.iload_n 1, 1) := by decide +kernel
theorem dX6_ofMember_19 : decode cX6_ofMember 19 = .ok (.iaload, 1) := by decide +kernel
theorem dX6_ofMember_20 : decode cX6_ofMember 20 = .ok (.goto 46, 3) := by decide +kernel
theorem dX6_ofMember_23 : decode cX6_ofMember 23 = .ok (.iload_n 2, 1) := by decide +kernel
theorem dX6_ofMember_24 : decode cX6_ofMember 24 = .ok (.iconst 1, 1) := by decide +kernel
theorem dX6_ofMember_25 : decode cX6_ofMember 25 = .ok (.if_icmp .ne 12, 3) := by decide +kernel
theorem dX6_ofMember_28 : decode cX6_ofMember 28 = .ok (.aload_n 0, 1) := by decide +kernel
theorem dX6_ofMember_29 : decode cX6_ofMember 29 = .ok (.getfield 28, 3) := by decide +kernel
theorem dX6_ofMember_32 : decode cX6_ofMember 32 = .ok (.iload_n 1, 1) := by decide +kernel
theorem dX6_ofMember_33 : decode cX6_ofMember 33 = .ok (.iaload, 1) := by decide +kernel
theorem dX6_ofMember_34 : decode cX6_ofMember 34 = .ok (.goto 32, 3) := by decide +kernel
theorem dX6_ofMember_37 : decode cX6_ofMember 37 = .ok (.iload_n 2, 1) := by decide +kernel
theorem dX6_ofMember_38 : decode cX6_ofMember 38 = .ok (.iconst 2, 1) := by decide +kernel
theorem dX6_ofMember_39 : decode cX6_ofMember 39 = .ok (.if_icmp .ne 12, 3) := by decide +kernel
theorem dX6_ofMember_42 : decode cX6_ofMember 42 = .ok (.aload_n 0, 1) := by decide +kernel
theorem dX6_ofMember_43 : decode cX6_ofMember 43 = .ok (.getfield 31, 3) := by decide +kernel
theorem dX6_ofMember_46 : decode cX6_ofMember 46 = .ok (.iload_n 1, 1) := by decide +kernel
theorem dX6_ofMember_47 : decode cX6_ofMember 47 = .ok (.iaload, 1) := by decide +kernel
theorem dX6_ofMember_48 : decode cX6_ofMember 48 = .ok (.goto 18, 3) := by decide +kernel
theorem dX6_ofMember_51 : decode cX6_ofMember 51 = .ok (.iload_n 2, 1) := by decide +kernel
theorem dX6_ofMember_52 : decode cX6_ofMember 52 = .ok (.iconst 3, 1) := by decide +kernel
theorem dX6_ofMember_53 : decode cX6_ofMember 53 = .ok (.if_icmp .ne 11, 3) := by decide +kernel
theorem dX6_ofMember_56 : decode cX6_ofMember 56 = .ok (.aload_n 0, 1) := by decide +kernel
theorem dX6_ofMember_57 : decode cX6_ofMember 57 = .ok (.iload_n 1, 1) := by decide +kernel
theorem dX6_ofMember_58 : decode cX6_ofMember 58 = .ok (.invokevirtual 157, 3) := by decide +kernel
theorem dX6_ofMember_61 : decode cX6_ofMember 61 = .ok (.goto 5, 3) := by decide +kernel
theorem dX6_ofMember_64 : decode cX6_ofMember 64 = .ok (.bipush (-2), 2) := by decide +kernel
theorem dX6_ofMember_66 : decode cX6_ofMember 66 = .ok (.ireturn, 1) := by decide +kernel
theorem dX6_raise_0 : decode cX6_raise 0 = .ok (.aload_n 0, 1) := by decide +kernel
theorem dX6_raise_1 : decode cX6_raise 1 = .ok (.iload_n 1, 1) := by decide +kernel
theorem dX6_raise_2 : decode cX6_raise 2 = .ok (.invokevirtual 145, 3) := by decide +kernel
theorem dX6_raise_5 : decode cX6_raise 5 = .ok (.ifCond .ne 5, 3) := by decide +kernel
theorem dX6_raise_8 : decode cX6_raise 8 = .ok (.iconst (-1), 1) := by decide +kernel
theorem dX6_raise_9 : decode cX6_raise 9 = .ok (.ireturn, 1) := by decide +kernel
theorem dX6_raise_10 : decode cX6_raise 10 = .ok (.iload_n 2, 1) := by decide +kernel
theorem dX6_raise_11 : decode cX6_raise 11 = .ok (.iconst 1, 1) := by decide +kernel
theorem dX6_raise_12 : decode cX6_raise 12 = .ok (.bipush 9, 2) := by decide +kernel
theorem dX6_raise_14 : decode cX6_raise 14 = .ok (.invokestatic 70, 3) := by decide +kernel
theorem dX6_raise_17 : decode cX6_raise 17 = .ok (.ifCond .ne 6, 3) := by decide +kernel
theorem dX6_raise_20 : decode cX6_raise 20 = .ok (.bipush (-2), 2) := by decide +kernel
theorem dX6_raise_22 : decode cX6_raise 22 = .ok (.ireturn, 1) := by decide +kernel
theorem dX6_raise_23 : decode cX6_raise 23 = .ok (.aload_n 0, 1) := by decide +kernel
theorem dX6_raise_24 : decode cX6_raise 24 = .ok (.getfield 19, 3) := by decide +kernel
theorem dX6_raise_27 : decode cX6_raise 27 = .ok (.iload_n 1, 1) := by decide +kernel
theorem dX6_raise_28 : decode cX6_raise 28 = .ok (.iaload, 1) := by decide +kernel
theorem dX6_raise_29 : decode cX6_raise 29 = .ok (.istore_n 3, 1) := by decide +kernel
theorem dX6_raise_30 : decode cX6_raise 30 = .ok (.aload_n 0, 1) := by decide +kernel
theorem dX6_raise_31 : decode cX6_raise 31 = .ok (.getfield 19, 3) := by decide +kernel
theorem dX6_raise_34 : decode cX6_raise 34 = .ok (.iload_n 1, 1) := by decide +kernel
theorem dX6_raise_35 : decode cX6_raise 35 = .ok (.iload_n 2, 1) := by decide +kernel
theorem dX6_raise_36 : decode cX6_raise 36 = .ok (.iastore, 1) := by decide +kernel
theorem dX6_raise_37 : decode cX6_raise 37 = .ok (.iload_n 3, 1) := by decide +kernel
theorem dX6_raise_38 : decode cX6_raise 38 = .ok (.ireturn, 1) := by decide +kernel
theorem dX6_sway_0 : decode cX6_sway 0 = .ok (.aload_n 0, 1) := by decide +kernel
theorem dX6_sway_1 : decode cX6_sway 1 = .ok (.iload_n 1, 1) := by decide +kernel
theorem dX6_sway_2 : decode cX6_sway 2 = .ok (.invokevirtual 154, 3) := by decide +kernel
theorem dX6_sway_5 : decode cX6_sway 5 = .ok (.ifCond .ne 5, 3) := by decide +kernel
theorem dX6_sway_8 : decode cX6_sway 8 = .ok (.iconst (-1), 1) := by decide +kernel
theorem dX6_sway_9 : decode cX6_sway 9 = .ok (.ireturn, 1) := by decide +kernel
theorem dX6_sway_10 : decode cX6_sway 10 = .ok (.iload_n 2, 1) := by decide +kernel
theorem dX6_sway_11 : decode cX6_sway 11 = .ok (.invokestatic 160, 3) := by decide +kernel
theorem dX6_sway_14 : decode cX6_sway 14 = .ok (.ifCond .ne 6, 3) := by decide +kernel
theorem dX6_sway_17 : decode cX6_sway 17 = .ok (.bipush (-2), 2) := by decide +kernel
theorem dX6_sway_19 : decode cX6_sway 19 = .ok (.ireturn, 1) := by decide +kernel
theorem dX6_sway_20 : decode cX6_sway 20 = .ok (.aload_n 0, 1) := by decide +kernel
theorem dX6_sway_21 : decode cX6_sway 21 = .ok (.getfield 31, 3) := by decide +kernel
theorem dX6_sway_24 : decode cX6_sway 24 = .ok (.iload_n 1, 1) := by decide +kernel
theorem dX6_sway_25 : decode cX6_sway 25 = .ok (.iaload, 1) := by decide +kernel
theorem dX6_sway_26 : decode cX6_sway 26 = .ok (.istore_n 3, 1) := by decide +kernel
theorem dX6_sway_27 : decode cX6_sway 27 = .ok (.aload_n 0, 1) := by decide +kernel
theorem dX6_sway_28 : decode cX6_sway 28 = .ok (.getfield 31, 3) := by decide +kernel
theorem dX6_sway_31 : decode cX6_sway 31 = .ok (.iload_n 1, 1) := by decide +kernel
theorem dX6_sway_32 : decode cX6_sway 32 = .ok (.iload_n 2, 1) := by decide +kernel
theorem dX6_sway_33 : decode cX6_sway 33 = .ok (.iastore, 1) := by decide +kernel
theorem dX6_sway_34 : decode cX6_sway 34 = .ok (.iload_n 3, 1) := by decide +kernel
theorem dX6_sway_35 : decode cX6_sway 35 = .ok (.ireturn, 1) := by decide +kernel
theorem dX6_seat_0 : decode cX6_seat 0 = .ok (.aload_n 0, 1) := by decide +kernel
theorem dX6_seat_1 : decode cX6_seat 1 = .ok (.iload_n 1, 1) := by decide +kernel
theorem dX6_seat_2 : decode cX6_seat 2 = .ok (.invokevirtual 154, 3) := by decide +kernel
theorem dX6_seat_5 : decode cX6_seat 5 = .ok (.ifCond .eq 11, 3) := by decide +kernel
theorem dX6_seat_8 : decode cX6_seat 8 = .ok (.aload_n 0, 1) := by decide +kernel
theorem dX6_seat_9 : decode cX6_seat 9 = .ok (.iload_n 2, 1) := by decide +kernel
theorem dX6_seat_10 : decode cX6_seat 10 = .ok (.invokevirtual 145, 3) := by decide +kernel
theorem dX6_seat_13 : decode cX6_seat 13 = .ok (.ifCond .ne 5, 3) := by decide +kernel
theorem dX6_seat_16 : decode cX6_seat 16 = .ok (.iconst (-1), 1) := by decide +kernel
theorem dX6_seat_17 : decode cX6_seat 17 = .ok (.ireturn, 1) := by decide +kernel
theorem dX6_seat_18 : decode cX6_seat 18 = .ok (.aload_n 0, 1) := by decide +kernel
theorem dX6_seat_19 : decode cX6_seat 19 = .ok (.getfield 28, 3) := by decide +kernel
theorem dX6_seat_22 : decode cX6_seat 22 = .ok (.iload_n 1, 1) := by decide +kernel
theorem dX6_seat_23 : decode cX6_seat 23 = .ok (.iaload, 1) := by decide +kernel
theorem dX6_seat_24 : decode cX6_seat 24 = .ok (.istore_n 3, 1) := by decide +kernel
theorem dX6_seat_25 : decode cX6_seat 25 = .ok (.aload_n 0, 1) := by decide +kernel
theorem dX6_seat_26 : decode cX6_seat 26 = .ok (.getfield 28, 3) := by decide +kernel
theorem dX6_seat_29 : decode cX6_seat 29 = .ok (.iload_n 1, 1) := by decide +kernel
theorem dX6_seat_30 : decode cX6_seat 30 = .ok (.iload_n 2, 1) := by decide +kernel
theorem dX6_seat_31 : decode cX6_seat 31 = .ok (.iastore, 1) := by decide +kernel
theorem dX6_seat_32 : decode cX6_seat 32 = .ok (.iload_n 3, 1) := by decide +kernel
theorem dX6_seat_33 : decode cX6_seat 33 = .ok (.ireturn, 1) := by decide +kernel
theorem dX6_flow_0 : decode cX6_flow 0 = .ok (.iload_n 1, 1) := by decide +kernel
theorem dX6_flow_1 : decode cX6_flow 1 = .ok (.iconst 1, 1) := by decide +kernel
theorem dX6_flow_2 : decode cX6_flow 2 = .ok (.iconst 3, 1) := by decide +kernel
theorem dX6_flow_3 : decode cX6_flow 3 = .ok (.invokestatic 70, 3) := by decide +kernel
theorem dX6_flow_6 : decode cX6_flow 6 = .ok (.ifCond .ne 6, 3) := by decide +kernel
theorem dX6_flow_9 : decode cX6_flow 9 = .ok (.bipush (-2), 2) := by decide +kernel
theorem dX6_flow_11 : decode cX6_flow 11 = .ok (.ireturn, 1) := by decide +kernel
theorem dX6_flow_12 : decode cX6_flow 12 = .ok (.aload_n 0, 1) := by decide +kernel
theorem dX6_flow_13 : decode cX6_flow 13 = .ok (.getfield 74, 3) := by decide +kernel
theorem dX6_flow_16 : decode cX6_flow 16 = .ok (.ifCond .ne 6, 3) := by decide +kernel
theorem dX6_flow_19 : decode cX6_flow 19 = .ok (.bipush (-3), 2) := by decide +kernel
theorem dX6_flow_21 : decode cX6_flow 21 = .ok (.ireturn, 1) := by decide +kernel
theorem dX6_flow_22 : decode cX6_flow 22 = .ok (.aload_n 0, 1) := by decide +kernel
theorem dX6_flow_23 : decode cX6_flow 23 = .ok (.getfield 107, 3) := by decide +kernel
theorem dX6_flow_26 : decode cX6_flow 26 = .ok (.istore_n 2, 1) := by decide +kernel
theorem dX6_flow_27 : decode cX6_flow 27 = .ok (.aload_n 0, 1) := by decide +kernel
theorem dX6_flow_28 : decode cX6_flow 28 = .ok (.iload_n 1, 1) := by decide +kernel
theorem dX6_flow_29 : decode cX6_flow 29 = .ok (.putfield 107, 3) := by decide +kernel
theorem dX6_flow_32 : decode cX6_flow 32 = .ok (.iload_n 2, 1) := by decide +kernel
theorem dX6_flow_33 : decode cX6_flow 33 = .ok (.ireturn, 1) := by decide +kernel
theorem dX6_calm_0 : decode cX6_calm 0 = .ok (.iload_n 1, 1) := by decide +kernel
theorem dX6_calm_1 : decode cX6_calm 1 = .ok (.invokestatic 160, 3) := by decide +kernel
theorem dX6_calm_4 : decode cX6_calm 4 = .ok (.ifCond .ne 6, 3) := by decide +kernel
theorem dX6_calm_7 : decode cX6_calm 7 = .ok (.bipush (-2), 2) := by decide +kernel
theorem dX6_calm_9 : decode cX6_calm 9 = .ok (.ireturn, 1) := by decide +kernel
theorem dX6_calm_10 : decode cX6_calm 10 = .ok (.aload_n 0, 1) := by decide +kernel
theorem dX6_calm_11 : decode cX6_calm 11 = .ok (.getfield 74, 3) := by decide +kernel
theorem dX6_calm_14 : decode cX6_calm 14 = .ok (.ifCond .ne 6, 3) := by decide +kernel
theorem dX6_calm_17 : decode cX6_calm 17 = .ok (.bipush (-3), 2) := by decide +kernel
theorem dX6_calm_19 : decode cX6_calm 19 = .ok (.ireturn, 1) := by decide +kernel
theorem dX6_calm_20 : decode cX6_calm 20 = .ok (.aload_n 0, 1) := by decide +kernel
theorem dX6_calm_21 : decode cX6_calm 21 = .ok (.getfield 113, 3) := by decide +kernel
theorem dX6_calm_24 : decode cX6_calm 24 = .ok (.istore_n 2, 1) := by decide +kernel
theorem dX6_calm_25 : decode cX6_calm 25 = .ok (.aload_n 0, 1) := by decide +kernel
theorem dX6_calm_26 : decode cX6_calm 26 = .ok (.iload_n 1, 1) := by decide +kernel
theorem dX6_calm_27 : decode cX6_calm 27 = .ok (.putfield 113, 3) := by decide +kernel
theorem dX6_calm_30 : decode cX6_calm 30 = .ok (.iload_n 2, 1) := by decide +kernel
theorem dX6_calm_31 : decode cX6_calm 31 = .ok (.ireturn, 1) := by decide +kernel
theorem dX6_leap_0 : decode cX6_leap 0 = .ok (.iload_n 1, 1) := by decide +kernel
theorem dX6_leap_1 : decode cX6_leap 1 = .ok (.invokestatic 160, 3) := by decide +kernel
theorem dX6_leap_4 : decode cX6_leap 4 = .ok (.ifCond .ne 6, 3) := by decide +kernel
theorem dX6_leap_7 : decode cX6_leap 7 = .ok (.bipush (-2), 2) := by decide +kernel
theorem dX6_leap_9 : decode cX6_leap 9 = .ok (.ireturn, 1) := by decide +kernel
theorem dX6_leap_10 : decode cX6_leap 10 = .ok (.aload_n 0, 1) := by decide +kernel
theorem dX6_leap_11 : decode cX6_leap 11 = .ok (.getfield 74, 3) := by decide +kernel
theorem dX6_leap_14 : decode cX6_leap 14 = .ok (.ifCond .ne 6, 3) := by decide +kernel
theorem dX6_leap_17 : decode cX6_leap 17 = .ok (.bipush (-3), 2) := by decide +kernel
theorem dX6_leap_19 : decode cX6_leap 19 = .ok (.ireturn, 1) := by decide +kernel
theorem dX6_leap_20 : decode cX6_leap 20 = .ok (.aload_n 0, 1) := by decide +kernel
theorem dX6_leap_21 : decode cX6_leap 21 = .ok (.getfield 119, 3) := by decide +kernel
theorem dX6_leap_24 : decode cX6_leap 24 = .ok (.istore_n 2, 1) := by decide +kernel
theorem dX6_leap_25 : decode cX6_leap 25 = .ok (.aload_n 0, 1) := by decide +kernel
theorem dX6_leap_26 : decode cX6_leap 26 = .ok (.iload_n 1, 1) := by decide +kernel
theorem dX6_leap_27 : decode cX6_leap 27 = .ok (.putfield 119, 3) := by decide +kernel
theorem dX6_leap_30 : decode cX6_leap 30 = .ok (.iload_n 2, 1) := by decide +kernel
theorem dX6_leap_31 : decode cX6_leap 31 = .ok (.ireturn, 1) := by decide +kernel
theorem dX6_washedBy_0 : decode cX6_washedBy 0 = .ok (.iconst 0, 1) := by decide +kernel
theorem dX6_washedBy_1 : decode cX6_washedBy 1 = .ok (.istore_n 2, 1) := by decide +kernel
theorem dX6_washedBy_2 : decode cX6_washedBy 2 = .ok (.iconst 0, 1) := by decide +kernel
theorem dX6_washedBy_3 : decode cX6_washedBy 3 = .ok (.istore_n 3, 1) := by decide +kernel
theorem dX6_washedBy_4 : decode cX6_washedBy 4 = .ok (.iload_n 3, 1) := by decide +kernel
theorem dX6_washedBy_5 : decode cX6_washedBy 5 = .ok (.aload_n 0, 1) := by decide +kernel
theorem dX6_washedBy_6 : decode cX6_washedBy 6 = .ok (.getfield 74, 3) := by decide +kernel
theorem dX6_washedBy_9 : decode cX6_washedBy 9 = .ok (.if_icmp .ge 29, 3) := by decide +kernel
theorem dX6_washedBy_12 : decode cX6_washedBy 12 = .ok (.iload_n 2, 1) := by decide +kernel
theorem dX6_washedBy_13 : decode cX6_washedBy 13 = .ok (.aload_n 0, 1) := by decide +kernel
theorem dX6_washedBy_14 : decode cX6_washedBy 14 = .ok (.getfield 19, 3) := by decide +kernel
theorem dX6_washedBy_17 : decode cX6_washedBy 17 = .ok (.iload_n 3, 1) := by decide +kernel
theorem dX6_washedBy_18 : decode cX6_washedBy 18 = .ok (.iaload, 1) := by decide +kernel
theorem dX6_washedBy_19 : decode cX6_washedBy 19 = .ok (.iload_n 1, 1) := by decide +kernel
theorem dX6_washedBy_20 : decode cX6_washedBy 20 = .ok (.if_icmp .ge 9, 3) := by decide +kernel
theorem dX6_washedBy_23 : decode cX6_washedBy 23 = .ok (.iconst 1, 1) := by decide +kernel
theorem dX6_washedBy_24 : decode cX6_washedBy 24 = .ok (.iload_n 3, 1) := by decide +kernel
theorem dX6_washedBy_25 : decode cX6_washedBy 25 = .ok (.ishl, 1) := by decide +kernel
theorem dX6_washedBy_26 : decode cX6_washedBy 26 = .ok (.goto 4, 3) := by decide +kernel
theorem dX6_washedBy_29 : decode cX6_washedBy 29 = .ok (.iconst 0, 1) := by decide +kernel
theorem dX6_washedBy_30 : decode cX6_washedBy 30 = .ok (.ior, 1) := by decide +kernel
theorem dX6_washedBy_31 : decode cX6_washedBy 31 = .ok (.istore_n 2, 1) := by decide +kernel
theorem dX6_washedBy_32 : decode cX6_washedBy 32 = .ok (.iinc 3 1, 3) := by decide +kernel
theorem dX6_washedBy_35 : decode cX6_washedBy 35 = .ok (.goto (-31), 3) := by decide +kernel
theorem dX6_washedBy_38 : decode cX6_washedBy 38 = .ok (.iload_n 2, 1) := by decide +kernel
theorem dX6_washedBy_39 : decode cX6_washedBy 39 = .ok (.ireturn, 1) := by decide +kernel
theorem dX6_carriedFrom_0 : decode cX6_carriedFrom 0 = .ok (.aload_n 0, 1) := by decide +kernel
theorem dX6_carriedFrom_1 : decode cX6_carriedFrom 1 = .ok (.getfield 19, 3) := by decide +kernel
theorem dX6_carriedFrom_4 : decode cX6_carriedFrom 4 = .ok (.iload_n 1, 1) := by decide +kernel
theorem dX6_carriedFrom_5 : decode cX6_carriedFrom 5 = .ok (.iaload, 1) := by decide +kernel
theorem dX6_carriedFrom_6 : decode cX6_carriedFrom 6 = .ok (.iload_n 3, 1) := by decide +kernel
theorem dX6_carriedFrom_7 : decode cX6_carriedFrom 7 = .ok (.if_icmp .lt 5, 3) := by decide +kernel
theorem dX6_carriedFrom_10 : decode cX6_carriedFrom 10 = .ok (.iload_n 1, 1) := by decide +kernel
theorem dX6_carriedFrom_11 : decode cX6_carriedFrom 11 = .ok (.ireturn, 1) := by decide +kernel
theorem dX6_carriedFrom_12 : decode cX6_carriedFrom 12 = .ok (.iload_n 1, 1) := by decide +kernel
theorem dX6_carriedFrom_13 : decode cX6_carriedFrom 13 = .ok (.istore 4, 2) := by decide +kernel
theorem dX6_carriedFrom_15 : decode cX6_carriedFrom 15 = .ok (.iconst 0, 1) := by decide +kernel
theorem dX6_carriedFrom_16 : decode cX6_carriedFrom 16 = .ok (.istore 5, 2) := by decide +kernel
theorem dX6_carriedFrom_18 : decode cX6_carriedFrom 18 = .ok (.iload 5, 2) := by decide +kernel
theorem dX6_carriedFrom_20 : decode cX6_carriedFrom 20 = .ok (.iload_n 2, 1) := by decide +kernel
theorem dX6_carriedFrom_21 : decode cX6_carriedFrom 21 = .ok (.if_icmp .ge 45, 3) := by decide +kernel
theorem dX6_carriedFrom_24 : decode cX6_carriedFrom 24 = .ok (.iload 4, 2) := by decide +kernel
theorem dX6_carriedFrom_26 : decode cX6_carriedFrom 26 = .ok (.iconst 1, 1) := by decide +kernel
theorem dX6_carriedFrom_27 : decode cX6_carriedFrom 27 = .ok (.iadd, 1) := by decide +kernel
theorem dX6_carriedFrom_28 : decode cX6_carriedFrom 28 = .ok (.aload_n 0, 1) := by decide +kernel
theorem dX6_carriedFrom_29 : decode cX6_carriedFrom 29 = .ok (.getfield 74, 3) := by decide +kernel
theorem dX6_carriedFrom_32 : decode cX6_carriedFrom 32 = .ok (.irem, 1) := by decide +kernel
theorem dX6_carriedFrom_33 : decode cX6_carriedFrom 33 = .ok (.istore 4, 2) := by decide +kernel
theorem dX6_carriedFrom_35 : decode cX6_carriedFrom 35 = .ok (.aload_n 0, 1) := by decide +kernel
theorem dX6_carriedFrom_36 : decode cX6_carriedFrom 36 = .ok (.getfield 19, 3) := by decide +kernel
theorem dX6_carriedFrom_39 : decode cX6_carriedFrom 39 = .ok (.iload 4, 2) := by decide +kernel
theorem dX6_carriedFrom_41 : decode cX6_carriedFrom 41 = .ok (.iaload, 1) := by decide +kernel
theorem dX6_carriedFrom_42 : decode cX6_carriedFrom 42 = .ok (.iload_n 3, 1) := by decide +kernel
theorem dX6_carriedFrom_43 : decode cX6_carriedFrom 43 = .ok (.if_icmp .lt 17, 3) := by decide +kernel
theorem dX6_carriedFrom_46 : decode cX6_carriedFrom 46 = .ok (.iload 4, 2) := by decide +kernel
theorem dX6_carriedFrom_48 : decode cX6_carriedFrom 48 = .ok (.iconst 1, 1) := by decide +kernel
theorem dX6_carriedFrom_49 : decode cX6_carriedFrom 49 = .ok (.iadd, 1) := by decide +kernel
theorem dX6_carriedFrom_50 : decode cX6_carriedFrom 50 = .ok (.aload_n 0, 1) := by decide +kernel
theorem dX6_carriedFrom_51 : decode cX6_carriedFrom 51 = .ok (.getfield 74, 3) := by decide +kernel
theorem dX6_carriedFrom_54 : decode cX6_carriedFrom 54 = .ok (.irem, 1) := by decide +kernel
theorem dX6_carriedFrom_55 : decode cX6_carriedFrom 55 = .ok (.istore 4, 2) := by decide +kernel
theorem dX6_carriedFrom_57 : decode cX6_carriedFrom 57 = .ok (.goto (-22), 3) := by decide +kernel
theorem dX6_carriedFrom_60 : decode cX6_carriedFrom 60 = .ok (.iinc 5 1, 3) := by decide +kernel
theorem dX6_carriedFrom_63 : decode cX6_carriedFrom 63 = .ok (.goto (-45), 3) := by decide +kernel
theorem dX6_carriedFrom_66 : decode cX6_carriedFrom 66 = .ok (.iload 4, 2) := by decide +kernel
theorem dX6_carriedFrom_68 : decode cX6_carriedFrom 68 = .ok (.ireturn, 1) := by decide +kernel
theorem dX6_washed_0 : decode cX6_washed 0 = .ok (.iload_n 1, 1) := by decide +kernel
theorem dX6_washed_1 : decode cX6_washed 1 = .ok (.invokestatic 160, 3) := by decide +kernel
theorem dX6_washed_4 : decode cX6_washed 4 = .ok (.ifCond .ne 6, 3) := by decide +kernel
theorem dX6_washed_7 : decode cX6_washed 7 = .ok (.bipush (-2), 2) := by decide +kernel
theorem dX6_washed_9 : decode cX6_washed 9 = .ok (.ireturn, 1) := by decide +kernel
theorem dX6_washed_10 : decode cX6_washed 10 = .ok (.aload_n 0, 1) := by decide +kernel
theorem dX6_washed_11 : decode cX6_washed 11 = .ok (.getfield 74, 3) := by decide +kernel
theorem dX6_washed_14 : decode cX6_washed 14 = .ok (.ifCond .ne 8, 3) := by decide +kernel
theorem dX6_washed_17 : decode cX6_washed 17 = .ok (.bipush (-3), 2) := by decide +kernel
theorem dX6_washed_19 : decode cX6_washed 19 = .ok (.goto 8, 3) := by decide +kernel
theorem dX6_washed_22 : decode cX6_washed 22 = .ok (.aload_n 0, 1) := by decide +kernel
theorem dX6_washed_23 : decode cX6_washed 23 = .ok (.iload_n 1, 1) := by decide +kernel
theorem dX6_washed_24 : decode cX6_washed 24 = .ok (.invokevirtual 163, 3) := by decide +kernel
theorem dX6_washed_27 : decode cX6_washed 27 = .ok (.ireturn, 1) := by decide +kernel
theorem dX6_carried_0 : decode cX6_carried 0 = .ok (.aload_n 0, 1) := by decide +kernel
theorem dX6_carried_1 : decode cX6_carried 1 = .ok (.iload_n 1, 1) := by decide +kernel
theorem dX6_carried_2 : decode cX6_carried 2 = .ok (.invokevirtual 154, 3) := by decide +kernel
theorem dX6_carried_5 : decode cX6_carried 5 = .ok (.ifCond .ne 5, 3) := by decide +kernel
theorem dX6_carried_8 : decode cX6_carried 8 = .ok (.iconst (-1), 1) := by decide +kernel
theorem dX6_carried_9 : decode cX6_carried 9 = .ok (.ireturn, 1) := by decide +kernel
theorem dX6_carried_10 : decode cX6_carried 10 = .ok (.iload_n 2, 1) := by decide +kernel
theorem dX6_carried_11 : decode cX6_carried 11 = .ok (.invokestatic 160, 3) := by decide +kernel
theorem dX6_carried_14 : decode cX6_carried 14 = .ok (.ifCond .eq 22, 3) := by decide +kernel
theorem dX6_carried_17 : decode cX6_carried 17 = .ok (.aload_n 0, 1) := by decide +kernel
theorem dX6_carried_18 : decode cX6_carried 18 = .ok (.aload_n 0, 1) := by decide +kernel
theorem dX6_carried_19 : decode cX6_carried 19 = .ok (.getfield 28, 3) := by decide +kernel
theorem dX6_carried_22 : decode cX6_carried 22 = .ok (.iload_n 1, 1) := by decide +kernel
theorem dX6_carried_23 : decode cX6_carried 23 = .ok (.iaload, 1) := by decide +kernel
theorem dX6_carried_24 : decode cX6_carried 24 = .ok (.aload_n 0, 1) := by decide +kernel
theorem dX6_carried_25 : decode cX6_carried 25 = .ok (.iload_n 1, 1) := by decide +kernel
theorem dX6_carried_26 : decode cX6_carried 26 = .ok (.invokevirtual 157, 3) := by decide +kernel
theorem dX6_carried_29 : decode cX6_carried 29 = .ok (.iload_n 2, 1) := by decide +kernel
theorem dX6_carried_30 : decode cX6_carried 30 = .ok (.invokevirtual 166, 3) := by decide +kernel
theorem dX6_carried_33 : decode cX6_carried 33 = .ok (.goto 5, 3) := by decide +kernel
theorem dX6_carried_36 : decode cX6_carried 36 = .ok (.bipush (-2), 2) := by decide +kernel
theorem dX6_carried_38 : decode cX6_carried 38 = .ok (.ireturn, 1) := by decide +kernel
theorem dX6_carryAll_0 : decode cX6_carryAll 0 = .ok (.iconst 0, 1) := by decide +kernel
theorem dX6_carryAll_1 : decode cX6_carryAll 1 = .ok (.istore_n 2, 1) := by decide +kernel
theorem dX6_carryAll_2 : decode cX6_carryAll 2 = .ok (.iconst 0, 1) := by decide +kernel
theorem dX6_carryAll_3 : decode cX6_carryAll 3 = .ok (.istore_n 3, 1) := by decide +kernel
theorem dX6_carryAll_4 : decode cX6_carryAll 4 = .ok (.iload_n 3, 1) := by decide +kernel
theorem dX6_carryAll_5 : decode cX6_carryAll 5 = .ok (.aload_n 0, 1) := by decide +kernel
theorem dX6_carryAll_6 : decode cX6_carryAll 6 = .ok (.getfield 77, 3) := by decide +kernel
theorem dX6_carryAll_9 : decode cX6_carryAll 9 = .ok (.if_icmp .ge 54, 3) := by decide +kernel
theorem dX6_carryAll_12 : decode cX6_carryAll 12 = .ok (.aload_n 0, 1) := by decide +kernel
theorem dX6_carryAll_13 : decode cX6_carryAll 13 = .ok (.aload_n 0, 1) := by decide +kernel
theorem dX6_carryAll_14 : decode cX6_carryAll 14 = .ok (.getfield 28, 3) := by decide +kernel
theorem dX6_carryAll_17 : decode cX6_carryAll 17 = .ok (.iload_n 3, 1) := by decide +kernel
theorem dX6_carryAll_18 : decode cX6_carryAll 18 = .ok (.iaload, 1) := by decide +kernel
theorem dX6_carryAll_19 : decode cX6_carryAll 19 = .ok (.aload_n 0, 1) := by decide +kernel
theorem dX6_carryAll_20 : decode cX6_carryAll 20 = .ok (.iload_n 3, 1) := by decide +kernel
theorem dX6_carryAll_21 : decode cX6_carryAll 21 = .ok (.invokevirtual 157, 3) := by decide +kernel
theorem dX6_carryAll_24 : decode cX6_carryAll 24 = .ok (.iload_n 1, 1) := by decide +kernel
theorem dX6_carryAll_25 : decode cX6_carryAll 25 = .ok (.invokevirtual 166, 3) := by decide +kernel
theorem dX6_carryAll_28 : decode cX6_carryAll 28 = .ok (.istore 4, 2) := by decide +kernel
theorem dX6_carryAll_30 : decode cX6_carryAll 30 = .ok (.iload_n 2, 1) := by decide +kernel
theorem dX6_carryAll_31 : decode cX6_carryAll 31 = .ok (.iload 4, 2) := by decide +kernel
theorem dX6_carryAll_33 : decode cX6_carryAll 33 = .ok (.aload_n 0, 1) := by decide +kernel
theorem dX6_carryAll_34 : decode cX6_carryAll 34 = .ok (.getfield 28, 3) := by decide +kernel
theorem dX6_carryAll_37 : decode cX6_carryAll 37 = .ok (.iload_n 3, 1) := by decide +kernel
theorem dX6_carryAll_38 : decode cX6_carryAll 38 = .ok (.iaload, 1) := by decide +kernel
theorem dX6_carryAll_39 : decode cX6_carryAll 39 = .ok (.if_icmp .ne 7, 3) := by decide +kernel
theorem dX6_carryAll_42 : decode cX6_carryAll 42 = .ok (.iconst 0, 1) := by decide +kernel
theorem dX6_carryAll_43 : decode cX6_carryAll 43 = .ok (.goto 4, 3) := by decide +kernel
theorem dX6_carryAll_46 : decode cX6_carryAll 46 = .ok (.iconst 1, 1) := by decide +kernel
theorem dX6_carryAll_47 : decode cX6_carryAll 47 = .ok (.iadd, 1) := by decide +kernel
theorem dX6_carryAll_48 : decode cX6_carryAll 48 = .ok (.istore_n 2, 1) := by decide +kernel
theorem dX6_carryAll_49 : decode cX6_carryAll 49 = .ok (.aload_n 0, 1) := by decide +kernel
theorem dX6_carryAll_50 : decode cX6_carryAll 50 = .ok (.getfield 28, 3) := by decide +kernel
theorem dX6_carryAll_53 : decode cX6_carryAll 53 = .ok (.iload_n 3, 1) := by decide +kernel
theorem dX6_carryAll_54 : decode cX6_carryAll 54 = .ok (.iload 4, 2) := by decide +kernel
theorem dX6_carryAll_56 : decode cX6_carryAll 56 = .ok (.iastore, 1) := by decide +kernel
theorem dX6_carryAll_57 : decode cX6_carryAll 57 = .ok (.iinc 3 1, 3) := by decide +kernel
theorem dX6_carryAll_60 : decode cX6_carryAll 60 = .ok (.goto (-56), 3) := by decide +kernel
theorem dX6_carryAll_63 : decode cX6_carryAll 63 = .ok (.iload_n 2, 1) := by decide +kernel
theorem dX6_carryAll_64 : decode cX6_carryAll 64 = .ok (.ireturn, 1) := by decide +kernel
theorem dX6_tide_0 : decode cX6_tide 0 = .ok (.iload_n 1, 1) := by decide +kernel
theorem dX6_tide_1 : decode cX6_tide 1 = .ok (.invokestatic 160, 3) := by decide +kernel
theorem dX6_tide_4 : decode cX6_tide 4 = .ok (.ifCond .ne 6, 3) := by decide +kernel
theorem dX6_tide_7 : decode cX6_tide 7 = .ok (.bipush (-2), 2) := by decide +kernel
theorem dX6_tide_9 : decode cX6_tide 9 = .ok (.ireturn, 1) := by decide +kernel
theorem dX6_tide_10 : decode cX6_tide 10 = .ok (.aload_n 0, 1) := by decide +kernel
theorem dX6_tide_11 : decode cX6_tide 11 = .ok (.getfield 74, 3) := by decide +kernel
theorem dX6_tide_14 : decode cX6_tide 14 = .ok (.ifCond .ne 8, 3) := by decide +kernel
theorem dX6_tide_17 : decode cX6_tide 17 = .ok (.bipush (-3), 2) := by decide +kernel
theorem dX6_tide_19 : decode cX6_tide 19 = .ok (.goto 8, 3) := by decide +kernel
theorem dX6_tide_22 : decode cX6_tide 22 = .ok (.aload_n 0, 1) := by decide +kernel
theorem dX6_tide_23 : decode cX6_tide 23 = .ok (.iload_n 1, 1) := by decide +kernel
theorem dX6_tide_24 : decode cX6_tide 24 = .ok (.invokevirtual 169, 3) := by decide +kernel
theorem dX6_tide_27 : decode cX6_tide 27 = .ok (.ireturn, 1) := by decide +kernel
theorem dX6_ayesOf_0 : decode cX6_ayesOf 0 = .ok (.iconst 0, 1) := by decide +kernel
theorem dX6_ayesOf_1 : decode cX6_ayesOf 1 = .ok (.istore_n 2, 1) := by decide +kernel
theorem dX6_ayesOf_2 : decode cX6_ayesOf 2 = .ok (.iconst 0, 1) := by decide +kernel
theorem dX6_ayesOf_3 : decode cX6_ayesOf 3 = .ok (.istore_n 3, 1) := by decide +kernel
theorem dX6_ayesOf_4 : decode cX6_ayesOf 4 = .ok (.iload_n 3, 1) := by decide +kernel
theorem dX6_ayesOf_5 : decode cX6_ayesOf 5 = .ok (.aload_n 0, 1) := by decide +kernel
theorem dX6_ayesOf_6 : decode cX6_ayesOf 6 = .ok (.getfield 77, 3) := by decide +kernel
theorem dX6_ayesOf_9 : decode cX6_ayesOf 9 = .ok (.if_icmp .ge 59, 3) := by decide +kernel
theorem dX6_ayesOf_12 : decode cX6_ayesOf 12 = .ok (.aload_n 0, 1) := by decide +kernel
theorem dX6_ayesOf_13 : decode cX6_ayesOf 13 = .ok (.getfield 31, 3) := by decide +kernel
theorem dX6_ayesOf_16 : decode cX6_ayesOf 16 = .ok (.iload_n 3, 1) := by decide +kernel
theorem dX6_ayesOf_17 : decode cX6_ayesOf 17 = .ok (.iaload, 1) := by decide +kernel
theorem dX6_ayesOf_18 : decode cX6_ayesOf 18 = .ok (.iload_n 1, 1) := by decide +kernel
theorem dX6_ayesOf_19 : decode cX6_ayesOf 19 = .ok (.if_icmp .le 14, 3) := by decide +kernel
theorem dX6_ayesOf_22 : decode cX6_ayesOf 22 = .ok (.aload_n 0, 1) := by decide +kernel
theorem dX6_ayesOf_23 : decode cX6_ayesOf 23 = .ok (.getfield 31, 3) := by decide +kernel
theorem dX6_ayesOf_26 : decode cX6_ayesOf 26 = .ok (.iload_n 3, 1) := by decide +kernel
theorem dX6_ayesOf_27 : decode cX6_ayesOf 27 = .ok (.iaload, 1) := by decide +kernel
theorem dX6_ayesOf_28 : decode cX6_ayesOf 28 = .ok (.iload_n 1, 1) := by decide +kernel
theorem dX6_ayesOf_29 : decode cX6_ayesOf 29 = .ok (.isub, 1) := by decide +kernel
theorem dX6_ayesOf_30 : decode cX6_ayesOf 30 = .ok (.goto 11, 3) := by decide +kernel
theorem dX6_ayesOf_33 : decode cX6_ayesOf 33 = .ok (.iload_n 1, 1) := by decide +kernel
theorem dX6_ayesOf_34 : decode cX6_ayesOf 34 = .ok (.aload_n 0, 1) := by decide +kernel
theorem dX6_ayesOf_35 : decode cX6_ayesOf 35 = .ok (.getfield 31, 3) := by decide +kernel
theorem dX6_ayesOf_38 : decode cX6_ayesOf 38 = .ok (.iload_n 3, 1) := by decide +kernel
theorem dX6_ayesOf_39 : decode cX6_ayesOf 39 = .ok (.iaload, 1) := by decide +kernel
theorem dX6_ayesOf_40 : decode cX6_ayesOf 40 = .ok (.isub, 1) := by decide +kernel
theorem dX6_ayesOf_41 : decode cX6_ayesOf 41 = .ok (.istore 4, 2) := by decide +kernel
theorem dX6_ayesOf_43 : decode cX6_ayesOf 43 = .ok (.iload_n 2, 1) := by decide +kernel
theorem dX6_ayesOf_44 : decode cX6_ayesOf 44 = .ok (.iload 4, 2) := by decide +kernel
theorem dX6_ayesOf_46 : decode cX6_ayesOf 46 = .ok (.aload_n 0, 1) := by decide +kernel
theorem dX6_ayesOf_47 : decode cX6_ayesOf 47 = .ok (.getfield 113, 3) := by decide +kernel
theorem dX6_ayesOf_50 : decode cX6_ayesOf 50 = .ok (.if_icmp .gt 9, 3) := by decide +kernel
theorem dX6_ayesOf_53 : decode cX6_ayesOf 53 = .ok (.iconst 1, 1) := by decide +kernel
theorem dX6_ayesOf_54 : decode cX6_ayesOf 54 = .ok (.iload_n 3, 1) := by decide +kernel
theorem dX6_ayesOf_55 : decode cX6_ayesOf 55 = .ok (.ishl, 1) := by decide +kernel
theorem dX6_ayesOf_56 : decode cX6_ayesOf 56 = .ok (.goto 4, 3) := by decide +kernel
theorem dX6_ayesOf_59 : decode cX6_ayesOf 59 = .ok (.iconst 0, 1) := by decide +kernel
theorem dX6_ayesOf_60 : decode cX6_ayesOf 60 = .ok (.ior, 1) := by decide +kernel
theorem dX6_ayesOf_61 : decode cX6_ayesOf 61 = .ok (.istore_n 2, 1) := by decide +kernel
theorem dX6_ayesOf_62 : decode cX6_ayesOf 62 = .ok (.iinc 3 1, 3) := by decide +kernel
theorem dX6_ayesOf_65 : decode cX6_ayesOf 65 = .ok (.goto (-61), 3) := by decide +kernel
theorem dX6_ayesOf_68 : decode cX6_ayesOf 68 = .ok (.iload_n 2, 1) := by decide +kernel
theorem dX6_ayesOf_69 : decode cX6_ayesOf 69 = .ok (.ireturn, 1) := by decide +kernel
theorem dX6_passesBy_0 : decode cX6_passesBy 0 = .ok (.iconst 0, 1) := by decide +kernel
theorem dX6_passesBy_1 : decode cX6_passesBy 1 = .ok (.istore_n 2, 1) := by decide +kernel
theorem dX6_passesBy_2 : decode cX6_passesBy 2 = .ok (.iconst 0, 1) := by decide +kernel
theorem dX6_passesBy_3 : decode cX6_passesBy 3 = .ok (.istore_n 3, 1) := by decide +kernel
theorem dX6_passesBy_4 : decode cX6_passesBy 4 = .ok (.iload_n 3, 1) := by decide +kernel
theorem dX6_passesBy_5 : decode cX6_passesBy 5 = .ok (.aload_n 0, 1) := by decide +kernel
theorem dX6_passesBy_6 : decode cX6_passesBy 6 = .ok (.getfield 74, 3) := by decide +kernel
theorem dX6_passesBy_9 : decode cX6_passesBy 9 = .ok (.if_icmp .ge 43, 3) := by decide +kernel
theorem dX6_passesBy_12 : decode cX6_passesBy 12 = .ok (.aload_n 0, 1) := by decide +kernel
theorem dX6_passesBy_13 : decode cX6_passesBy 13 = .ok (.iload_n 3, 1) := by decide +kernel
theorem dX6_passesBy_14 : decode cX6_passesBy 14 = .ok (.invokevirtual 148, 3) := by decide +kernel
theorem dX6_passesBy_17 : decode cX6_passesBy 17 = .ok (.istore 4, 2) := by decide +kernel
theorem dX6_passesBy_19 : decode cX6_passesBy 19 = .ok (.iload_n 2, 1) := by decide +kernel
theorem dX6_passesBy_20 : decode cX6_passesBy 20 = .ok (.iconst 2, 1) := by decide +kernel
theorem dX6_passesBy_21 : decode cX6_passesBy 21 = .ok (.iload 4, 2) := by decide +kernel
theorem dX6_passesBy_23 : decode cX6_passesBy 23 = .ok (.iload_n 1, 1) := by decide +kernel
theorem dX6_passesBy_24 : decode cX6_passesBy 24 = .ok (.iand, 1) := by decide +kernel
theorem dX6_passesBy_25 : decode cX6_passesBy 25 = .ok (.invokestatic 151, 3) := by decide +kernel
theorem dX6_passesBy_28 : decode cX6_passesBy 28 = .ok (.imul, 1) := by decide +kernel
theorem dX6_passesBy_29 : decode cX6_passesBy 29 = .ok (.iload 4, 2) := by decide +kernel
theorem dX6_passesBy_31 : decode cX6_passesBy 31 = .ok (.invokestatic 151, 3) := by decide +kernel
theorem dX6_passesBy_34 : decode cX6_passesBy 34 = .ok (.if_icmp .le 9, 3) := by decide +kernel
theorem dX6_passesBy_37 : decode cX6_passesBy 37 = .ok (.iconst 1, 1) := by decide +kernel
theorem dX6_passesBy_38 : decode cX6_passesBy 38 = .ok (.iload_n 3, 1) := by decide +kernel
theorem dX6_passesBy_39 : decode cX6_passesBy 39 = .ok (.ishl, 1) := by decide +kernel
theorem dX6_passesBy_40 : decode cX6_passesBy 40 = .ok (.goto 4, 3) := by decide +kernel
theorem dX6_passesBy_43 : decode cX6_passesBy 43 = .ok (.iconst 0, 1) := by decide +kernel
theorem dX6_passesBy_44 : decode cX6_passesBy 44 = .ok (.ior, 1) := by decide +kernel
theorem dX6_passesBy_45 : decode cX6_passesBy 45 = .ok (.istore_n 2, 1) := by decide +kernel
theorem dX6_passesBy_46 : decode cX6_passesBy 46 = .ok (.iinc 3 1, 3) := by decide +kernel
theorem dX6_passesBy_49 : decode cX6_passesBy 49 = .ok (.goto (-45), 3) := by decide +kernel
theorem dX6_passesBy_52 : decode cX6_passesBy 52 = .ok (.iload_n 2, 1) := by decide +kernel
theorem dX6_passesBy_53 : decode cX6_passesBy 53 = .ok (.ireturn, 1) := by decide +kernel
theorem dX6_occupied_0 : decode cX6_occupied 0 = .ok (.iconst 0, 1) := by decide +kernel
theorem dX6_occupied_1 : decode cX6_occupied 1 = .ok (.istore_n 1, 1) := by decide +kernel
theorem dX6_occupied_2 : decode cX6_occupied 2 = .ok (.iconst 0, 1) := by decide +kernel
theorem dX6_occupied_3 : decode cX6_occupied 3 = .ok (.istore_n 2, 1) := by decide +kernel
theorem dX6_occupied_4 : decode cX6_occupied 4 = .ok (.iload_n 2, 1) := by decide +kernel
theorem dX6_occupied_5 : decode cX6_occupied 5 = .ok (.aload_n 0, 1) := by decide +kernel
theorem dX6_occupied_6 : decode cX6_occupied 6 = .ok (.getfield 74, 3) := by decide +kernel
theorem dX6_occupied_9 : decode cX6_occupied 9 = .ok (.if_icmp .ge 25, 3) := by decide +kernel
theorem dX6_occupied_12 : decode cX6_occupied 12 = .ok (.iload_n 1, 1) := by decide +kernel
theorem dX6_occupied_13 : decode cX6_occupied 13 = .ok (.aload_n 0, 1) := by decide +kernel
theorem dX6_occupied_14 : decode cX6_occupied 14 = .ok (.iload_n 2, 1) := by decide +kernel
theorem dX6_occupied_15 : decode cX6_occupied 15 = .ok (.invokevirtual 148, 3) := by decide +kernel
theorem dX6_occupied_18 : decode cX6_occupied 18 = .ok (.ifCond .ne 7, 3) := by decide +kernel
theorem dX6_occupied_21 : decode cX6_occupied 21 = .ok (.iconst 0, 1) := by decide +kernel
theorem dX6_occupied_22 : decode cX6_occupied 22 = .ok (.goto 4, 3) := by decide +kernel
theorem dX6_occupied_25 : decode cX6_occupied 25 = .ok (.iconst 1, 1) := by decide +kernel
theorem dX6_occupied_26 : decode cX6_occupied 26 = .ok (.iadd, 1) := by decide +kernel
theorem dX6_occupied_27 : decode cX6_occupied 27 = .ok (.istore_n 1, 1) := by decide +kernel
theorem dX6_occupied_28 : decode cX6_occupied 28 = .ok (.iinc 2 1, 3) := by decide +kernel
theorem dX6_occupied_31 : decode cX6_occupied 31 = .ok (.goto (-27), 3) := by decide +kernel
theorem dX6_occupied_34 : decode cX6_occupied 34 = .ok (.iload_n 1, 1) := by decide +kernel
theorem dX6_occupied_35 : decode cX6_occupied 35 = .ok (.ireturn, 1) := by decide +kernel
theorem dX6_isLawBy_0 : decode cX6_isLawBy 0 = .ok (.iconst 2, 1) := by decide +kernel
theorem dX6_isLawBy_1 : decode cX6_isLawBy 1 = .ok (.aload_n 0, 1) := by decide +kernel
theorem dX6_isLawBy_2 : decode cX6_isLawBy 2 = .ok (.iload_n 1, 1) := by decide +kernel
theorem dX6_isLawBy_3 : decode cX6_isLawBy 3 = .ok (.invokevirtual 172, 3) := by decide +kernel
theorem dX6_isLawBy_6 : decode cX6_isLawBy 6 = .ok (.invokestatic 151, 3) := by decide +kernel
theorem dX6_isLawBy_9 : decode cX6_isLawBy 9 = .ok (.imul, 1) := by decide +kernel
theorem dX6_isLawBy_10 : decode cX6_isLawBy 10 = .ok (.aload_n 0, 1) := by decide +kernel
theorem dX6_isLawBy_11 : decode cX6_isLawBy 11 = .ok (.invokevirtual 175, 3) := by decide +kernel
theorem dX6_isLawBy_14 : decode cX6_isLawBy 14 = .ok (.if_icmp .le 7, 3) := by decide +kernel
theorem dX6_isLawBy_17 : decode cX6_isLawBy 17 = .ok (.iconst 1, 1) := by decide +kernel
theorem dX6_isLawBy_18 : decode cX6_isLawBy 18 = .ok (.goto 4, 3) := by decide +kernel
theorem dX6_isLawBy_21 : decode cX6_isLawBy 21 = .ok (.iconst 0, 1) := by decide +kernel
theorem dX6_isLawBy_22 : decode cX6_isLawBy 22 = .ok (.ireturn, 1) := by decide +kernel
theorem dX6_ayes_0 : decode cX6_ayes 0 = .ok (.iload_n 1, 1) := by decide +kernel
theorem dX6_ayes_1 : decode cX6_ayes 1 = .ok (.invokestatic 160, 3) := by decide +kernel
theorem dX6_ayes_4 : decode cX6_ayes 4 = .ok (.ifCond .ne 6, 3) := by decide +kernel
theorem dX6_ayes_7 : decode cX6_ayes 7 = .ok (.bipush (-2), 2) := by decide +kernel
theorem dX6_ayes_9 : decode cX6_ayes 9 = .ok (.ireturn, 1) := by decide +kernel
theorem dX6_ayes_10 : decode cX6_ayes 10 = .ok (.aload_n 0, 1) := by decide +kernel
theorem dX6_ayes_11 : decode cX6_ayes 11 = .ok (.getfield 74, 3) := by decide +kernel
theorem dX6_ayes_14 : decode cX6_ayes 14 = .ok (.ifCond .ne 8, 3) := by decide +kernel
theorem dX6_ayes_17 : decode cX6_ayes 17 = .ok (.bipush (-3), 2) := by decide +kernel
theorem dX6_ayes_19 : decode cX6_ayes 19 = .ok (.goto 8, 3) := by decide +kernel
theorem dX6_ayes_22 : decode cX6_ayes 22 = .ok (.aload_n 0, 1) := by decide +kernel
theorem dX6_ayes_23 : decode cX6_ayes 23 = .ok (.iload_n 1, 1) := by decide +kernel
theorem dX6_ayes_24 : decode cX6_ayes 24 = .ok (.invokevirtual 179, 3) := by decide +kernel
theorem dX6_ayes_27 : decode cX6_ayes 27 = .ok (.ireturn, 1) := by decide +kernel
theorem dX6_passes_0 : decode cX6_passes 0 = .ok (.iload_n 1, 1) := by decide +kernel
theorem dX6_passes_1 : decode cX6_passes 1 = .ok (.invokestatic 160, 3) := by decide +kernel
theorem dX6_passes_4 : decode cX6_passes 4 = .ok (.ifCond .ne 6, 3) := by decide +kernel
theorem dX6_passes_7 : decode cX6_passes 7 = .ok (.bipush (-2), 2) := by decide +kernel
theorem dX6_passes_9 : decode cX6_passes 9 = .ok (.ireturn, 1) := by decide +kernel
theorem dX6_passes_10 : decode cX6_passes 10 = .ok (.aload_n 0, 1) := by decide +kernel
theorem dX6_passes_11 : decode cX6_passes 11 = .ok (.getfield 74, 3) := by decide +kernel
theorem dX6_passes_14 : decode cX6_passes 14 = .ok (.ifCond .ne 8, 3) := by decide +kernel
theorem dX6_passes_17 : decode cX6_passes 17 = .ok (.bipush (-3), 2) := by decide +kernel
theorem dX6_passes_19 : decode cX6_passes 19 = .ok (.goto 12, 3) := by decide +kernel
theorem dX6_passes_22 : decode cX6_passes 22 = .ok (.aload_n 0, 1) := by decide +kernel
theorem dX6_passes_23 : decode cX6_passes 23 = .ok (.aload_n 0, 1) := by decide +kernel
theorem dX6_passes_24 : decode cX6_passes 24 = .ok (.iload_n 1, 1) := by decide +kernel
theorem dX6_passes_25 : decode cX6_passes 25 = .ok (.invokevirtual 179, 3) := by decide +kernel
theorem dX6_passes_28 : decode cX6_passes 28 = .ok (.invokevirtual 172, 3) := by decide +kernel
theorem dX6_passes_31 : decode cX6_passes 31 = .ok (.ireturn, 1) := by decide +kernel
theorem dX6_law_0 : decode cX6_law 0 = .ok (.iload_n 1, 1) := by decide +kernel
theorem dX6_law_1 : decode cX6_law 1 = .ok (.invokestatic 160, 3) := by decide +kernel
theorem dX6_law_4 : decode cX6_law 4 = .ok (.ifCond .ne 6, 3) := by decide +kernel
theorem dX6_law_7 : decode cX6_law 7 = .ok (.bipush (-2), 2) := by decide +kernel
theorem dX6_law_9 : decode cX6_law 9 = .ok (.ireturn, 1) := by decide +kernel
theorem dX6_law_10 : decode cX6_law 10 = .ok (.aload_n 0, 1) := by decide +kernel
theorem dX6_law_11 : decode cX6_law 11 = .ok (.getfield 74, 3) := by decide +kernel
theorem dX6_law_14 : decode cX6_law 14 = .ok (.ifCond .ne 6, 3) := by decide +kernel
theorem dX6_law_17 : decode cX6_law 17 = .ok (.bipush (-3), 2) := by decide +kernel
theorem dX6_law_19 : decode cX6_law 19 = .ok (.ireturn, 1) := by decide +kernel
theorem dX6_law_20 : decode cX6_law 20 = .ok (.aload_n 0, 1) := by decide +kernel
theorem dX6_law_21 : decode cX6_law 21 = .ok (.aload_n 0, 1) := by decide +kernel
theorem dX6_law_22 : decode cX6_law 22 = .ok (.iload_n 1, 1) := by decide +kernel
theorem dX6_law_23 : decode cX6_law 23 = .ok (.invokevirtual 179, 3) := by decide +kernel
theorem dX6_law_26 : decode cX6_law 26 = .ok (.invokevirtual 182, 3) := by decide +kernel
theorem dX6_law_29 : decode cX6_law 29 = .ok (.ifCond .eq 7, 3) := by decide +kernel
theorem dX6_law_32 : decode cX6_law 32 = .ok (.iconst 1, 1) := by decide +kernel
theorem dX6_law_33 : decode cX6_law 33 = .ok (.goto 4, 3) := by decide +kernel
theorem dX6_law_36 : decode cX6_law 36 = .ok (.iconst 0, 1) := by decide +kernel
theorem dX6_law_37 : decode cX6_law 37 = .ok (.ireturn, 1) := by decide +kernel
theorem dX6_goYear_0 : decode cX6_goYear 0 = .ok (.aload_n 0, 1) := by decide +kernel
theorem dX6_goYear_1 : decode cX6_goYear 1 = .ok (.iconst 0, 1) := by decide +kernel
theorem dX6_goYear_2 : decode cX6_goYear 2 = .ok (.putfield 185, 3) := by decide +kernel
theorem dX6_goYear_5 : decode cX6_goYear 5 = .ok (.iconst 0, 1) := by decide +kernel
theorem dX6_goYear_6 : decode cX6_goYear 6 = .ok (.istore_n 3, 1) := by decide +kernel
theorem dX6_goYear_7 : decode cX6_goYear 7 = .ok (.iload_n 3, 1) := by decide +kernel
theorem dX6_goYear_8 : decode cX6_goYear 8 = .ok (.iload_n 2, 1) := by decide +kernel
theorem dX6_goYear_9 : decode cX6_goYear 9 = .ok (.if_icmp .ge 47, 3) := by decide +kernel
theorem dX6_goYear_12 : decode cX6_goYear 12 = .ok (.aload_n 0, 1) := by decide +kernel
theorem dX6_goYear_13 : decode cX6_goYear 13 = .ok (.aload_n 0, 1) := by decide +kernel
theorem dX6_goYear_14 : decode cX6_goYear 14 = .ok (.getfield 16, 3) := by decide +kernel
theorem dX6_goYear_17 : decode cX6_goYear 17 = .ok (.iload_n 1, 1) := by decide +kernel
theorem dX6_goYear_18 : decode cX6_goYear 18 = .ok (.iload_n 3, 1) := by decide +kernel
theorem dX6_goYear_19 : decode cX6_goYear 19 = .ok (.iadd, 1) := by decide +kernel
theorem dX6_goYear_20 : decode cX6_goYear 20 = .ok (.iaload, 1) := by decide +kernel
theorem dX6_goYear_21 : decode cX6_goYear 21 = .ok (.invokevirtual 163, 3) := by decide +kernel
theorem dX6_goYear_24 : decode cX6_goYear 24 = .ok (.ifCond .ne 5, 3) := by decide +kernel
theorem dX6_goYear_27 : decode cX6_goYear 27 = .ok (.iload_n 3, 1) := by decide +kernel
theorem dX6_goYear_28 : decode cX6_goYear 28 = .ok (.ireturn, 1) := by decide +kernel
theorem dX6_goYear_29 : decode cX6_goYear 29 = .ok (.aload_n 0, 1) := by decide +kernel
theorem dX6_goYear_30 : decode cX6_goYear 30 = .ok (.dup, 1) := by decide +kernel
theorem dX6_goYear_31 : decode cX6_goYear 31 = .ok (.getfield 185, 3) := by decide +kernel
theorem dX6_goYear_34 : decode cX6_goYear 34 = .ok (.aload_n 0, 1) := by decide +kernel
theorem dX6_goYear_35 : decode cX6_goYear 35 = .ok (.aload_n 0, 1) := by decide +kernel
theorem dX6_goYear_36 : decode cX6_goYear 36 = .ok (.getfield 16, 3) := by decide +kernel
theorem dX6_goYear_39 : decode cX6_goYear 39 = .ok (.iload_n 1, 1) := by decide +kernel
theorem dX6_goYear_40 : decode cX6_goYear 40 = .ok (.iload_n 3, 1) := by decide +kernel
theorem dX6_goYear_41 : decode cX6_goYear 41 = .ok (.iadd, 1) := by decide +kernel
theorem dX6_goYear_42 : decode cX6_goYear 42 = .ok (.iaload, 1) := by decide +kernel
theorem dX6_goYear_43 : decode cX6_goYear 43 = .ok (.invokevirtual 169, 3) := by decide +kernel
theorem dX6_goYear_46 : decode cX6_goYear 46 = .ok (.iadd, 1) := by decide +kernel
theorem dX6_goYear_47 : decode cX6_goYear 47 = .ok (.putfield 185, 3) := by decide +kernel
theorem dX6_goYear_50 : decode cX6_goYear 50 = .ok (.iinc 3 1, 3) := by decide +kernel
theorem dX6_goYear_53 : decode cX6_goYear 53 = .ok (.goto (-46), 3) := by decide +kernel
theorem dX6_goYear_56 : decode cX6_goYear 56 = .ok (.bipush (-9), 2) := by decide +kernel
theorem dX6_goYear_58 : decode cX6_goYear 58 = .ok (.ireturn, 1) := by decide +kernel
theorem dX6_year_0 : decode cX6_year 0 = .ok (.aload_n 0, 1) := by decide +kernel
theorem dX6_year_1 : decode cX6_year 1 = .ok (.iconst 0, 1) := by decide +kernel
theorem dX6_year_2 : decode cX6_year 2 = .ok (.putfield 64, 3) := by decide +kernel
theorem dX6_year_5 : decode cX6_year 5 = .ok (.iload_n 1, 1) := by decide +kernel
theorem dX6_year_6 : decode cX6_year 6 = .ok (.invokestatic 83, 3) := by decide +kernel
theorem dX6_year_9 : decode cX6_year 9 = .ok (.ifCond .ne 5, 3) := by decide +kernel
theorem dX6_year_12 : decode cX6_year 12 = .ok (.iconst (-1), 1) := by decide +kernel
theorem dX6_year_13 : decode cX6_year 13 = .ok (.ireturn, 1) := by decide +kernel
theorem dX6_year_14 : decode cX6_year 14 = .ok (.iload_n 2, 1) := by decide +kernel
theorem dX6_year_15 : decode cX6_year 15 = .ok (.invokestatic 87, 3) := by decide +kernel
theorem dX6_year_18 : decode cX6_year 18 = .ok (.ifCond .eq 48, 3) := by decide +kernel
theorem dX6_year_21 : decode cX6_year 21 = .ok (.iload 4, 2) := by decide +kernel
theorem dX6_year_23 : decode cX6_year 23 = .ok (.iconst 0, 1) := by decide +kernel
theorem dX6_year_24 : decode cX6_year 24 = .ok (.bipush 20, 2) := by decide +kernel
theorem dX6_year_26 : decode cX6_year 26 = .ok (.invokestatic 70, 3) := by decide +kernel
theorem dX6_year_29 : decode cX6_year 29 = .ok (.ifCond .eq 37, 3) := by decide +kernel
theorem dX6_year_32 : decode cX6_year 32 = .ok (.iload 5, 2) := by decide +kernel
theorem dX6_year_34 : decode cX6_year 34 = .ok (.iconst 0, 1) := by decide +kernel
theorem dX6_year_35 : decode cX6_year 35 = .ok (.iconst 3, 1) := by decide +kernel
theorem dX6_year_36 : decode cX6_year 36 = .ok (.invokestatic 70, 3) := by decide +kernel
theorem dX6_year_39 : decode cX6_year 39 = .ok (.ifCond .ne 30, 3) := by decide +kernel
theorem dX6_year_42 : decode cX6_year 42 = .ok (.iload 5, 2) := by decide +kernel
theorem dX6_year_44 : decode cX6_year 44 = .ok (.bipush 10, 2) := by decide +kernel
theorem dX6_year_46 : decode cX6_year 46 = .ok (.bipush 15, 2) := by decide +kernel
theorem dX6_year_48 : decode cX6_year 48 = .ok (.invokestatic 70, 3) := by decide +kernel
theorem dX6_year_51 : decode cX6_year 51 = .ok (.ifCond .ne 18, 3) := by decide +kernel
theorem dX6_year_54 : decode cX6_year 54 = .ok (.iload 5, 2) := by decide +kernel
theorem dX6_year_56 : decode cX6_year 56 = .ok (.bipush 20, 2) := by decide +kernel
theorem dX6_year_58 : decode cX6_year 58 = .ok (.bipush 29, 2) := by decide +kernel
theorem dX6_year_60 : decode cX6_year 60 = .ok (.invokestatic 70, 3) := by decide +kernel
theorem dX6_year_63 : decode cX6_year 63 = .ok (.ifCond .ne 6, 3) := by decide +kernel
theorem dX6_year_66 : decode cX6_year 66 = .ok (.bipush (-2), 2) := by decide +kernel
theorem dX6_year_68 : decode cX6_year 68 = .ok (.ireturn, 1) := by decide +kernel
theorem dX6_year_69 : decode cX6_year 69 = .ok (.aload_n 0, 1) := by decide +kernel
theorem dX6_year_70 : decode cX6_year 70 = .ok (.iload_n 1, 1) := by decide +kernel
theorem dX6_year_71 : decode cX6_year 71 = .ok (.iload_n 2, 1) := by decide +kernel
theorem dX6_year_72 : decode cX6_year 72 = .ok (.iload_n 3, 1) := by decide +kernel
theorem dX6_year_73 : decode cX6_year 73 = .ok (.iload 4, 2) := by decide +kernel
theorem dX6_year_75 : decode cX6_year 75 = .ok (.invokevirtual 90, 3) := by decide +kernel
theorem dX6_year_78 : decode cX6_year 78 = .ok (.istore 6, 2) := by decide +kernel
theorem dX6_year_80 : decode cX6_year 80 = .ok (.iload 6, 2) := by decide +kernel
theorem dX6_year_82 : decode cX6_year 82 = .ok (.ifCond .eq 10, 3) := by decide +kernel
theorem dX6_year_85 : decode cX6_year 85 = .ok (.aload_n 0, 1) := by decide +kernel
theorem dX6_year_86 : decode cX6_year 86 = .ok (.iload 6, 2) := by decide +kernel
theorem dX6_year_88 : decode cX6_year 88 = .ok (.invokevirtual 94, 3) := by decide +kernel
theorem dX6_year_91 : decode cX6_year 91 = .ok (.ireturn, 1) := by decide +kernel
theorem dX6_year_92 : decode cX6_year 92 = .ok (.aload_n 0, 1) := by decide +kernel
theorem dX6_year_93 : decode cX6_year 93 = .ok (.getfield 74, 3) := by decide +kernel
theorem dX6_year_96 : decode cX6_year 96 = .ok (.ifCond .ne 6, 3) := by decide +kernel
theorem dX6_year_99 : decode cX6_year 99 = .ok (.bipush (-3), 2) := by decide +kernel
theorem dX6_year_101 : decode cX6_year 101 = .ok (.ireturn, 1) := by decide +kernel
theorem dX6_year_102 : decode cX6_year 102 = .ok (.bipush 60, 2) := by decide +kernel
theorem dX6_year_104 : decode cX6_year 104 = .ok (.iload_n 1, 1) := by decide +kernel
theorem dX6_year_105 : decode cX6_year 105 = .ok (.imul, 1) := by decide +kernel
theorem dX6_year_106 : decode cX6_year 106 = .ok (.iload_n 3, 1) := by decide +kernel
theorem dX6_year_107 : decode cX6_year 107 = .ok (.iadd, 1) := by decide +kernel
theorem dX6_year_108 : decode cX6_year 108 = .ok (.istore 7, 2) := by decide +kernel
theorem dX6_year_110 : decode cX6_year 110 = .ok (.iconst 0, 1) := by decide +kernel
theorem dX6_year_111 : decode cX6_year 111 = .ok (.istore 8, 2) := by decide +kernel
theorem dX6_year_113 : decode cX6_year 113 = .ok (.iload 8, 2) := by decide +kernel
theorem dX6_year_115 : decode cX6_year 115 = .ok (.iload 4, 2) := by decide +kernel
theorem dX6_year_117 : decode cX6_year 117 = .ok (.if_icmp .ge 28, 3) := by decide +kernel
theorem dX6_year_120 : decode cX6_year 120 = .ok (.aload_n 0, 1) := by decide +kernel
theorem dX6_year_121 : decode cX6_year 121 = .ok (.getfield 16, 3) := by decide +kernel
theorem dX6_year_124 : decode cX6_year 124 = .ok (.iload 7, 2) := by decide +kernel
theorem dX6_year_126 : decode cX6_year 126 = .ok (.iload 8, 2) := by decide +kernel
theorem dX6_year_128 : decode cX6_year 128 = .ok (.iadd, 1) := by decide +kernel
theorem dX6_year_129 : decode cX6_year 129 = .ok (.iaload, 1) := by decide +kernel
theorem dX6_year_130 : decode cX6_year 130 = .ok (.invokestatic 160, 3) := by decide +kernel
theorem dX6_year_133 : decode cX6_year 133 = .ok (.ifCond .ne 6, 3) := by decide +kernel
theorem dX6_year_136 : decode cX6_year 136 = .ok (.bipush (-2), 2) := by decide +kernel
theorem dX6_year_138 : decode cX6_year 138 = .ok (.ireturn, 1) := by decide +kernel
theorem dX6_year_139 : decode cX6_year 139 = .ok (.iinc 8 1, 3) := by decide +kernel
theorem dX6_year_142 : decode cX6_year 142 = .ok (.goto (-29), 3) := by decide +kernel
theorem dX6_year_145 : decode cX6_year 145 = .ok (.iconst 0, 1) := by decide +kernel
theorem dX6_year_146 : decode cX6_year 146 = .ok (.istore 8, 2) := by decide +kernel
theorem dX6_year_148 : decode cX6_year 148 = .ok (.iload 8, 2) := by decide +kernel
theorem dX6_year_150 : decode cX6_year 150 = .ok (.aload_n 0, 1) := by decide +kernel
theorem dX6_year_151 : decode cX6_year 151 = .ok (.getfield 77, 3) := by decide +kernel
theorem dX6_year_154 : decode cX6_year 154 = .ok (.if_icmp .ge 23, 3) := by decide +kernel
theorem dX6_year_157 : decode cX6_year 157 = .ok (.aload_n 0, 1) := by decide +kernel
theorem dX6_year_158 : decode cX6_year 158 = .ok (.getfield 49, 3) := by decide +kernel
theorem dX6_year_161 : decode cX6_year 161 = .ok (.iload 8, 2) := by decide +kernel
theorem dX6_year_163 : decode cX6_year 163 = .ok (.aload_n 0, 1) := by decide +kernel
theorem dX6_year_164 : decode cX6_year 164 = .ok (.getfield 28, 3) := by decide +kernel
theorem dX6_year_167 : decode cX6_year 167 = .ok (.iload 8, 2) := by decide +kernel
theorem dX6_year_169 : decode cX6_year 169 = .ok (.iaload, 1) := by decide +kernel
theorem dX6_year_170 : decode cX6_year 170 = .ok (.iastore, 1) := by decide +kernel
theorem dX6_year_171 : decode cX6_year 171 = .ok (.iinc 8 1, 3) := by decide +kernel
theorem dX6_year_174 : decode cX6_year 174 = .ok (.goto (-26), 3) := by decide +kernel
theorem dX6_year_177 : decode cX6_year 177 = .ok (.aload_n 0, 1) := by decide +kernel
theorem dX6_year_178 : decode cX6_year 178 = .ok (.iload 7, 2) := by decide +kernel
theorem dX6_year_180 : decode cX6_year 180 = .ok (.iload 4, 2) := by decide +kernel
theorem dX6_year_182 : decode cX6_year 182 = .ok (.invokevirtual 188, 3) := by decide +kernel
theorem dX6_year_185 : decode cX6_year 185 = .ok (.istore 8, 2) := by decide +kernel
theorem dX6_year_187 : decode cX6_year 187 = .ok (.aload_n 0, 1) := by decide +kernel
theorem dX6_year_188 : decode cX6_year 188 = .ok (.iload 5, 2) := by decide +kernel
theorem dX6_year_190 : decode cX6_year 190 = .ok (.invokevirtual 192, 3) := by decide +kernel
theorem dX6_year_193 : decode cX6_year 193 = .ok (.istore 9, 2) := by decide +kernel
theorem dX6_year_195 : decode cX6_year 195 = .ok (.iconst 0, 1) := by decide +kernel
theorem dX6_year_196 : decode cX6_year 196 = .ok (.istore 10, 2) := by decide +kernel
theorem dX6_year_198 : decode cX6_year 198 = .ok (.iload 10, 2) := by decide +kernel
theorem dX6_year_200 : decode cX6_year 200 = .ok (.aload_n 0, 1) := by decide +kernel
theorem dX6_year_201 : decode cX6_year 201 = .ok (.getfield 77, 3) := by decide +kernel
theorem dX6_year_204 : decode cX6_year 204 = .ok (.if_icmp .ge 23, 3) := by decide +kernel
theorem dX6_year_207 : decode cX6_year 207 = .ok (.aload_n 0, 1) := by decide +kernel
theorem dX6_year_208 : decode cX6_year 208 = .ok (.getfield 28, 3) := by decide +kernel
theorem dX6_year_211 : decode cX6_year 211 = .ok (.iload 10, 2) := by decide +kernel
theorem dX6_year_213 : decode cX6_year 213 = .ok (.aload_n 0, 1) := by decide +kernel
theorem dX6_year_214 : decode cX6_year 214 = .ok (.getfield 49, 3) := by decide +kernel
theorem dX6_year_217 : decode cX6_year 217 = .ok (.iload 10, 2) := by decide +kernel
theorem dX6_year_219 : decode cX6_year 219 = .ok (.iaload, 1) := by decide +kernel
theorem dX6_year_220 : decode cX6_year 220 = .ok (.iastore, 1) := by decide +kernel
theorem dX6_year_221 : decode cX6_year 221 = .ok (.iinc 10 1, 3) := by decide +kernel
theorem dX6_year_224 : decode cX6_year 224 = .ok (.goto (-26), 3) := by decide +kernel
theorem dX6_year_227 : decode cX6_year 227 = .ok (.iload 5, 2) := by decide +kernel
theorem dX6_year_229 : decode cX6_year 229 = .ok (.iconst 1, 1) := by decide +kernel
theorem dX6_year_230 : decode cX6_year 230 = .ok (.if_icmp .ne 8, 3) := by decide +kernel
theorem dX6_year_233 : decode cX6_year 233 = .ok (.iload 8, 2) := by decide +kernel
theorem dX6_year_235 : decode cX6_year 235 = .ok (.goto 20, 3) := by decide +kernel
theorem dX6_year_238 : decode cX6_year 238 = .ok (.iload 8, 2) := by decide +kernel
theorem dX6_year_240 : decode cX6_year 240 = .ok (.bipush (-9), 2) := by decide +kernel
theorem dX6_year_242 : decode cX6_year 242 = .ok (.if_icmp .ne 8, 3) := by decide +kernel
theorem dX6_year_245 : decode cX6_year 245 = .ok (.iload 9, 2) := by decide +kernel
theorem dX6_year_247 : decode cX6_year 247 = .ok (.goto 8, 3) := by decide +kernel
theorem dX6_year_250 : decode cX6_year 250 = .ok (.bipush (-100), 2) := by decide +kernel
theorem dX6_year_252 : decode cX6_year 252 = .ok (.iload 8, 2) := by decide +kernel
theorem dX6_year_254 : decode cX6_year 254 = .ok (.isub, 1) := by decide +kernel
theorem dX6_year_255 : decode cX6_year 255 = .ok (.ireturn, 1) := by decide +kernel
theorem dX6_tellYear_0 : decode cX6_tellYear 0 = .ok (.iload_n 1, 1) := by decide +kernel
theorem dX6_tellYear_1 : decode cX6_tellYear 1 = .ok (.bipush 20, 2) := by decide +kernel
theorem dX6_tellYear_3 : decode cX6_tellYear 3 = .ok (.if_icmp .lt 24, 3) := by decide +kernel
theorem dX6_tellYear_6 : decode cX6_tellYear 6 = .ok (.aload_n 0, 1) := by decide +kernel
theorem dX6_tellYear_7 : decode cX6_tellYear 7 = .ok (.aload_n 0, 1) := by decide +kernel
theorem dX6_tellYear_8 : decode cX6_tellYear 8 = .ok (.iload_n 1, 1) := by decide +kernel
theorem dX6_tellYear_9 : decode cX6_tellYear 9 = .ok (.bipush 20, 2) := by decide +kernel
theorem dX6_tellYear_11 : decode cX6_tellYear 11 = .ok (.isub, 1) := by decide +kernel
theorem dX6_tellYear_12 : decode cX6_tellYear 12 = .ok (.invokevirtual 179, 3) := by decide +kernel
theorem dX6_tellYear_15 : decode cX6_tellYear 15 = .ok (.invokevirtual 182, 3) := by decide +kernel
theorem dX6_tellYear_18 : decode cX6_tellYear 18 = .ok (.ifCond .eq 7, 3) := by decide +kernel
theorem dX6_tellYear_21 : decode cX6_tellYear 21 = .ok (.iconst 1, 1) := by decide +kernel
theorem dX6_tellYear_22 : decode cX6_tellYear 22 = .ok (.goto 4, 3) := by decide +kernel
theorem dX6_tellYear_25 : decode cX6_tellYear 25 = .ok (.iconst 0, 1) := by decide +kernel
theorem dX6_tellYear_26 : decode cX6_tellYear 26 = .ok (.ireturn, 1) := by decide +kernel
theorem dX6_tellYear_27 : decode cX6_tellYear 27 = .ok (.iload_n 1, 1) := by decide +kernel
theorem dX6_tellYear_28 : decode cX6_tellYear 28 = .ok (.bipush 10, 2) := by decide +kernel
theorem dX6_tellYear_30 : decode cX6_tellYear 30 = .ok (.if_icmp .lt 29, 3) := by decide +kernel
theorem dX6_tellYear_33 : decode cX6_tellYear 33 = .ok (.aload_n 0, 1) := by decide +kernel
theorem dX6_tellYear_34 : decode cX6_tellYear 34 = .ok (.iload_n 1, 1) := by decide +kernel
theorem dX6_tellYear_35 : decode cX6_tellYear 35 = .ok (.bipush 10, 2) := by decide +kernel
theorem dX6_tellYear_37 : decode cX6_tellYear 37 = .ok (.isub, 1) := by decide +kernel
theorem dX6_tellYear_38 : decode cX6_tellYear 38 = .ok (.invokevirtual 154, 3) := by decide +kernel
theorem dX6_tellYear_41 : decode cX6_tellYear 41 = .ok (.ifCond .eq 15, 3) := by decide +kernel
theorem dX6_tellYear_44 : decode cX6_tellYear 44 = .ok (.aload_n 0, 1) := by decide +kernel
theorem dX6_tellYear_45 : decode cX6_tellYear 45 = .ok (.getfield 28, 3) := by decide +kernel
theorem dX6_tellYear_48 : decode cX6_tellYear 48 = .ok (.iload_n 1, 1) := by decide +kernel
theorem dX6_tellYear_49 : decode cX6_tellYear 49 = .ok (.bipush 10, 2) := by decide +kernel
theorem dX6_tellYear_51 : decode cX6_tellYear 51 = .ok (.isub, 1) := by decide +kernel
theorem dX6_tellYear_52 : decode cX6_tellYear 52 = .ok (.iaload, 1) := by decide +kernel
theorem dX6_tellYear_53 : decode cX6_tellYear 53 = .ok (.goto 5, 3) := by decide +kernel
theorem dX6_tellYear_56 : decode cX6_tellYear 56 = .ok (.bipush (-9), 2) := by decide +kernel
theorem dX6_tellYear_58 : decode cX6_tellYear 58 = .ok (.ireturn, 1) := by decide +kernel
theorem dX6_tellYear_59 : decode cX6_tellYear 59 = .ok (.iload_n 1, 1) := by decide +kernel
theorem dX6_tellYear_60 : decode cX6_tellYear 60 = .ok (.iconst 3, 1) := by decide +kernel
theorem dX6_tellYear_61 : decode cX6_tellYear 61 = .ok (.if_icmp .ge 19, 3) := by decide +kernel
theorem dX6_tellYear_64 : decode cX6_tellYear 64 = .ok (.iload_n 1, 1) := by decide +kernel
theorem dX6_tellYear_65 : decode cX6_tellYear 65 = .ok (.ifCond .ne 10, 3) := by decide +kernel
theorem dX6_tellYear_68 : decode cX6_tellYear 68 = .ok (.aload_n 0, 1) := by decide +kernel
theorem dX6_tellYear_69 : decode cX6_tellYear 69 = .ok (.getfield 185, 3) := by decide +kernel
theorem dX6_tellYear_72 : decode cX6_tellYear 72 = .ok (.goto 7, 3) := by decide +kernel
theorem dX6_tellYear_75 : decode cX6_tellYear 75 = .ok (.aload_n 0, 1) := by decide +kernel
theorem dX6_tellYear_76 : decode cX6_tellYear 76 = .ok (.invokevirtual 175, 3) := by decide +kernel
theorem dX6_tellYear_79 : decode cX6_tellYear 79 = .ok (.ireturn, 1) := by decide +kernel
theorem dX6_tellYear_80 : decode cX6_tellYear 80 = .ok (.iconst 0, 1) := by decide +kernel
theorem dX6_tellYear_81 : decode cX6_tellYear 81 = .ok (.istore_n 2, 1) := by decide +kernel
theorem dX6_tellYear_82 : decode cX6_tellYear 82 = .ok (.iconst 1, 1) := by decide +kernel
theorem dX6_tellYear_83 : decode cX6_tellYear 83 = .ok (.istore_n 3, 1) := by decide +kernel
theorem dX6_tellYear_84 : decode cX6_tellYear 84 = .ok (.iload_n 3, 1) := by decide +kernel
theorem dX6_tellYear_85 : decode cX6_tellYear 85 = .ok (.aload_n 0, 1) := by decide +kernel
theorem dX6_tellYear_86 : decode cX6_tellYear 86 = .ok (.getfield 74, 3) := by decide +kernel
theorem dX6_tellYear_89 : decode cX6_tellYear 89 = .ok (.if_icmp .ge 34, 3) := by decide +kernel
theorem dX6_tellYear_92 : decode cX6_tellYear 92 = .ok (.aload_n 0, 1) := by decide +kernel
theorem dX6_tellYear_93 : decode cX6_tellYear 93 = .ok (.iload_n 3, 1) := by decide +kernel
theorem dX6_tellYear_94 : decode cX6_tellYear 94 = .ok (.invokevirtual 148, 3) := by decide +kernel
theorem dX6_tellYear_97 : decode cX6_tellYear 97 = .ok (.invokestatic 151, 3) := by decide +kernel
theorem dX6_tellYear_100 : decode cX6_tellYear 100 = .ok (.aload_n 0, 1) := by decide +kernel
theorem dX6_tellYear_101 : decode cX6_tellYear 101 = .ok (.iload_n 2, 1) := by decide +kernel
theorem dX6_tellYear_102 : decode cX6_tellYear 102 = .ok (.invokevirtual 148, 3) := by decide +kernel
theorem dX6_tellYear_105 : decode cX6_tellYear 105 = .ok (.invokestatic 151, 3) := by decide +kernel
theorem dX6_tellYear_108 : decode cX6_tellYear 108 = .ok (.if_icmp .le 7, 3) := by decide +kernel
theorem dX6_tellYear_111 : decode cX6_tellYear 111 = .ok (.iload_n 3, 1) := by decide +kernel
theorem dX6_tellYear_112 : decode cX6_tellYear 112 = .ok (.goto 4, 3) := by decide +kernel
theorem dX6_tellYear_115 : decode cX6_tellYear 115 = .ok (.iload_n 2, 1) := by decide +kernel
theorem dX6_tellYear_116 : decode cX6_tellYear 116 = .ok (.istore_n 2, 1) := by decide +kernel
theorem dX6_tellYear_117 : decode cX6_tellYear 117 = .ok (.iinc 3 1, 3) := by decide +kernel
theorem dX6_tellYear_120 : decode cX6_tellYear 120 = .ok (.goto (-36), 3) := by decide +kernel
theorem dX6_tellYear_123 : decode cX6_tellYear 123 = .ok (.iload_n 2, 1) := by decide +kernel
theorem dX6_tellYear_124 : decode cX6_tellYear 124 = .ok (.ireturn, 1) := by decide +kernel
theorem dX6_best_0 : decode cX6_best 0 = .ok (.iload_n 1, 1) := by decide +kernel
theorem dX6_best_1 : decode cX6_best 1 = .ok (.iconst 0, 1) := by decide +kernel
theorem dX6_best_2 : decode cX6_best 2 = .ok (.iconst 1, 1) := by decide +kernel
theorem dX6_best_3 : decode cX6_best 3 = .ok (.invokestatic 70, 3) := by decide +kernel
theorem dX6_best_6 : decode cX6_best 6 = .ok (.ifCond .ne 6, 3) := by decide +kernel
theorem dX6_best_9 : decode cX6_best 9 = .ok (.bipush (-2), 2) := by decide +kernel
theorem dX6_best_11 : decode cX6_best 11 = .ok (.ireturn, 1) := by decide +kernel
theorem dX6_best_12 : decode cX6_best 12 = .ok (.aload_n 0, 1) := by decide +kernel
theorem dX6_best_13 : decode cX6_best 13 = .ok (.getfield 74, 3) := by decide +kernel
theorem dX6_best_16 : decode cX6_best 16 = .ok (.ifCond .ne 6, 3) := by decide +kernel
theorem dX6_best_19 : decode cX6_best 19 = .ok (.bipush (-3), 2) := by decide +kernel
theorem dX6_best_21 : decode cX6_best 21 = .ok (.ireturn, 1) := by decide +kernel
theorem dX6_best_22 : decode cX6_best 22 = .ok (.bipush (-9), 2) := by decide +kernel
theorem dX6_best_24 : decode cX6_best 24 = .ok (.istore_n 2, 1) := by decide +kernel
theorem dX6_best_25 : decode cX6_best 25 = .ok (.bipush (-9), 2) := by decide +kernel
theorem dX6_best_27 : decode cX6_best 27 = .ok (.istore_n 3, 1) := by decide +kernel
theorem dX6_best_28 : decode cX6_best 28 = .ok (.iconst 0, 1) := by decide +kernel
theorem dX6_best_29 : decode cX6_best 29 = .ok (.istore 4, 2) := by decide +kernel
theorem dX6_best_31 : decode cX6_best 31 = .ok (.iload 4, 2) := by decide +kernel
theorem dX6_best_33 : decode cX6_best 33 = .ok (.bipush 10, 2) := by decide +kernel
theorem dX6_best_35 : decode cX6_best 35 = .ok (.if_icmp .ge 50, 3) := by decide +kernel
theorem dX6_best_38 : decode cX6_best 38 = .ok (.aload_n 0, 1) := by decide +kernel
theorem dX6_best_39 : decode cX6_best 39 = .ok (.aload_n 0, 1) := by decide +kernel
theorem dX6_best_40 : decode cX6_best 40 = .ok (.iload 4, 2) := by decide +kernel
theorem dX6_best_42 : decode cX6_best 42 = .ok (.invokevirtual 179, 3) := by decide +kernel
theorem dX6_best_45 : decode cX6_best 45 = .ok (.invokevirtual 172, 3) := by decide +kernel
theorem dX6_best_48 : decode cX6_best 48 = .ok (.invokestatic 151, 3) := by decide +kernel
theorem dX6_best_51 : decode cX6_best 51 = .ok (.istore 5, 2) := by decide +kernel
theorem dX6_best_53 : decode cX6_best 53 = .ok (.iload 5, 2) := by decide +kernel
theorem dX6_best_55 : decode cX6_best 55 = .ok (.iload_n 3, 1) := by decide +kernel
theorem dX6_best_56 : decode cX6_best 56 = .ok (.if_icmp .le 8, 3) := by decide +kernel
theorem dX6_best_59 : decode cX6_best 59 = .ok (.iload 4, 2) := by decide +kernel
theorem dX6_best_61 : decode cX6_best 61 = .ok (.goto 4, 3) := by decide +kernel
theorem dX6_best_64 : decode cX6_best 64 = .ok (.iload_n 2, 1) := by decide +kernel
theorem dX6_best_65 : decode cX6_best 65 = .ok (.istore_n 2, 1) := by decide +kernel
theorem dX6_best_66 : decode cX6_best 66 = .ok (.iload 5, 2) := by decide +kernel
theorem dX6_best_68 : decode cX6_best 68 = .ok (.iload_n 3, 1) := by decide +kernel
theorem dX6_best_69 : decode cX6_best 69 = .ok (.if_icmp .le 8, 3) := by decide +kernel
theorem dX6_best_72 : decode cX6_best 72 = .ok (.iload 5, 2) := by decide +kernel
theorem dX6_best_74 : decode cX6_best 74 = .ok (.goto 4, 3) := by decide +kernel
theorem dX6_best_77 : decode cX6_best 77 = .ok (.iload_n 3, 1) := by decide +kernel
theorem dX6_best_78 : decode cX6_best 78 = .ok (.istore_n 3, 1) := by decide +kernel
theorem dX6_best_79 : decode cX6_best 79 = .ok (.iinc 4 1, 3) := by decide +kernel
theorem dX6_best_82 : decode cX6_best 82 = .ok (.goto (-51), 3) := by decide +kernel
theorem dX6_best_85 : decode cX6_best 85 = .ok (.iload_n 1, 1) := by decide +kernel
theorem dX6_best_86 : decode cX6_best 86 = .ok (.ifCond .ne 7, 3) := by decide +kernel
theorem dX6_best_89 : decode cX6_best 89 = .ok (.iload_n 2, 1) := by decide +kernel
theorem dX6_best_90 : decode cX6_best 90 = .ok (.goto 4, 3) := by decide +kernel
theorem dX6_best_93 : decode cX6_best 93 = .ok (.iload_n 3, 1) := by decide +kernel
theorem dX6_best_94 : decode cX6_best 94 = .ok (.ireturn, 1) := by decide +kernel
theorem dX6_turn_0 : decode cX6_turn 0 = .ok (.iload_n 1, 1) := by decide +kernel
theorem dX6_turn_1 : decode cX6_turn 1 = .ok (.invokestatic 160, 3) := by decide +kernel
theorem dX6_turn_4 : decode cX6_turn 4 = .ok (.ifCond .ne 6, 3) := by decide +kernel
theorem dX6_turn_7 : decode cX6_turn 7 = .ok (.bipush (-2), 2) := by decide +kernel
theorem dX6_turn_9 : decode cX6_turn 9 = .ok (.ireturn, 1) := by decide +kernel
theorem dX6_turn_10 : decode cX6_turn 10 = .ok (.aload_n 0, 1) := by decide +kernel
theorem dX6_turn_11 : decode cX6_turn 11 = .ok (.getfield 74, 3) := by decide +kernel
theorem dX6_turn_14 : decode cX6_turn 14 = .ok (.ifCond .ne 6, 3) := by decide +kernel
theorem dX6_turn_17 : decode cX6_turn 17 = .ok (.bipush (-3), 2) := by decide +kernel
theorem dX6_turn_19 : decode cX6_turn 19 = .ok (.ireturn, 1) := by decide +kernel
theorem dX6_turn_20 : decode cX6_turn 20 = .ok (.aload_n 0, 1) := by decide +kernel
theorem dX6_turn_21 : decode cX6_turn 21 = .ok (.iload_n 1, 1) := by decide +kernel
theorem dX6_turn_22 : decode cX6_turn 22 = .ok (.invokevirtual 179, 3) := by decide +kernel
theorem dX6_turn_25 : decode cX6_turn 25 = .ok (.istore_n 2, 1) := by decide +kernel
theorem dX6_turn_26 : decode cX6_turn 26 = .ok (.bipush (-9), 2) := by decide +kernel
theorem dX6_turn_28 : decode cX6_turn 28 = .ok (.istore_n 3, 1) := by decide +kernel
theorem dX6_turn_29 : decode cX6_turn 29 = .ok (.iconst 0, 1) := by decide +kernel
theorem dX6_turn_30 : decode cX6_turn 30 = .ok (.istore 4, 2) := by decide +kernel
theorem dX6_turn_32 : decode cX6_turn 32 = .ok (.iload 4, 2) := by decide +kernel
theorem dX6_turn_34 : decode cX6_turn 34 = .ok (.iconst 1, 1) := by decide +kernel
theorem dX6_turn_35 : decode cX6_turn 35 = .ok (.aload_n 0, 1) := by decide +kernel
theorem dX6_turn_36 : decode cX6_turn 36 = .ok (.getfield 77, 3) := by decide +kernel
theorem dX6_turn_39 : decode cX6_turn 39 = .ok (.ishl, 1) := by decide +kernel
theorem dX6_turn_40 : decode cX6_turn 40 = .ok (.if_icmp .ge 48, 3) := by decide +kernel
theorem dX6_turn_43 : decode cX6_turn 43 = .ok (.iload 4, 2) := by decide +kernel
theorem dX6_turn_45 : decode cX6_turn 45 = .ok (.iload_n 2, 1) := by decide +kernel
theorem dX6_turn_46 : decode cX6_turn 46 = .ok (.iand, 1) := by decide +kernel
theorem dX6_turn_47 : decode cX6_turn 47 = .ok (.ifCond .ne 35, 3) := by decide +kernel
theorem dX6_turn_50 : decode cX6_turn 50 = .ok (.iload_n 3, 1) := by decide +kernel
theorem dX6_turn_51 : decode cX6_turn 51 = .ok (.bipush (-9), 2) := by decide +kernel
theorem dX6_turn_53 : decode cX6_turn 53 = .ok (.if_icmp .eq 15, 3) := by decide +kernel
theorem dX6_turn_56 : decode cX6_turn 56 = .ok (.iload 4, 2) := by decide +kernel
theorem dX6_turn_58 : decode cX6_turn 58 = .ok (.invokestatic 151, 3) := by decide +kernel
theorem dX6_turn_61 : decode cX6_turn 61 = .ok (.iload_n 3, 1) := by decide +kernel
theorem dX6_turn_62 : decode cX6_turn 62 = .ok (.invokestatic 151, 3) := by decide +kernel
theorem dX6_turn_65 : decode cX6_turn 65 = .ok (.if_icmp .ge 17, 3) := by decide +kernel
theorem dX6_turn_68 : decode cX6_turn 68 = .ok (.aload_n 0, 1) := by decide +kernel
theorem dX6_turn_69 : decode cX6_turn 69 = .ok (.iload_n 2, 1) := by decide +kernel
theorem dX6_turn_70 : decode cX6_turn 70 = .ok (.iload 4, 2) := by decide +kernel
theorem dX6_turn_72 : decode cX6_turn 72 = .ok (.ior, 1) := by decide +kernel
theorem dX6_turn_73 : decode cX6_turn 73 = .ok (.invokevirtual 182, 3) := by decide +kernel
theorem dX6_turn_76 : decode cX6_turn 76 = .ok (.ifCond .eq 6, 3) := by decide +kernel
theorem dX6_turn_79 : decode cX6_turn 79 = .ok (.iload 4, 2) := by decide +kernel
theorem dX6_turn_81 : decode cX6_turn 81 = .ok (.istore_n 3, 1) := by decide +kernel
theorem dX6_turn_82 : decode cX6_turn 82 = .ok (.iinc 4 1, 3) := by decide +kernel
theorem dX6_turn_85 : decode cX6_turn 85 = .ok (.goto (-53), 3) := by decide +kernel
theorem dX6_turn_88 : decode cX6_turn 88 = .ok (.iload_n 3, 1) := by decide +kernel
theorem dX6_turn_89 : decode cX6_turn 89 = .ok (.ireturn, 1) := by decide +kernel
theorem dX6_driftOf_0 : decode cX6_driftOf 0 = .ok (.iload_n 1, 1) := by decide +kernel
theorem dX6_driftOf_1 : decode cX6_driftOf 1 = .ok (.istore 4, 2) := by decide +kernel
theorem dX6_driftOf_3 : decode cX6_driftOf 3 = .ok (.iconst 0, 1) := by decide +kernel
theorem dX6_driftOf_4 : decode cX6_driftOf 4 = .ok (.istore 5, 2) := by decide +kernel
theorem dX6_driftOf_6 : decode cX6_driftOf 6 = .ok (.iload 5, 2) := by decide +kernel
theorem dX6_driftOf_8 : decode cX6_driftOf 8 = .ok (.iload_n 3, 1) := by decide +kernel
theorem dX6_driftOf_9 : decode cX6_driftOf 9 = .ok (.if_icmp .ge 99, 3) := by decide +kernel
theorem dX6_driftOf_12 : decode cX6_driftOf 12 = .ok (.iconst 1, 1) := by decide +kernel
theorem dX6_driftOf_13 : decode cX6_driftOf 13 = .ok (.istore 6, 2) := by decide +kernel
theorem dX6_driftOf_15 : decode cX6_driftOf 15 = .ok (.iconst 0, 1) := by decide +kernel
theorem dX6_driftOf_16 : decode cX6_driftOf 16 = .ok (.istore 7, 2) := by decide +kernel
theorem dX6_driftOf_18 : decode cX6_driftOf 18 = .ok (.iload 7, 2) := by decide +kernel
theorem dX6_driftOf_20 : decode cX6_driftOf 20 = .ok (.aload_n 0, 1) := by decide +kernel
theorem dX6_driftOf_21 : decode cX6_driftOf 21 = .ok (.getfield 77, 3) := by decide +kernel
theorem dX6_driftOf_24 : decode cX6_driftOf 24 = .ok (.if_icmp .ge 71, 3) := by decide +kernel
theorem dX6_driftOf_27 : decode cX6_driftOf 27 = .ok (.aload_n 0, 1) := by decide +kernel
theorem dX6_driftOf_28 : decode cX6_driftOf 28 = .ok (.getfield 28, 3) := by decide +kernel
theorem dX6_driftOf_31 : decode cX6_driftOf 31 = .ok (.iload 7, 2) := by decide +kernel
theorem dX6_driftOf_33 : decode cX6_driftOf 33 = .ok (.iaload, 1) := by decide +kernel
theorem dX6_driftOf_34 : decode cX6_driftOf 34 = .ok (.aload_n 0, 1) := by decide +kernel
theorem dX6_driftOf_35 : decode cX6_driftOf 35 = .ok (.getfield 16, 3) := by decide +kernel
theorem dX6_driftOf_38 : decode cX6_driftOf 38 = .ok (.iload_n 2, 1) := by decide +kernel
theorem dX6_driftOf_39 : decode cX6_driftOf 39 = .ok (.iload 5, 2) := by decide +kernel
theorem dX6_driftOf_41 : decode cX6_driftOf 41 = .ok (.iadd, 1) := by decide +kernel
theorem dX6_driftOf_42 : decode cX6_driftOf 42 = .ok (.iaload, 1) := by decide +kernel
theorem dX6_driftOf_43 : decode cX6_driftOf 43 = .ok (.if_icmp .ne 7, 3) := by decide +kernel
theorem dX6_driftOf_46 : decode cX6_driftOf 46 = .ok (.iconst 1, 1) := by decide +kernel
theorem dX6_driftOf_47 : decode cX6_driftOf 47 = .ok (.goto 4, 3) := by decide +kernel
theorem dX6_driftOf_50 : decode cX6_driftOf 50 = .ok (.iconst 0, 1) := by decide +kernel
theorem dX6_driftOf_51 : decode cX6_driftOf 51 = .ok (.istore 8, 2) := by decide +kernel
theorem dX6_driftOf_53 : decode cX6_driftOf 53 = .ok (.iload 4, 2) := by decide +kernel
theorem dX6_driftOf_55 : decode cX6_driftOf 55 = .ok (.iload 8, 2) := by decide +kernel
theorem dX6_driftOf_57 : decode cX6_driftOf 57 = .ok (.ifCond .eq 13, 3) := by decide +kernel
theorem dX6_driftOf_60 : decode cX6_driftOf 60 = .ok (.aload_n 0, 1) := by decide +kernel
theorem dX6_driftOf_61 : decode cX6_driftOf 61 = .ok (.getfield 31, 3) := by decide +kernel
theorem dX6_driftOf_64 : decode cX6_driftOf 64 = .ok (.iload 7, 2) := by decide +kernel
theorem dX6_driftOf_66 : decode cX6_driftOf 66 = .ok (.iaload, 1) := by decide +kernel
theorem dX6_driftOf_67 : decode cX6_driftOf 67 = .ok (.goto 4, 3) := by decide +kernel
theorem dX6_driftOf_70 : decode cX6_driftOf 70 = .ok (.iconst 0, 1) := by decide +kernel
theorem dX6_driftOf_71 : decode cX6_driftOf 71 = .ok (.iadd, 1) := by decide +kernel
theorem dX6_driftOf_72 : decode cX6_driftOf 72 = .ok (.istore 4, 2) := by decide +kernel
theorem dX6_driftOf_74 : decode cX6_driftOf 74 = .ok (.iload 6, 2) := by decide +kernel
theorem dX6_driftOf_76 : decode cX6_driftOf 76 = .ok (.iload 8, 2) := by decide +kernel
theorem dX6_driftOf_78 : decode cX6_driftOf 78 = .ok (.ifCond .eq 7, 3) := by decide +kernel
theorem dX6_driftOf_81 : decode cX6_driftOf 81 = .ok (.iconst 1, 1) := by decide +kernel
theorem dX6_driftOf_82 : decode cX6_driftOf 82 = .ok (.goto 4, 3) := by decide +kernel
theorem dX6_driftOf_85 : decode cX6_driftOf 85 = .ok (.iconst 0, 1) := by decide +kernel
theorem dX6_driftOf_86 : decode cX6_driftOf 86 = .ok (.iadd, 1) := by decide +kernel
theorem dX6_driftOf_87 : decode cX6_driftOf 87 = .ok (.istore 6, 2) := by decide +kernel
theorem dX6_driftOf_89 : decode cX6_driftOf 89 = .ok (.iinc 7 1, 3) := by decide +kernel
theorem dX6_driftOf_92 : decode cX6_driftOf 92 = .ok (.goto (-74), 3) := by decide +kernel
theorem dX6_driftOf_95 : decode cX6_driftOf 95 = .ok (.iload 4, 2) := by decide +kernel
theorem dX6_driftOf_97 : decode cX6_driftOf 97 = .ok (.iload 6, 2) := by decide +kernel
theorem dX6_driftOf_99 : decode cX6_driftOf 99 = .ok (.idiv, 1) := by decide +kernel
theorem dX6_driftOf_100 : decode cX6_driftOf 100 = .ok (.istore 4, 2) := by decide +kernel
theorem dX6_driftOf_102 : decode cX6_driftOf 102 = .ok (.iinc 5 1, 3) := by decide +kernel
theorem dX6_driftOf_105 : decode cX6_driftOf 105 = .ok (.goto (-99), 3) := by decide +kernel
theorem dX6_driftOf_108 : decode cX6_driftOf 108 = .ok (.iload 4, 2) := by decide +kernel
theorem dX6_driftOf_110 : decode cX6_driftOf 110 = .ok (.ireturn, 1) := by decide +kernel
theorem dX6_drift_0 : decode cX6_drift 0 = .ok (.aload_n 0, 1) := by decide +kernel
theorem dX6_drift_1 : decode cX6_drift 1 = .ok (.iconst 0, 1) := by decide +kernel
theorem dX6_drift_2 : decode cX6_drift 2 = .ok (.putfield 64, 3) := by decide +kernel
theorem dX6_drift_5 : decode cX6_drift 5 = .ok (.iload_n 1, 1) := by decide +kernel
theorem dX6_drift_6 : decode cX6_drift 6 = .ok (.invokestatic 83, 3) := by decide +kernel
theorem dX6_drift_9 : decode cX6_drift 9 = .ok (.ifCond .ne 5, 3) := by decide +kernel
theorem dX6_drift_12 : decode cX6_drift 12 = .ok (.iconst (-1), 1) := by decide +kernel
theorem dX6_drift_13 : decode cX6_drift 13 = .ok (.ireturn, 1) := by decide +kernel
theorem dX6_drift_14 : decode cX6_drift 14 = .ok (.iload_n 2, 1) := by decide +kernel
theorem dX6_drift_15 : decode cX6_drift 15 = .ok (.invokestatic 87, 3) := by decide +kernel
theorem dX6_drift_18 : decode cX6_drift 18 = .ok (.ifCond .eq 32, 3) := by decide +kernel
theorem dX6_drift_21 : decode cX6_drift 21 = .ok (.iload 4, 2) := by decide +kernel
theorem dX6_drift_23 : decode cX6_drift 23 = .ok (.iconst 0, 1) := by decide +kernel
theorem dX6_drift_24 : decode cX6_drift 24 = .ok (.bipush 20, 2) := by decide +kernel
theorem dX6_drift_26 : decode cX6_drift 26 = .ok (.invokestatic 70, 3) := by decide +kernel
theorem dX6_drift_29 : decode cX6_drift 29 = .ok (.ifCond .eq 21, 3) := by decide +kernel
theorem dX6_drift_32 : decode cX6_drift 32 = .ok (.iload 5, 2) := by decide +kernel
theorem dX6_drift_34 : decode cX6_drift 34 = .ok (.invokestatic 160, 3) := by decide +kernel
theorem dX6_drift_37 : decode cX6_drift 37 = .ok (.ifCond .eq 13, 3) := by decide +kernel
theorem dX6_drift_40 : decode cX6_drift 40 = .ok (.iload 6, 2) := by decide +kernel
theorem dX6_drift_42 : decode cX6_drift 42 = .ok (.iconst 0, 1) := by decide +kernel
theorem dX6_drift_43 : decode cX6_drift 43 = .ok (.iconst 1, 1) := by decide +kernel
theorem dX6_drift_44 : decode cX6_drift 44 = .ok (.invokestatic 70, 3) := by decide +kernel
theorem dX6_drift_47 : decode cX6_drift 47 = .ok (.ifCond .ne 6, 3) := by decide +kernel
theorem dX6_drift_50 : decode cX6_drift 50 = .ok (.bipush (-2), 2) := by decide +kernel
theorem dX6_drift_52 : decode cX6_drift 52 = .ok (.ireturn, 1) := by decide +kernel
theorem dX6_drift_53 : decode cX6_drift 53 = .ok (.aload_n 0, 1) := by decide +kernel
theorem dX6_drift_54 : decode cX6_drift 54 = .ok (.iload_n 1, 1) := by decide +kernel
theorem dX6_drift_55 : decode cX6_drift 55 = .ok (.iload_n 2, 1) := by decide +kernel
theorem dX6_drift_56 : decode cX6_drift 56 = .ok (.iload_n 3, 1) := by decide +kernel
theorem dX6_drift_57 : decode cX6_drift 57 = .ok (.iload 4, 2) := by decide +kernel
theorem dX6_drift_59 : decode cX6_drift 59 = .ok (.invokevirtual 90, 3) := by decide +kernel
theorem dX6_drift_62 : decode cX6_drift 62 = .ok (.istore 7, 2) := by decide +kernel
theorem dX6_drift_64 : decode cX6_drift 64 = .ok (.iload 7, 2) := by decide +kernel
theorem dX6_drift_66 : decode cX6_drift 66 = .ok (.ifCond .eq 10, 3) := by decide +kernel
theorem dX6_drift_69 : decode cX6_drift 69 = .ok (.aload_n 0, 1) := by decide +kernel
theorem dX6_drift_70 : decode cX6_drift 70 = .ok (.iload 7, 2) := by decide +kernel
theorem dX6_drift_72 : decode cX6_drift 72 = .ok (.invokevirtual 94, 3) := by decide +kernel
theorem dX6_drift_75 : decode cX6_drift 75 = .ok (.ireturn, 1) := by decide +kernel
theorem dX6_drift_76 : decode cX6_drift 76 = .ok (.aload_n 0, 1) := by decide +kernel
theorem dX6_drift_77 : decode cX6_drift 77 = .ok (.getfield 74, 3) := by decide +kernel
theorem dX6_drift_80 : decode cX6_drift 80 = .ok (.ifCond .ne 6, 3) := by decide +kernel
theorem dX6_drift_83 : decode cX6_drift 83 = .ok (.bipush (-3), 2) := by decide +kernel
theorem dX6_drift_85 : decode cX6_drift 85 = .ok (.ireturn, 1) := by decide +kernel
theorem dX6_drift_86 : decode cX6_drift 86 = .ok (.bipush 60, 2) := by decide +kernel
theorem dX6_drift_88 : decode cX6_drift 88 = .ok (.iload_n 1, 1) := by decide +kernel
theorem dX6_drift_89 : decode cX6_drift 89 = .ok (.imul, 1) := by decide +kernel
theorem dX6_drift_90 : decode cX6_drift 90 = .ok (.iload_n 3, 1) := by decide +kernel
theorem dX6_drift_91 : decode cX6_drift 91 = .ok (.iadd, 1) := by decide +kernel
theorem dX6_drift_92 : decode cX6_drift 92 = .ok (.istore 8, 2) := by decide +kernel
theorem dX6_drift_94 : decode cX6_drift 94 = .ok (.iconst 0, 1) := by decide +kernel
theorem dX6_drift_95 : decode cX6_drift 95 = .ok (.istore 9, 2) := by decide +kernel
theorem dX6_drift_97 : decode cX6_drift 97 = .ok (.iload 9, 2) := by decide +kernel
theorem dX6_drift_99 : decode cX6_drift 99 = .ok (.iload 4, 2) := by decide +kernel
theorem dX6_drift_101 : decode cX6_drift 101 = .ok (.if_icmp .ge 28, 3) := by decide +kernel
theorem dX6_drift_104 : decode cX6_drift 104 = .ok (.aload_n 0, 1) := by decide +kernel
theorem dX6_drift_105 : decode cX6_drift 105 = .ok (.aload_n 0, 1) := by decide +kernel
theorem dX6_drift_106 : decode cX6_drift 106 = .ok (.getfield 16, 3) := by decide +kernel
theorem dX6_drift_109 : decode cX6_drift 109 = .ok (.iload 8, 2) := by decide +kernel
theorem dX6_drift_111 : decode cX6_drift 111 = .ok (.iload 9, 2) := by decide +kernel
theorem dX6_drift_113 : decode cX6_drift 113 = .ok (.iadd, 1) := by decide +kernel
theorem dX6_drift_114 : decode cX6_drift 114 = .ok (.iaload, 1) := by decide +kernel
theorem dX6_drift_115 : decode cX6_drift 115 = .ok (.invokevirtual 145, 3) := by decide +kernel
theorem dX6_drift_118 : decode cX6_drift 118 = .ok (.ifCond .ne 5, 3) := by decide +kernel
theorem dX6_drift_121 : decode cX6_drift 121 = .ok (.iconst (-1), 1) := by decide +kernel
theorem dX6_drift_122 : decode cX6_drift 122 = .ok (.ireturn, 1) := by decide +kernel
theorem dX6_drift_123 : decode cX6_drift 123 = .ok (.iinc 9 1, 3) := by decide +kernel
theorem dX6_drift_126 : decode cX6_drift 126 = .ok (.goto (-29), 3) := by decide +kernel
theorem dX6_drift_129 : decode cX6_drift 129 = .ok (.iload 6, 2) := by decide +kernel
theorem dX6_drift_131 : decode cX6_drift 131 = .ok (.ifCond .ne 14, 3) := by decide +kernel
theorem dX6_drift_134 : decode cX6_drift 134 = .ok (.aload_n 0, 1) := by decide +kernel
theorem dX6_drift_135 : decode cX6_drift 135 = .ok (.iload 5, 2) := by decide +kernel
theorem dX6_drift_137 : decode cX6_drift 137 = .ok (.iload 8, 2) := by decide +kernel
theorem dX6_drift_139 : decode cX6_drift 139 = .ok (.iload 4, 2) := by decide +kernel
theorem dX6_drift_141 : decode cX6_drift 141 = .ok (.invokevirtual 195, 3) := by decide +kernel
theorem dX6_drift_144 : decode cX6_drift 144 = .ok (.ireturn, 1) := by decide +kernel
theorem dX6_drift_145 : decode cX6_drift 145 = .ok (.iconst 0, 1) := by decide +kernel
theorem dX6_drift_146 : decode cX6_drift 146 = .ok (.istore 9, 2) := by decide +kernel
theorem dX6_drift_148 : decode cX6_drift 148 = .ok (.iconst 0, 1) := by decide +kernel
theorem dX6_drift_149 : decode cX6_drift 149 = .ok (.istore 10, 2) := by decide +kernel
theorem dX6_drift_151 : decode cX6_drift 151 = .ok (.iload 10, 2) := by decide +kernel
theorem dX6_drift_153 : decode cX6_drift 153 = .ok (.bipush 10, 2) := by decide +kernel
theorem dX6_drift_155 : decode cX6_drift 155 = .ok (.if_icmp .ge 37, 3) := by decide +kernel
theorem dX6_drift_158 : decode cX6_drift 158 = .ok (.iload 9, 2) := by decide +kernel
theorem dX6_drift_160 : decode cX6_drift 160 = .ok (.aload_n 0, 1) := by decide +kernel
theorem dX6_drift_161 : decode cX6_drift 161 = .ok (.iload 10, 2) := by decide +kernel
theorem dX6_drift_163 : decode cX6_drift 163 = .ok (.iload 8, 2) := by decide +kernel
theorem dX6_drift_165 : decode cX6_drift 165 = .ok (.iload 4, 2) := by decide +kernel
theorem dX6_drift_167 : decode cX6_drift 167 = .ok (.invokevirtual 195, 3) := by decide +kernel
theorem dX6_drift_170 : decode cX6_drift 170 = .ok (.iload 5, 2) := by decide +kernel
theorem dX6_drift_172 : decode cX6_drift 172 = .ok (.if_icmp .ne 10, 3) := by decide +kernel
theorem dX6_drift_175 : decode cX6_drift 175 = .ok (.iconst 1, 1) := by decide +kernel
theorem dX6_drift_176 : decode cX6_drift 176 = .ok (.iload 10, 2) := by decide +kernel
theorem dX6_drift_178 : decode cX6_drift 178 = .ok (.ishl, 1) := by decide +kernel
theorem dX6_drift_179 : decode cX6_drift 179 = .ok (.goto 4, 3) := by decide +kernel
theorem dX6_drift_182 : decode cX6_drift 182 = .ok (.iconst 0, 1) := by decide +kernel
theorem dX6_drift_183 : decode cX6_drift 183 = .ok (.ior, 1) := by decide +kernel
theorem dX6_drift_184 : decode cX6_drift 184 = .ok (.istore 9, 2) := by decide +kernel
theorem dX6_drift_186 : decode cX6_drift 186 = .ok (.iinc 10 1, 3) := by decide +kernel
theorem dX6_drift_189 : decode cX6_drift 189 = .ok (.goto (-38), 3) := by decide +kernel
theorem dX6_drift_192 : decode cX6_drift 192 = .ok (.iload 9, 2) := by decide +kernel
theorem dX6_drift_194 : decode cX6_drift 194 = .ok (.ireturn, 1) := by decide +kernel
theorem dX6_isLeap_0 : decode cX6_isLeap 0 = .ok (.aload_n 0, 1) := by decide +kernel
theorem dX6_isLeap_1 : decode cX6_isLeap 1 = .ok (.getfield 19, 3) := by decide +kernel
theorem dX6_isLeap_4 : decode cX6_isLeap 4 = .ok (.iload_n 1, 1) := by decide +kernel
theorem dX6_isLeap_5 : decode cX6_isLeap 5 = .ok (.iaload, 1) := by decide +kernel
theorem dX6_isLeap_6 : decode cX6_isLeap 6 = .ok (.aload_n 0, 1) := by decide +kernel
theorem dX6_isLeap_7 : decode cX6_isLeap 7 = .ok (.getfield 19, 3) := by decide +kernel
theorem dX6_isLeap_10 : decode cX6_isLeap 10 = .ok (.iload_n 2, 1) := by decide +kernel
theorem dX6_isLeap_11 : decode cX6_isLeap 11 = .ok (.iaload, 1) := by decide +kernel
theorem dX6_isLeap_12 : decode cX6_isLeap 12 = .ok (.if_icmp .le 19, 3) := by decide +kernel
theorem dX6_isLeap_15 : decode cX6_isLeap 15 = .ok (.aload_n 0, 1) := by decide +kernel
theorem dX6_isLeap_16 : decode cX6_isLeap 16 = .ok (.getfield 19, 3) := by decide +kernel
theorem dX6_isLeap_19 : decode cX6_isLeap 19 = .ok (.iload_n 1, 1) := by decide +kernel
theorem dX6_isLeap_20 : decode cX6_isLeap 20 = .ok (.iaload, 1) := by decide +kernel
theorem dX6_isLeap_21 : decode cX6_isLeap 21 = .ok (.aload_n 0, 1) := by decide +kernel
theorem dX6_isLeap_22 : decode cX6_isLeap 22 = .ok (.getfield 19, 3) := by decide +kernel
theorem dX6_isLeap_25 : decode cX6_isLeap 25 = .ok (.iload_n 2, 1) := by decide +kernel
theorem dX6_isLeap_26 : decode cX6_isLeap 26 = .ok (.iaload, 1) := by decide +kernel
theorem dX6_isLeap_27 : decode cX6_isLeap 27 = .ok (.isub, 1) := by decide +kernel
theorem dX6_isLeap_28 : decode cX6_isLeap 28 = .ok (.goto 16, 3) := by decide +kernel
theorem dX6_isLeap_31 : decode cX6_isLeap 31 = .ok (.aload_n 0, 1) := by decide +kernel
theorem dX6_isLeap_32 : decode cX6_isLeap 32 = .ok (.getfield 19, 3) := by decide +kernel
theorem dX6_isLeap_35 : decode cX6_isLeap 35 = .ok (.iload_n 2, 1) := by decide +kernel
theorem dX6_isLeap_36 : decode cX6_isLeap 36 = .ok (.iaload, 1) := by decide +kernel
theorem dX6_isLeap_37 : decode cX6_isLeap 37 = .ok (.aload_n 0, 1) := by decide +kernel
theorem dX6_isLeap_38 : decode cX6_isLeap 38 = .ok (.getfield 19, 3) := by decide +kernel
theorem dX6_isLeap_41 : decode cX6_isLeap 41 = .ok (.iload_n 1, 1) := by decide +kernel
theorem dX6_isLeap_42 : decode cX6_isLeap 42 = .ok (.iaload, 1) := by decide +kernel
theorem dX6_isLeap_43 : decode cX6_isLeap 43 = .ok (.isub, 1) := by decide +kernel
theorem dX6_isLeap_44 : decode cX6_isLeap 44 = .ok (.istore_n 3, 1) := by decide +kernel
theorem dX6_isLeap_45 : decode cX6_isLeap 45 = .ok (.iload_n 1, 1) := by decide +kernel
theorem dX6_isLeap_46 : decode cX6_isLeap 46 = .ok (.iload_n 2, 1) := by decide +kernel
theorem dX6_isLeap_47 : decode cX6_isLeap 47 = .ok (.if_icmp .eq 15, 3) := by decide +kernel
theorem dX6_isLeap_50 : decode cX6_isLeap 50 = .ok (.iload_n 3, 1) := by decide +kernel
theorem dX6_isLeap_51 : decode cX6_isLeap 51 = .ok (.aload_n 0, 1) := by decide +kernel
theorem dX6_isLeap_52 : decode cX6_isLeap 52 = .ok (.getfield 119, 3) := by decide +kernel
theorem dX6_isLeap_55 : decode cX6_isLeap 55 = .ok (.if_icmp .gt 7, 3) := by decide +kernel
theorem dX6_isLeap_58 : decode cX6_isLeap 58 = .ok (.iconst 1, 1) := by decide +kernel
theorem dX6_isLeap_59 : decode cX6_isLeap 59 = .ok (.goto 4, 3) := by decide +kernel
theorem dX6_isLeap_62 : decode cX6_isLeap 62 = .ok (.iconst 0, 1) := by decide +kernel
theorem dX6_isLeap_63 : decode cX6_isLeap 63 = .ok (.ireturn, 1) := by decide +kernel
theorem dX6_findLeaps_0 : decode cX6_findLeaps 0 = .ok (.iconst 0, 1) := by decide +kernel
theorem dX6_findLeaps_1 : decode cX6_findLeaps 1 = .ok (.istore_n 2, 1) := by decide +kernel
theorem dX6_findLeaps_2 : decode cX6_findLeaps 2 = .ok (.iload_n 2, 1) := by decide +kernel
theorem dX6_findLeaps_3 : decode cX6_findLeaps 3 = .ok (.aload_n 0, 1) := by decide +kernel
theorem dX6_findLeaps_4 : decode cX6_findLeaps 4 = .ok (.getfield 74, 3) := by decide +kernel
theorem dX6_findLeaps_7 : decode cX6_findLeaps 7 = .ok (.if_icmp .ge 26, 3) := by decide +kernel
theorem dX6_findLeaps_10 : decode cX6_findLeaps 10 = .ok (.aload_n 0, 1) := by decide +kernel
theorem dX6_findLeaps_11 : decode cX6_findLeaps 11 = .ok (.getfield 52, 3) := by decide +kernel
theorem dX6_findLeaps_14 : decode cX6_findLeaps 14 = .ok (.iload_n 2, 1) := by decide +kernel
theorem dX6_findLeaps_15 : decode cX6_findLeaps 15 = .ok (.iload_n 2, 1) := by decide +kernel
theorem dX6_findLeaps_16 : decode cX6_findLeaps 16 = .ok (.iload_n 1, 1) := by decide +kernel
theorem dX6_findLeaps_17 : decode cX6_findLeaps 17 = .ok (.if_icmp .ne 7, 3) := by decide +kernel
theorem dX6_findLeaps_20 : decode cX6_findLeaps 20 = .ok (.iconst 0, 1) := by decide +kernel
theorem dX6_findLeaps_21 : decode cX6_findLeaps 21 = .ok (.goto 5, 3) := by decide +kernel
theorem dX6_findLeaps_24 : decode cX6_findLeaps 24 = .ok (.bipush (-9), 2) := by decide +kernel
theorem dX6_findLeaps_26 : decode cX6_findLeaps 26 = .ok (.iastore, 1) := by decide +kernel
theorem dX6_findLeaps_27 : decode cX6_findLeaps 27 = .ok (.iinc 2 1, 3) := by decide +kernel
theorem dX6_findLeaps_30 : decode cX6_findLeaps 30 = .ok (.goto (-28), 3) := by decide +kernel
theorem dX6_findLeaps_33 : decode cX6_findLeaps 33 = .ok (.iconst 0, 1) := by decide +kernel
theorem dX6_findLeaps_34 : decode cX6_findLeaps 34 = .ok (.istore_n 2, 1) := by decide +kernel
theorem dX6_findLeaps_35 : decode cX6_findLeaps 35 = .ok (.iload_n 2, 1) := by decide +kernel
theorem dX6_findLeaps_36 : decode cX6_findLeaps 36 = .ok (.bipush 6, 2) := by decide +kernel
theorem dX6_findLeaps_38 : decode cX6_findLeaps 38 = .ok (.if_icmp .ge 89, 3) := by decide +kernel
theorem dX6_findLeaps_41 : decode cX6_findLeaps 41 = .ok (.iconst 0, 1) := by decide +kernel
theorem dX6_findLeaps_42 : decode cX6_findLeaps 42 = .ok (.istore_n 3, 1) := by decide +kernel
theorem dX6_findLeaps_43 : decode cX6_findLeaps 43 = .ok (.iload_n 3, 1) := by decide +kernel
theorem dX6_findLeaps_44 : decode cX6_findLeaps 44 = .ok (.aload_n 0, 1) := by decide +kernel
theorem dX6_findLeaps_45 : decode cX6_findLeaps 45 = .ok (.getfield 74, 3) := by decide +kernel
theorem dX6_findLeaps_48 : decode cX6_findLeaps 48 = .ok (.if_icmp .ge 73, 3) := by decide +kernel
theorem dX6_findLeaps_51 : decode cX6_findLeaps 51 = .ok (.iconst 0, 1) := by decide +kernel
theorem dX6_findLeaps_52 : decode cX6_findLeaps 52 = .ok (.istore 4, 2) := by decide +kernel
theorem dX6_findLeaps_54 : decode cX6_findLeaps 54 = .ok (.iload 4, 2) := by decide +kernel
theorem dX6_findLeaps_56 : decode cX6_findLeaps 56 = .ok (.aload_n 0, 1) := by decide +kernel
theorem dX6_findLeaps_57 : decode cX6_findLeaps 57 = .ok (.getfield 74, 3) := by decide +kernel
theorem dX6_findLeaps_60 : decode cX6_findLeaps 60 = .ok (.if_icmp .ge 55, 3) := by decide +kernel
theorem dX6_findLeaps_63 : decode cX6_findLeaps 63 = .ok (.aload_n 0, 1) := by decide +kernel
theorem dX6_findLeaps_64 : decode cX6_findLeaps 64 = .ok (.getfield 52, 3) := by decide +kernel
theorem dX6_findLeaps_67 : decode cX6_findLeaps 67 = .ok (.iload_n 3, 1) := by decide +kernel
theorem dX6_findLeaps_68 : decode cX6_findLeaps 68 = .ok (.iaload, 1) := by decide +kernel
theorem dX6_findLeaps_69 : decode cX6_findLeaps 69 = .ok (.bipush (-9), 2) := by decide +kernel
theorem dX6_findLeaps_71 : decode cX6_findLeaps 71 = .ok (.if_icmp .ne 44, 3) := by decide +kernel
theorem dX6_findLeaps_74 : decode cX6_findLeaps 74 = .ok (.aload_n 0, 1) := by decide +kernel
theorem dX6_findLeaps_75 : decode cX6_findLeaps 75 = .ok (.getfield 52, 3) := by decide +kernel
theorem dX6_findLeaps_78 : decode cX6_findLeaps 78 = .ok (.iload_n 3, 1) := by decide +kernel
theorem dX6_findLeaps_79 : decode cX6_findLeaps 79 = .ok (.aload_n 0, 1) := by decide +kernel
theorem dX6_findLeaps_80 : decode cX6_findLeaps 80 = .ok (.getfield 52, 3) := by decide +kernel
theorem dX6_findLeaps_83 : decode cX6_findLeaps 83 = .ok (.iload 4, 2) := by decide +kernel
theorem dX6_findLeaps_85 : decode cX6_findLeaps 85 = .ok (.iaload, 1) := by decide +kernel
theorem dX6_findLeaps_86 : decode cX6_findLeaps 86 = .ok (.iload_n 2, 1) := by decide +kernel
theorem dX6_findLeaps_87 : decode cX6_findLeaps 87 = .ok (.if_icmp .ne 19, 3) := by decide +kernel
theorem dX6_findLeaps_90 : decode cX6_findLeaps 90 = .ok (.aload_n 0, 1) := by decide +kernel
theorem dX6_findLeaps_91 : decode cX6_findLeaps 91 = .ok (.iload_n 3, 1) := by decide +kernel
theorem dX6_findLeaps_92 : decode cX6_findLeaps 92 = .ok (.iload 4, 2) := by decide +kernel
theorem dX6_findLeaps_94 : decode cX6_findLeaps 94 = .ok (.invokevirtual 198, 3) := by decide +kernel
theorem dX6_findLeaps_97 : decode cX6_findLeaps 97 = .ok (.ifCond .eq 9, 3) := by decide +kernel
theorem dX6_findLeaps_100 : decode cX6_findLeaps 100 = .ok (.iload_n 2, 1) := by decide +kernel
theorem dX6_findLeaps_101 : decode cX6_findLeaps 101 = .ok (.iconst 1, 1) := by decide +kernel
theorem dX6_findLeaps_102 : decode cX6_findLeaps 102 = .ok (.iadd, 1) := by decide +kernel
theorem dX6_findLeaps_103 : decode cX6_findLeaps 103 = .ok (.goto 5, 3) := by decide +kernel
theorem dX6_findLeaps_106 : decode cX6_findLeaps 106 = .ok (.bipush (-9), 2) := by decide +kernel
theorem dX6_findLeaps_108 : decode cX6_findLeaps 108 = .ok (.iastore, 1) := by decide +kernel
theorem dX6_findLeaps_109 : decode cX6_findLeaps 109 = .ok (.iinc 4 1, 3) := by decide +kernel
theorem dX6_findLeaps_112 : decode cX6_findLeaps 112 = .ok (.goto (-58), 3) := by decide +kernel
theorem dX6_findLeaps_115 : decode cX6_findLeaps 115 = .ok (.iinc 3 1, 3) := by decide +kernel
theorem dX6_findLeaps_118 : decode cX6_findLeaps 118 = .ok (.goto (-75), 3) := by decide +kernel
theorem dX6_findLeaps_121 : decode cX6_findLeaps 121 = .ok (.iinc 2 1, 3) := by decide +kernel
theorem dX6_findLeaps_124 : decode cX6_findLeaps 124 = .ok (.goto (-89), 3) := by decide +kernel
theorem dX6_findLeaps_127 : decode cX6_findLeaps 127 = .ok (.return_, 1) := by decide +kernel
theorem dX6_nextLeap_0 : decode cX6_nextLeap 0 = .ok (.iconst 0, 1) := by decide +kernel
theorem dX6_nextLeap_1 : decode cX6_nextLeap 1 = .ok (.istore_n 2, 1) := by decide +kernel
theorem dX6_nextLeap_2 : decode cX6_nextLeap 2 = .ok (.aload_n 0, 1) := by decide +kernel
theorem dX6_nextLeap_3 : decode cX6_nextLeap 3 = .ok (.iload_n 1, 1) := by decide +kernel
theorem dX6_nextLeap_4 : decode cX6_nextLeap 4 = .ok (.iload_n 2, 1) := by decide +kernel
theorem dX6_nextLeap_5 : decode cX6_nextLeap 5 = .ok (.invokevirtual 198, 3) := by decide +kernel
theorem dX6_nextLeap_8 : decode cX6_nextLeap 8 = .ok (.ifCond .eq 20, 3) := by decide +kernel
theorem dX6_nextLeap_11 : decode cX6_nextLeap 11 = .ok (.aload_n 0, 1) := by decide +kernel
theorem dX6_nextLeap_12 : decode cX6_nextLeap 12 = .ok (.getfield 52, 3) := by decide +kernel
theorem dX6_nextLeap_15 : decode cX6_nextLeap 15 = .ok (.iload_n 2, 1) := by decide +kernel
theorem dX6_nextLeap_16 : decode cX6_nextLeap 16 = .ok (.iaload, 1) := by decide +kernel
theorem dX6_nextLeap_17 : decode cX6_nextLeap 17 = .ok (.aload_n 0, 1) := by decide +kernel
theorem dX6_nextLeap_18 : decode cX6_nextLeap 18 = .ok (.getfield 52, 3) := by decide +kernel
theorem dX6_nextLeap_21 : decode cX6_nextLeap 21 = .ok (.iload_n 1, 1) := by decide +kernel
theorem dX6_nextLeap_22 : decode cX6_nextLeap 22 = .ok (.iaload, 1) := by decide +kernel
theorem dX6_nextLeap_23 : decode cX6_nextLeap 23 = .ok (.iconst 1, 1) := by decide +kernel
theorem dX6_nextLeap_24 : decode cX6_nextLeap 24 = .ok (.isub, 1) := by decide +kernel
theorem dX6_nextLeap_25 : decode cX6_nextLeap 25 = .ok (.if_icmp .eq 9, 3) := by decide +kernel
theorem dX6_nextLeap_28 : decode cX6_nextLeap 28 = .ok (.iinc 2 1, 3) := by decide +kernel
theorem dX6_nextLeap_31 : decode cX6_nextLeap 31 = .ok (.goto (-29), 3) := by decide +kernel
theorem dX6_nextLeap_34 : decode cX6_nextLeap 34 = .ok (.iload_n 2, 1) := by decide +kernel
theorem dX6_nextLeap_35 : decode cX6_nextLeap 35 = .ok (.ireturn, 1) := by decide +kernel
theorem dX6_leaps_0 : decode cX6_leaps 0 = .ok (.aload_n 0, 1) := by decide +kernel
theorem dX6_leaps_1 : decode cX6_leaps 1 = .ok (.iload_n 1, 1) := by decide +kernel
theorem dX6_leaps_2 : decode cX6_leaps 2 = .ok (.invokevirtual 145, 3) := by decide +kernel
theorem dX6_leaps_5 : decode cX6_leaps 5 = .ok (.ifCond .eq 11, 3) := by decide +kernel
theorem dX6_leaps_8 : decode cX6_leaps 8 = .ok (.aload_n 0, 1) := by decide +kernel
theorem dX6_leaps_9 : decode cX6_leaps 9 = .ok (.iload_n 2, 1) := by decide +kernel
theorem dX6_leaps_10 : decode cX6_leaps 10 = .ok (.invokevirtual 145, 3) := by decide +kernel
theorem dX6_leaps_13 : decode cX6_leaps 13 = .ok (.ifCond .ne 5, 3) := by decide +kernel
theorem dX6_leaps_16 : decode cX6_leaps 16 = .ok (.iconst (-1), 1) := by decide +kernel
theorem dX6_leaps_17 : decode cX6_leaps 17 = .ok (.ireturn, 1) := by decide +kernel
theorem dX6_leaps_18 : decode cX6_leaps 18 = .ok (.iload_n 3, 1) := by decide +kernel
theorem dX6_leaps_19 : decode cX6_leaps 19 = .ok (.iconst (-1), 1) := by decide +kernel
theorem dX6_leaps_20 : decode cX6_leaps 20 = .ok (.iconst 5, 1) := by decide +kernel
theorem dX6_leaps_21 : decode cX6_leaps 21 = .ok (.invokestatic 70, 3) := by decide +kernel
theorem dX6_leaps_24 : decode cX6_leaps 24 = .ok (.ifCond .ne 6, 3) := by decide +kernel
theorem dX6_leaps_27 : decode cX6_leaps 27 = .ok (.bipush (-2), 2) := by decide +kernel
theorem dX6_leaps_29 : decode cX6_leaps 29 = .ok (.ireturn, 1) := by decide +kernel
theorem dX6_leaps_30 : decode cX6_leaps 30 = .ok (.aload_n 0, 1) := by decide +kernel
theorem dX6_leaps_31 : decode cX6_leaps 31 = .ok (.iload_n 2, 1) := by decide +kernel
theorem dX6_leaps_32 : decode cX6_leaps 32 = .ok (.invokevirtual 201, 3) := by decide +kernel
theorem dX6_leaps_35 : decode cX6_leaps 35 = .ok (.iload_n 3, 1) := by decide +kernel
theorem dX6_leaps_36 : decode cX6_leaps 36 = .ok (.iconst (-1), 1) := by decide +kernel
theorem dX6_leaps_37 : decode cX6_leaps 37 = .ok (.if_icmp .eq 14, 3) := by decide +kernel
theorem dX6_leaps_40 : decode cX6_leaps 40 = .ok (.aload_n 0, 1) := by decide +kernel
theorem dX6_leaps_41 : decode cX6_leaps 41 = .ok (.getfield 52, 3) := by decide +kernel
theorem dX6_leaps_44 : decode cX6_leaps 44 = .ok (.iload_n 1, 1) := by decide +kernel
theorem dX6_leaps_45 : decode cX6_leaps 45 = .ok (.iaload, 1) := by decide +kernel
theorem dX6_leaps_46 : decode cX6_leaps 46 = .ok (.bipush (-9), 2) := by decide +kernel
theorem dX6_leaps_48 : decode cX6_leaps 48 = .ok (.if_icmp .ne 10, 3) := by decide +kernel
theorem dX6_leaps_51 : decode cX6_leaps 51 = .ok (.aload_n 0, 1) := by decide +kernel
theorem dX6_leaps_52 : decode cX6_leaps 52 = .ok (.getfield 52, 3) := by decide +kernel
theorem dX6_leaps_55 : decode cX6_leaps 55 = .ok (.iload_n 1, 1) := by decide +kernel
theorem dX6_leaps_56 : decode cX6_leaps 56 = .ok (.iaload, 1) := by decide +kernel
theorem dX6_leaps_57 : decode cX6_leaps 57 = .ok (.ireturn, 1) := by decide +kernel
theorem dX6_leaps_58 : decode cX6_leaps 58 = .ok (.iload_n 3, 1) := by decide +kernel
theorem dX6_leaps_59 : decode cX6_leaps 59 = .ok (.aload_n 0, 1) := by decide +kernel
theorem dX6_leaps_60 : decode cX6_leaps 60 = .ok (.getfield 52, 3) := by decide +kernel
theorem dX6_leaps_63 : decode cX6_leaps 63 = .ok (.iload_n 1, 1) := by decide +kernel
theorem dX6_leaps_64 : decode cX6_leaps 64 = .ok (.iaload, 1) := by decide +kernel
theorem dX6_leaps_65 : decode cX6_leaps 65 = .ok (.if_icmp .le 6, 3) := by decide +kernel
theorem dX6_leaps_68 : decode cX6_leaps 68 = .ok (.bipush (-9), 2) := by decide +kernel
theorem dX6_leaps_70 : decode cX6_leaps 70 = .ok (.ireturn, 1) := by decide +kernel
theorem dX6_leaps_71 : decode cX6_leaps 71 = .ok (.iload_n 1, 1) := by decide +kernel
theorem dX6_leaps_72 : decode cX6_leaps 72 = .ok (.istore 4, 2) := by decide +kernel
theorem dX6_leaps_74 : decode cX6_leaps 74 = .ok (.iconst 0, 1) := by decide +kernel
theorem dX6_leaps_75 : decode cX6_leaps 75 = .ok (.istore 5, 2) := by decide +kernel
theorem dX6_leaps_77 : decode cX6_leaps 77 = .ok (.iload 5, 2) := by decide +kernel
theorem dX6_leaps_79 : decode cX6_leaps 79 = .ok (.iload_n 3, 1) := by decide +kernel
theorem dX6_leaps_80 : decode cX6_leaps 80 = .ok (.if_icmp .ge 17, 3) := by decide +kernel
theorem dX6_leaps_83 : decode cX6_leaps 83 = .ok (.aload_n 0, 1) := by decide +kernel
theorem dX6_leaps_84 : decode cX6_leaps 84 = .ok (.iload 4, 2) := by decide +kernel
theorem dX6_leaps_86 : decode cX6_leaps 86 = .ok (.invokevirtual 205, 3) := by decide +kernel
theorem dX6_leaps_89 : decode cX6_leaps 89 = .ok (.istore 4, 2) := by decide +kernel
theorem dX6_leaps_91 : decode cX6_leaps 91 = .ok (.iinc 5 1, 3) := by decide +kernel
theorem dX6_leaps_94 : decode cX6_leaps 94 = .ok (.goto (-17), 3) := by decide +kernel
theorem dX6_leaps_97 : decode cX6_leaps 97 = .ok (.iload 4, 2) := by decide +kernel
theorem dX6_leaps_99 : decode cX6_leaps 99 = .ok (.ireturn, 1) := by decide +kernel
theorem dX6_findTides_0 : decode cX6_findTides 0 = .ok (.iconst 0, 1) := by decide +kernel
theorem dX6_findTides_1 : decode cX6_findTides 1 = .ok (.istore_n 3, 1) := by decide +kernel
theorem dX6_findTides_2 : decode cX6_findTides 2 = .ok (.iload_n 3, 1) := by decide +kernel
theorem dX6_findTides_3 : decode cX6_findTides 3 = .ok (.aload_n 0, 1) := by decide +kernel
theorem dX6_findTides_4 : decode cX6_findTides 4 = .ok (.getfield 74, 3) := by decide +kernel
theorem dX6_findTides_7 : decode cX6_findTides 7 = .ok (.if_icmp .ge 26, 3) := by decide +kernel
theorem dX6_findTides_10 : decode cX6_findTides 10 = .ok (.aload_n 0, 1) := by decide +kernel
theorem dX6_findTides_11 : decode cX6_findTides 11 = .ok (.getfield 52, 3) := by decide +kernel
theorem dX6_findTides_14 : decode cX6_findTides 14 = .ok (.iload_n 3, 1) := by decide +kernel
theorem dX6_findTides_15 : decode cX6_findTides 15 = .ok (.iload_n 3, 1) := by decide +kernel
theorem dX6_findTides_16 : decode cX6_findTides 16 = .ok (.iload_n 2, 1) := by decide +kernel
theorem dX6_findTides_17 : decode cX6_findTides 17 = .ok (.if_icmp .ne 7, 3) := by decide +kernel
theorem dX6_findTides_20 : decode cX6_findTides 20 = .ok (.iconst 0, 1) := by decide +kernel
theorem dX6_findTides_21 : decode cX6_findTides 21 = .ok (.goto 5, 3) := by decide +kernel
theorem dX6_findTides_24 : decode cX6_findTides 24 = .ok (.bipush (-9), 2) := by decide +kernel
theorem dX6_findTides_26 : decode cX6_findTides 26 = .ok (.iastore, 1) := by decide +kernel
theorem dX6_findTides_27 : decode cX6_findTides 27 = .ok (.iinc 3 1, 3) := by decide +kernel
theorem dX6_findTides_30 : decode cX6_findTides 30 = .ok (.goto (-28), 3) := by decide +kernel
theorem dX6_findTides_33 : decode cX6_findTides 33 = .ok (.iconst 0, 1) := by decide +kernel
theorem dX6_findTides_34 : decode cX6_findTides 34 = .ok (.istore_n 3, 1) := by decide +kernel
theorem dX6_findTides_35 : decode cX6_findTides 35 = .ok (.iload_n 3, 1) := by decide +kernel
theorem dX6_findTides_36 : decode cX6_findTides 36 = .ok (.bipush 6, 2) := by decide +kernel
theorem dX6_findTides_38 : decode cX6_findTides 38 = .ok (.if_icmp .ge 88, 3) := by decide +kernel
theorem dX6_findTides_41 : decode cX6_findTides 41 = .ok (.iconst 0, 1) := by decide +kernel
theorem dX6_findTides_42 : decode cX6_findTides 42 = .ok (.istore 4, 2) := by decide +kernel
theorem dX6_findTides_44 : decode cX6_findTides 44 = .ok (.iload 4, 2) := by decide +kernel
theorem dX6_findTides_46 : decode cX6_findTides 46 = .ok (.aload_n 0, 1) := by decide +kernel
theorem dX6_findTides_47 : decode cX6_findTides 47 = .ok (.getfield 74, 3) := by decide +kernel
theorem dX6_findTides_50 : decode cX6_findTides 50 = .ok (.if_icmp .ge 70, 3) := by decide +kernel
theorem dX6_findTides_53 : decode cX6_findTides 53 = .ok (.iconst 0, 1) := by decide +kernel
theorem dX6_findTides_54 : decode cX6_findTides 54 = .ok (.istore 5, 2) := by decide +kernel
theorem dX6_findTides_56 : decode cX6_findTides 56 = .ok (.iload 5, 2) := by decide +kernel
theorem dX6_findTides_58 : decode cX6_findTides 58 = .ok (.bipush 10, 2) := by decide +kernel
theorem dX6_findTides_60 : decode cX6_findTides 60 = .ok (.if_icmp .ge 54, 3) := by decide +kernel
theorem dX6_findTides_63 : decode cX6_findTides 63 = .ok (.aload_n 0, 1) := by decide +kernel
theorem dX6_findTides_64 : decode cX6_findTides 64 = .ok (.getfield 52, 3) := by decide +kernel
theorem dX6_findTides_67 : decode cX6_findTides 67 = .ok (.iload 4, 2) := by decide +kernel
theorem dX6_findTides_69 : decode cX6_findTides 69 = .ok (.iaload, 1) := by decide +kernel
theorem dX6_findTides_70 : decode cX6_findTides 70 = .ok (.bipush (-9), 2) := by decide +kernel
theorem dX6_findTides_72 : decode cX6_findTides 72 = .ok (.if_icmp .ne 42, 3) := by decide +kernel
theorem dX6_findTides_75 : decode cX6_findTides 75 = .ok (.aload_n 0, 1) := by decide +kernel
theorem dX6_findTides_76 : decode cX6_findTides 76 = .ok (.getfield 52, 3) := by decide +kernel
theorem dX6_findTides_79 : decode cX6_findTides 79 = .ok (.iload 4, 2) := by decide +kernel
theorem dX6_findTides_81 : decode cX6_findTides 81 = .ok (.aload_n 0, 1) := by decide +kernel
theorem dX6_findTides_82 : decode cX6_findTides 82 = .ok (.getfield 52, 3) := by decide +kernel
theorem dX6_findTides_85 : decode cX6_findTides 85 = .ok (.aload_n 0, 1) := by decide +kernel
theorem dX6_findTides_86 : decode cX6_findTides 86 = .ok (.iload 4, 2) := by decide +kernel
theorem dX6_findTides_88 : decode cX6_findTides 88 = .ok (.iload_n 1, 1) := by decide +kernel
theorem dX6_findTides_89 : decode cX6_findTides 89 = .ok (.iload 5, 2) := by decide +kernel
theorem dX6_findTides_91 : decode cX6_findTides 91 = .ok (.invokevirtual 166, 3) := by decide +kernel
theorem dX6_findTides_94 : decode cX6_findTides 94 = .ok (.iaload, 1) := by decide +kernel
theorem dX6_findTides_95 : decode cX6_findTides 95 = .ok (.iload_n 3, 1) := by decide +kernel
theorem dX6_findTides_96 : decode cX6_findTides 96 = .ok (.if_icmp .ne 9, 3) := by decide +kernel
theorem dX6_findTides_99 : decode cX6_findTides 99 = .ok (.iload_n 3, 1) := by decide +kernel
theorem dX6_findTides_100 : decode cX6_findTides 100 = .ok (.iconst 1, 1) := by decide +kernel
theorem dX6_findTides_101 : decode cX6_findTides 101 = .ok (.iadd, 1) := by decide +kernel
theorem dX6_findTides_102 : decode cX6_findTides 102 = .ok (.goto 5, 3) := by decide +kernel
theorem dX6_findTides_105 : decode cX6_findTides 105 = .ok (.bipush (-9), 2) := by decide +kernel
theorem dX6_findTides_107 : decode cX6_findTides 107 = .ok (.iastore, 1) := by decide +kernel
theorem dX6_findTides_108 : decode cX6_findTides 108 = .ok (.iinc 5 1, 3) := by decide +kernel
theorem dX6_findTides_111 : decode cX6_findTides 111 = .ok (.goto (-55), 3) := by decide +kernel
theorem dX6_findTides_114 : decode cX6_findTides 114 = .ok (.iinc 4 1, 3) := by decide +kernel
theorem dX6_findTides_117 : decode cX6_findTides 117 = .ok (.goto (-73), 3) := by decide +kernel
theorem dX6_findTides_120 : decode cX6_findTides 120 = .ok (.iinc 3 1, 3) := by decide +kernel
theorem dX6_findTides_123 : decode cX6_findTides 123 = .ok (.goto (-88), 3) := by decide +kernel
theorem dX6_findTides_126 : decode cX6_findTides 126 = .ok (.return_, 1) := by decide +kernel
theorem dX6_nextTide_0 : decode cX6_nextTide 0 = .ok (.iconst 0, 1) := by decide +kernel
theorem dX6_nextTide_1 : decode cX6_nextTide 1 = .ok (.istore_n 3, 1) := by decide +kernel
theorem dX6_nextTide_2 : decode cX6_nextTide 2 = .ok (.aload_n 0, 1) := by decide +kernel
theorem dX6_nextTide_3 : decode cX6_nextTide 3 = .ok (.getfield 52, 3) := by decide +kernel
theorem dX6_nextTide_6 : decode cX6_nextTide 6 = .ok (.aload_n 0, 1) := by decide +kernel
theorem dX6_nextTide_7 : decode cX6_nextTide 7 = .ok (.iload_n 1, 1) := by decide +kernel
theorem dX6_nextTide_8 : decode cX6_nextTide 8 = .ok (.iload_n 2, 1) := by decide +kernel
theorem dX6_nextTide_9 : decode cX6_nextTide 9 = .ok (.iload_n 3, 1) := by decide +kernel
theorem dX6_nextTide_10 : decode cX6_nextTide 10 = .ok (.invokevirtual 166, 3) := by decide +kernel
theorem dX6_nextTide_13 : decode cX6_nextTide 13 = .ok (.iaload, 1) := by decide +kernel
theorem dX6_nextTide_14 : decode cX6_nextTide 14 = .ok (.aload_n 0, 1) := by decide +kernel
theorem dX6_nextTide_15 : decode cX6_nextTide 15 = .ok (.getfield 52, 3) := by decide +kernel
theorem dX6_nextTide_18 : decode cX6_nextTide 18 = .ok (.iload_n 1, 1) := by decide +kernel
theorem dX6_nextTide_19 : decode cX6_nextTide 19 = .ok (.iaload, 1) := by decide +kernel
theorem dX6_nextTide_20 : decode cX6_nextTide 20 = .ok (.iconst 1, 1) := by decide +kernel
theorem dX6_nextTide_21 : decode cX6_nextTide 21 = .ok (.isub, 1) := by decide +kernel
theorem dX6_nextTide_22 : decode cX6_nextTide 22 = .ok (.if_icmp .eq 9, 3) := by decide +kernel
theorem dX6_nextTide_25 : decode cX6_nextTide 25 = .ok (.iinc 3 1, 3) := by decide +kernel
theorem dX6_nextTide_28 : decode cX6_nextTide 28 = .ok (.goto (-26), 3) := by decide +kernel
theorem dX6_nextTide_31 : decode cX6_nextTide 31 = .ok (.iload_n 3, 1) := by decide +kernel
theorem dX6_nextTide_32 : decode cX6_nextTide 32 = .ok (.ireturn, 1) := by decide +kernel
theorem dX6_elect_0 : decode cX6_elect 0 = .ok (.aload_n 0, 1) := by decide +kernel
theorem dX6_elect_1 : decode cX6_elect 1 = .ok (.iload_n 1, 1) := by decide +kernel
theorem dX6_elect_2 : decode cX6_elect 2 = .ok (.invokevirtual 154, 3) := by decide +kernel
theorem dX6_elect_5 : decode cX6_elect 5 = .ok (.ifCond .eq 11, 3) := by decide +kernel
theorem dX6_elect_8 : decode cX6_elect 8 = .ok (.aload_n 0, 1) := by decide +kernel
theorem dX6_elect_9 : decode cX6_elect 9 = .ok (.iload_n 2, 1) := by decide +kernel
theorem dX6_elect_10 : decode cX6_elect 10 = .ok (.invokevirtual 145, 3) := by decide +kernel
theorem dX6_elect_13 : decode cX6_elect 13 = .ok (.ifCond .ne 5, 3) := by decide +kernel
theorem dX6_elect_16 : decode cX6_elect 16 = .ok (.iconst (-1), 1) := by decide +kernel
theorem dX6_elect_17 : decode cX6_elect 17 = .ok (.ireturn, 1) := by decide +kernel
theorem dX6_elect_18 : decode cX6_elect 18 = .ok (.iload_n 3, 1) := by decide +kernel
theorem dX6_elect_19 : decode cX6_elect 19 = .ok (.iconst (-1), 1) := by decide +kernel
theorem dX6_elect_20 : decode cX6_elect 20 = .ok (.iconst 4, 1) := by decide +kernel
theorem dX6_elect_21 : decode cX6_elect 21 = .ok (.invokestatic 70, 3) := by decide +kernel
theorem dX6_elect_24 : decode cX6_elect 24 = .ok (.ifCond .ne 6, 3) := by decide +kernel
theorem dX6_elect_27 : decode cX6_elect 27 = .ok (.bipush (-2), 2) := by decide +kernel
theorem dX6_elect_29 : decode cX6_elect 29 = .ok (.ireturn, 1) := by decide +kernel
theorem dX6_elect_30 : decode cX6_elect 30 = .ok (.aload_n 0, 1) := by decide +kernel
theorem dX6_elect_31 : decode cX6_elect 31 = .ok (.iload_n 1, 1) := by decide +kernel
theorem dX6_elect_32 : decode cX6_elect 32 = .ok (.invokevirtual 157, 3) := by decide +kernel
theorem dX6_elect_35 : decode cX6_elect 35 = .ok (.istore 4, 2) := by decide +kernel
theorem dX6_elect_37 : decode cX6_elect 37 = .ok (.aload_n 0, 1) := by decide +kernel
theorem dX6_elect_38 : decode cX6_elect 38 = .ok (.iload 4, 2) := by decide +kernel
theorem dX6_elect_40 : decode cX6_elect 40 = .ok (.iload_n 2, 1) := by decide +kernel
theorem dX6_elect_41 : decode cX6_elect 41 = .ok (.invokevirtual 208, 3) := by decide +kernel
theorem dX6_elect_44 : decode cX6_elect 44 = .ok (.aload_n 0, 1) := by decide +kernel
theorem dX6_elect_45 : decode cX6_elect 45 = .ok (.getfield 28, 3) := by decide +kernel
theorem dX6_elect_48 : decode cX6_elect 48 = .ok (.iload_n 1, 1) := by decide +kernel
theorem dX6_elect_49 : decode cX6_elect 49 = .ok (.iaload, 1) := by decide +kernel
theorem dX6_elect_50 : decode cX6_elect 50 = .ok (.istore 5, 2) := by decide +kernel
theorem dX6_elect_52 : decode cX6_elect 52 = .ok (.iload_n 3, 1) := by decide +kernel
theorem dX6_elect_53 : decode cX6_elect 53 = .ok (.iconst (-1), 1) := by decide +kernel
theorem dX6_elect_54 : decode cX6_elect 54 = .ok (.if_icmp .eq 15, 3) := by decide +kernel
theorem dX6_elect_57 : decode cX6_elect 57 = .ok (.aload_n 0, 1) := by decide +kernel
theorem dX6_elect_58 : decode cX6_elect 58 = .ok (.getfield 52, 3) := by decide +kernel
theorem dX6_elect_61 : decode cX6_elect 61 = .ok (.iload 5, 2) := by decide +kernel
theorem dX6_elect_63 : decode cX6_elect 63 = .ok (.iaload, 1) := by decide +kernel
theorem dX6_elect_64 : decode cX6_elect 64 = .ok (.bipush (-9), 2) := by decide +kernel
theorem dX6_elect_66 : decode cX6_elect 66 = .ok (.if_icmp .ne 11, 3) := by decide +kernel
theorem dX6_elect_69 : decode cX6_elect 69 = .ok (.aload_n 0, 1) := by decide +kernel
theorem dX6_elect_70 : decode cX6_elect 70 = .ok (.getfield 52, 3) := by decide +kernel
theorem dX6_elect_73 : decode cX6_elect 73 = .ok (.iload 5, 2) := by decide +kernel
theorem dX6_elect_75 : decode cX6_elect 75 = .ok (.iaload, 1) := by decide +kernel
theorem dX6_elect_76 : decode cX6_elect 76 = .ok (.ireturn, 1) := by decide +kernel
theorem dX6_elect_77 : decode cX6_elect 77 = .ok (.bipush (-9), 2) := by decide +kernel
theorem dX6_elect_79 : decode cX6_elect 79 = .ok (.istore 6, 2) := by decide +kernel
theorem dX6_elect_81 : decode cX6_elect 81 = .ok (.iconst 0, 1) := by decide +kernel
theorem dX6_elect_82 : decode cX6_elect 82 = .ok (.istore 7, 2) := by decide +kernel
theorem dX6_elect_84 : decode cX6_elect 84 = .ok (.iload 7, 2) := by decide +kernel
theorem dX6_elect_86 : decode cX6_elect 86 = .ok (.iload_n 3, 1) := by decide +kernel
theorem dX6_elect_87 : decode cX6_elect 87 = .ok (.if_icmp .gt 54, 3) := by decide +kernel
theorem dX6_elect_90 : decode cX6_elect 90 = .ok (.iload 5, 2) := by decide +kernel
theorem dX6_elect_92 : decode cX6_elect 92 = .ok (.iload_n 2, 1) := by decide +kernel
theorem dX6_elect_93 : decode cX6_elect 93 = .ok (.if_icmp .ne 8, 3) := by decide +kernel
theorem dX6_elect_96 : decode cX6_elect 96 = .ok (.bipush (-9), 2) := by decide +kernel
theorem dX6_elect_98 : decode cX6_elect 98 = .ok (.goto 11, 3) := by decide +kernel
theorem dX6_elect_101 : decode cX6_elect 101 = .ok (.aload_n 0, 1) := by decide +kernel
theorem dX6_elect_102 : decode cX6_elect 102 = .ok (.iload 5, 2) := by decide +kernel
theorem dX6_elect_104 : decode cX6_elect 104 = .ok (.iload 4, 2) := by decide +kernel
theorem dX6_elect_106 : decode cX6_elect 106 = .ok (.invokevirtual 212, 3) := by decide +kernel
theorem dX6_elect_109 : decode cX6_elect 109 = .ok (.istore 6, 2) := by decide +kernel
theorem dX6_elect_111 : decode cX6_elect 111 = .ok (.iload 6, 2) := by decide +kernel
theorem dX6_elect_113 : decode cX6_elect 113 = .ok (.bipush (-9), 2) := by decide +kernel
theorem dX6_elect_115 : decode cX6_elect 115 = .ok (.if_icmp .ne 8, 3) := by decide +kernel
theorem dX6_elect_118 : decode cX6_elect 118 = .ok (.iload 5, 2) := by decide +kernel
theorem dX6_elect_120 : decode cX6_elect 120 = .ok (.goto 13, 3) := by decide +kernel
theorem dX6_elect_123 : decode cX6_elect 123 = .ok (.aload_n 0, 1) := by decide +kernel
theorem dX6_elect_124 : decode cX6_elect 124 = .ok (.iload 5, 2) := by decide +kernel
theorem dX6_elect_126 : decode cX6_elect 126 = .ok (.iload 4, 2) := by decide +kernel
theorem dX6_elect_128 : decode cX6_elect 128 = .ok (.iload 6, 2) := by decide +kernel
theorem dX6_elect_130 : decode cX6_elect 130 = .ok (.invokevirtual 166, 3) := by decide +kernel
theorem dX6_elect_133 : decode cX6_elect 133 = .ok (.istore 5, 2) := by decide +kernel
theorem dX6_elect_135 : decode cX6_elect 135 = .ok (.iinc 7 1, 3) := by decide +kernel
theorem dX6_elect_138 : decode cX6_elect 138 = .ok (.goto (-54), 3) := by decide +kernel
theorem dX6_elect_141 : decode cX6_elect 141 = .ok (.iload 6, 2) := by decide +kernel
theorem dX6_elect_143 : decode cX6_elect 143 = .ok (.ireturn, 1) := by decide +kernel
theorem dX6_reading_0 : decode cX6_reading 0 = .ok (.aload_n 0, 1) := by decide +kernel
theorem dX6_reading_1 : decode cX6_reading 1 = .ok (.iload_n 1, 1) := by decide +kernel
theorem dX6_reading_2 : decode cX6_reading 2 = .ok (.invokevirtual 154, 3) := by decide +kernel
theorem dX6_reading_5 : decode cX6_reading 5 = .ok (.ifCond .ne 5, 3) := by decide +kernel
theorem dX6_reading_8 : decode cX6_reading 8 = .ok (.iconst (-1), 1) := by decide +kernel
theorem dX6_reading_9 : decode cX6_reading 9 = .ok (.ireturn, 1) := by decide +kernel
theorem dX6_reading_10 : decode cX6_reading 10 = .ok (.iload_n 2, 1) := by decide +kernel
theorem dX6_reading_11 : decode cX6_reading 11 = .ok (.invokestatic 160, 3) := by decide +kernel
theorem dX6_reading_14 : decode cX6_reading 14 = .ok (.ifCond .ne 6, 3) := by decide +kernel
theorem dX6_reading_17 : decode cX6_reading 17 = .ok (.bipush (-2), 2) := by decide +kernel
theorem dX6_reading_19 : decode cX6_reading 19 = .ok (.ireturn, 1) := by decide +kernel
theorem dX6_reading_20 : decode cX6_reading 20 = .ok (.aload_n 0, 1) := by decide +kernel
theorem dX6_reading_21 : decode cX6_reading 21 = .ok (.iload_n 3, 1) := by decide +kernel
theorem dX6_reading_22 : decode cX6_reading 22 = .ok (.invokevirtual 145, 3) := by decide +kernel
theorem dX6_reading_25 : decode cX6_reading 25 = .ok (.ifCond .ne 5, 3) := by decide +kernel
theorem dX6_reading_28 : decode cX6_reading 28 = .ok (.iconst (-1), 1) := by decide +kernel
theorem dX6_reading_29 : decode cX6_reading 29 = .ok (.ireturn, 1) := by decide +kernel
theorem dX6_reading_30 : decode cX6_reading 30 = .ok (.aload_n 0, 1) := by decide +kernel
theorem dX6_reading_31 : decode cX6_reading 31 = .ok (.getfield 128, 3) := by decide +kernel
theorem dX6_reading_34 : decode cX6_reading 34 = .ok (.bipush 8, 2) := by decide +kernel
theorem dX6_reading_36 : decode cX6_reading 36 = .ok (.if_icmp .ne 6, 3) := by decide +kernel
theorem dX6_reading_39 : decode cX6_reading 39 = .ok (.bipush (-4), 2) := by decide +kernel
theorem dX6_reading_41 : decode cX6_reading 41 = .ok (.ireturn, 1) := by decide +kernel
theorem dX6_reading_42 : decode cX6_reading 42 = .ok (.aload_n 0, 1) := by decide +kernel
theorem dX6_reading_43 : decode cX6_reading 43 = .ok (.getfield 55, 3) := by decide +kernel
theorem dX6_reading_46 : decode cX6_reading 46 = .ok (.aload_n 0, 1) := by decide +kernel
theorem dX6_reading_47 : decode cX6_reading 47 = .ok (.getfield 128, 3) := by decide +kernel
theorem dX6_reading_50 : decode cX6_reading 50 = .ok (.iload_n 1, 1) := by decide +kernel
theorem dX6_reading_51 : decode cX6_reading 51 = .ok (.iastore, 1) := by decide +kernel
theorem dX6_reading_52 : decode cX6_reading 52 = .ok (.aload_n 0, 1) := by decide +kernel
theorem dX6_reading_53 : decode cX6_reading 53 = .ok (.getfield 58, 3) := by decide +kernel
theorem dX6_reading_56 : decode cX6_reading 56 = .ok (.aload_n 0, 1) := by decide +kernel
theorem dX6_reading_57 : decode cX6_reading 57 = .ok (.getfield 128, 3) := by decide +kernel
theorem dX6_reading_60 : decode cX6_reading 60 = .ok (.iload_n 2, 1) := by decide +kernel
theorem dX6_reading_61 : decode cX6_reading 61 = .ok (.iastore, 1) := by decide +kernel
theorem dX6_reading_62 : decode cX6_reading 62 = .ok (.aload_n 0, 1) := by decide +kernel
theorem dX6_reading_63 : decode cX6_reading 63 = .ok (.getfield 61, 3) := by decide +kernel
theorem dX6_reading_66 : decode cX6_reading 66 = .ok (.aload_n 0, 1) := by decide +kernel
theorem dX6_reading_67 : decode cX6_reading 67 = .ok (.getfield 128, 3) := by decide +kernel
theorem dX6_reading_70 : decode cX6_reading 70 = .ok (.iload_n 3, 1) := by decide +kernel
theorem dX6_reading_71 : decode cX6_reading 71 = .ok (.iastore, 1) := by decide +kernel
theorem dX6_reading_72 : decode cX6_reading 72 = .ok (.aload_n 0, 1) := by decide +kernel
theorem dX6_reading_73 : decode cX6_reading 73 = .ok (.dup, 1) := by decide +kernel
theorem dX6_reading_74 : decode cX6_reading 74 = .ok (.getfield 128, 3) := by decide +kernel
theorem dX6_reading_77 : decode cX6_reading 77 = .ok (.iconst 1, 1) := by decide +kernel
theorem dX6_reading_78 : decode cX6_reading 78 = .ok (.iadd, 1) := by decide +kernel
theorem dX6_reading_79 : decode cX6_reading 79 = .ok (.putfield 128, 3) := by decide +kernel
theorem dX6_reading_82 : decode cX6_reading 82 = .ok (.aload_n 0, 1) := by decide +kernel
theorem dX6_reading_83 : decode cX6_reading 83 = .ok (.getfield 128, 3) := by decide +kernel
theorem dX6_reading_86 : decode cX6_reading 86 = .ok (.iconst 1, 1) := by decide +kernel
theorem dX6_reading_87 : decode cX6_reading 87 = .ok (.isub, 1) := by decide +kernel
theorem dX6_reading_88 : decode cX6_reading 88 = .ok (.ireturn, 1) := by decide +kernel
theorem dX6_back_0 : decode cX6_back 0 = .ok (.iload_n 1, 1) := by decide +kernel
theorem dX6_back_1 : decode cX6_back 1 = .ok (.iconst 0, 1) := by decide +kernel
theorem dX6_back_2 : decode cX6_back 2 = .ok (.aload_n 0, 1) := by decide +kernel
theorem dX6_back_3 : decode cX6_back 3 = .ok (.getfield 128, 3) := by decide +kernel
theorem dX6_back_6 : decode cX6_back 6 = .ok (.invokestatic 70, 3) := by decide +kernel
theorem dX6_back_9 : decode cX6_back 9 = .ok (.ifCond .ne 6, 3) := by decide +kernel
theorem dX6_back_12 : decode cX6_back 12 = .ok (.bipush (-2), 2) := by decide +kernel
theorem dX6_back_14 : decode cX6_back 14 = .ok (.ireturn, 1) := by decide +kernel
theorem dX6_back_15 : decode cX6_back 15 = .ok (.aload_n 0, 1) := by decide +kernel
theorem dX6_back_16 : decode cX6_back 16 = .ok (.dup, 1) := by decide +kernel
theorem dX6_back_17 : decode cX6_back 17 = .ok (.getfield 128, 3) := by decide +kernel
theorem dX6_back_20 : decode cX6_back 20 = .ok (.iload_n 1, 1) := by decide +kernel
theorem dX6_back_21 : decode cX6_back 21 = .ok (.isub, 1) := by decide +kernel
theorem dX6_back_22 : decode cX6_back 22 = .ok (.putfield 128, 3) := by decide +kernel
theorem dX6_back_25 : decode cX6_back 25 = .ok (.aload_n 0, 1) := by decide +kernel
theorem dX6_back_26 : decode cX6_back 26 = .ok (.getfield 128, 3) := by decide +kernel
theorem dX6_back_29 : decode cX6_back 29 = .ok (.ireturn, 1) := by decide +kernel
theorem dX6_areSo_0 : decode cX6_areSo 0 = .ok (.iconst 0, 1) := by decide +kernel
theorem dX6_areSo_1 : decode cX6_areSo 1 = .ok (.istore_n 1, 1) := by decide +kernel
theorem dX6_areSo_2 : decode cX6_areSo 2 = .ok (.iload_n 1, 1) := by decide +kernel
theorem dX6_areSo_3 : decode cX6_areSo 3 = .ok (.aload_n 0, 1) := by decide +kernel
theorem dX6_areSo_4 : decode cX6_areSo 4 = .ok (.getfield 128, 3) := by decide +kernel
theorem dX6_areSo_7 : decode cX6_areSo 7 = .ok (.if_icmp .ge 48, 3) := by decide +kernel
theorem dX6_areSo_10 : decode cX6_areSo 10 = .ok (.aload_n 0, 1) := by decide +kernel
theorem dX6_areSo_11 : decode cX6_areSo 11 = .ok (.getfield 55, 3) := by decide +kernel
theorem dX6_areSo_14 : decode cX6_areSo 14 = .ok (.iload_n 1, 1) := by decide +kernel
theorem dX6_areSo_15 : decode cX6_areSo 15 = .ok (.iaload, 1) := by decide +kernel
theorem dX6_areSo_16 : decode cX6_areSo 16 = .ok (.istore_n 2, 1) := by decide +kernel
theorem dX6_areSo_17 : decode cX6_areSo 17 = .ok (.aload_n 0, 1) := by decide +kernel
theorem dX6_areSo_18 : decode cX6_areSo 18 = .ok (.aload_n 0, 1) := by decide +kernel
theorem dX6_areSo_19 : decode cX6_areSo 19 = .ok (.getfield 28, 3) := by decide +kernel
theorem dX6_areSo_22 : decode cX6_areSo 22 = .ok (.iload_n 2, 1) := by decide +kernel
theorem dX6_areSo_23 : decode cX6_areSo 23 = .ok (.iaload, 1) := by decide +kernel
theorem dX6_areSo_24 : decode cX6_areSo 24 = .ok (.aload_n 0, 1) := by decide +kernel
theorem dX6_areSo_25 : decode cX6_areSo 25 = .ok (.iload_n 2, 1) := by decide +kernel
theorem dX6_areSo_26 : decode cX6_areSo 26 = .ok (.invokevirtual 157, 3) := by decide +kernel
theorem dX6_areSo_29 : decode cX6_areSo 29 = .ok (.aload_n 0, 1) := by decide +kernel
theorem dX6_areSo_30 : decode cX6_areSo 30 = .ok (.getfield 58, 3) := by decide +kernel
theorem dX6_areSo_33 : decode cX6_areSo 33 = .ok (.iload_n 1, 1) := by decide +kernel
theorem dX6_areSo_34 : decode cX6_areSo 34 = .ok (.iaload, 1) := by decide +kernel
theorem dX6_areSo_35 : decode cX6_areSo 35 = .ok (.invokevirtual 166, 3) := by decide +kernel
theorem dX6_areSo_38 : decode cX6_areSo 38 = .ok (.aload_n 0, 1) := by decide +kernel
theorem dX6_areSo_39 : decode cX6_areSo 39 = .ok (.getfield 61, 3) := by decide +kernel
theorem dX6_areSo_42 : decode cX6_areSo 42 = .ok (.iload_n 1, 1) := by decide +kernel
theorem dX6_areSo_43 : decode cX6_areSo 43 = .ok (.iaload, 1) := by decide +kernel
theorem dX6_areSo_44 : decode cX6_areSo 44 = .ok (.if_icmp .eq 5, 3) := by decide +kernel
theorem dX6_areSo_47 : decode cX6_areSo 47 = .ok (.iconst 0, 1) := by decide +kernel
theorem dX6_areSo_48 : decode cX6_areSo 48 = .ok (.ireturn, 1) := by decide +kernel
theorem dX6_areSo_49 : decode cX6_areSo 49 = .ok (.iinc 1 1, 3) := by decide +kernel
theorem dX6_areSo_52 : decode cX6_areSo 52 = .ok (.goto (-50), 3) := by decide +kernel
theorem dX6_areSo_55 : decode cX6_areSo 55 = .ok (.iconst 1, 1) := by decide +kernel
theorem dX6_areSo_56 : decode cX6_areSo 56 = .ok (.ireturn, 1) := by decide +kernel
theorem dX6_heights_0 : decode cX6_heights 0 = .ok (.aload_n 0, 1) := by decide +kernel
theorem dX6_heights_1 : decode cX6_heights 1 = .ok (.iload_n 1, 1) := by decide +kernel
theorem dX6_heights_2 : decode cX6_heights 2 = .ok (.invokevirtual 145, 3) := by decide +kernel
theorem dX6_heights_5 : decode cX6_heights 5 = .ok (.ifCond .ne 5, 3) := by decide +kernel
theorem dX6_heights_8 : decode cX6_heights 8 = .ok (.iconst (-1), 1) := by decide +kernel
theorem dX6_heights_9 : decode cX6_heights 9 = .ok (.ireturn, 1) := by decide +kernel
theorem dX6_heights_10 : decode cX6_heights 10 = .ok (.aload_n 0, 1) := by decide +kernel
theorem dX6_heights_11 : decode cX6_heights 11 = .ok (.getfield 19, 3) := by decide +kernel
theorem dX6_heights_14 : decode cX6_heights 14 = .ok (.iload_n 1, 1) := by decide +kernel
theorem dX6_heights_15 : decode cX6_heights 15 = .ok (.iaload, 1) := by decide +kernel
theorem dX6_heights_16 : decode cX6_heights 16 = .ok (.istore_n 2, 1) := by decide +kernel
theorem dX6_heights_17 : decode cX6_heights 17 = .ok (.iconst 0, 1) := by decide +kernel
theorem dX6_heights_18 : decode cX6_heights 18 = .ok (.istore_n 3, 1) := by decide +kernel
theorem dX6_heights_19 : decode cX6_heights 19 = .ok (.iconst 1, 1) := by decide +kernel
theorem dX6_heights_20 : decode cX6_heights 20 = .ok (.istore 4, 2) := by decide +kernel
theorem dX6_heights_22 : decode cX6_heights 22 = .ok (.iload 4, 2) := by decide +kernel
theorem dX6_heights_24 : decode cX6_heights 24 = .ok (.bipush 9, 2) := by decide +kernel
theorem dX6_heights_26 : decode cX6_heights 26 = .ok (.if_icmp .gt 35, 3) := by decide +kernel
theorem dX6_heights_29 : decode cX6_heights 29 = .ok (.aload_n 0, 1) := by decide +kernel
theorem dX6_heights_30 : decode cX6_heights 30 = .ok (.getfield 19, 3) := by decide +kernel
theorem dX6_heights_33 : decode cX6_heights 33 = .ok (.iload_n 1, 1) := by decide +kernel
theorem dX6_heights_34 : decode cX6_heights 34 = .ok (.iload 4, 2) := by decide +kernel
theorem dX6_heights_36 : decode cX6_heights 36 = .ok (.iastore, 1) := by decide +kernel
theorem dX6_heights_37 : decode cX6_heights 37 = .ok (.iload_n 3, 1) := by decide +kernel
theorem dX6_heights_38 : decode cX6_heights 38 = .ok (.aload_n 0, 1) := by decide +kernel
theorem dX6_heights_39 : decode cX6_heights 39 = .ok (.invokevirtual 215, 3) := by decide +kernel
theorem dX6_heights_42 : decode cX6_heights 42 = .ok (.ifCond .eq 10, 3) := by decide +kernel
theorem dX6_heights_45 : decode cX6_heights 45 = .ok (.iconst 1, 1) := by decide +kernel
theorem dX6_heights_46 : decode cX6_heights 46 = .ok (.iload 4, 2) := by decide +kernel
theorem dX6_heights_48 : decode cX6_heights 48 = .ok (.ishl, 1) := by decide +kernel
theorem dX6_heights_49 : decode cX6_heights 49 = .ok (.goto 4, 3) := by decide +kernel
theorem dX6_heights_52 : decode cX6_heights 52 = .ok (.iconst 0, 1) := by decide +kernel
theorem dX6_heights_53 : decode cX6_heights 53 = .ok (.ior, 1) := by decide +kernel
theorem dX6_heights_54 : decode cX6_heights 54 = .ok (.istore_n 3, 1) := by decide +kernel
theorem dX6_heights_55 : decode cX6_heights 55 = .ok (.iinc 4 1, 3) := by decide +kernel
theorem dX6_heights_58 : decode cX6_heights 58 = .ok (.goto (-36), 3) := by decide +kernel
theorem dX6_heights_61 : decode cX6_heights 61 = .ok (.aload_n 0, 1) := by decide +kernel
theorem dX6_heights_62 : decode cX6_heights 62 = .ok (.getfield 19, 3) := by decide +kernel
theorem dX6_heights_65 : decode cX6_heights 65 = .ok (.iload_n 1, 1) := by decide +kernel
theorem dX6_heights_66 : decode cX6_heights 66 = .ok (.iload_n 2, 1) := by decide +kernel
theorem dX6_heights_67 : decode cX6_heights 67 = .ok (.iastore, 1) := by decide +kernel
theorem dX6_heights_68 : decode cX6_heights 68 = .ok (.iload_n 3, 1) := by decide +kernel
theorem dX6_heights_69 : decode cX6_heights 69 = .ok (.ireturn, 1) := by decide +kernel
theorem dX6_kinds_0 : decode cX6_kinds 0 = .ok (.aload_n 0, 1) := by decide +kernel
theorem dX6_kinds_1 : decode cX6_kinds 1 = .ok (.iload_n 1, 1) := by decide +kernel
theorem dX6_kinds_2 : decode cX6_kinds 2 = .ok (.invokevirtual 154, 3) := by decide +kernel
theorem dX6_kinds_5 : decode cX6_kinds 5 = .ok (.ifCond .ne 5, 3) := by decide +kernel
theorem dX6_kinds_8 : decode cX6_kinds 8 = .ok (.iconst (-1), 1) := by decide +kernel
theorem dX6_kinds_9 : decode cX6_kinds 9 = .ok (.ireturn, 1) := by decide +kernel
theorem dX6_kinds_10 : decode cX6_kinds 10 = .ok (.aload_n 0, 1) := by decide +kernel
theorem dX6_kinds_11 : decode cX6_kinds 11 = .ok (.getfield 25, 3) := by decide +kernel
theorem dX6_kinds_14 : decode cX6_kinds 14 = .ok (.iload_n 1, 1) := by decide +kernel
theorem dX6_kinds_15 : decode cX6_kinds 15 = .ok (.iaload, 1) := by decide +kernel
theorem dX6_kinds_16 : decode cX6_kinds 16 = .ok (.istore_n 2, 1) := by decide +kernel
theorem dX6_kinds_17 : decode cX6_kinds 17 = .ok (.iconst 0, 1) := by decide +kernel
theorem dX6_kinds_18 : decode cX6_kinds 18 = .ok (.istore_n 3, 1) := by decide +kernel
theorem dX6_kinds_19 : decode cX6_kinds 19 = .ok (.iconst 0, 1) := by decide +kernel
theorem dX6_kinds_20 : decode cX6_kinds 20 = .ok (.istore 4, 2) := by decide +kernel
theorem dX6_kinds_22 : decode cX6_kinds 22 = .ok (.iload 4, 2) := by decide +kernel
theorem dX6_kinds_24 : decode cX6_kinds 24 = .ok (.iconst 3, 1) := by decide +kernel
theorem dX6_kinds_25 : decode cX6_kinds 25 = .ok (.if_icmp .ge 35, 3) := by decide +kernel
theorem dX6_kinds_28 : decode cX6_kinds 28 = .ok (.aload_n 0, 1) := by decide +kernel
theorem dX6_kinds_29 : decode cX6_kinds 29 = .ok (.getfield 25, 3) := by decide +kernel
theorem dX6_kinds_32 : decode cX6_kinds 32 = .ok (.iload_n 1, 1) := by decide +kernel
theorem dX6_kinds_33 : decode cX6_kinds 33 = .ok (.iload 4, 2) := by decide +kernel
theorem dX6_kinds_35 : decode cX6_kinds 35 = .ok (.iastore, 1) := by decide +kernel
theorem dX6_kinds_36 : decode cX6_kinds 36 = .ok (.iload_n 3, 1) := by decide +kernel
theorem dX6_kinds_37 : decode cX6_kinds 37 = .ok (.aload_n 0, 1) := by decide +kernel
theorem dX6_kinds_38 : decode cX6_kinds 38 = .ok (.invokevirtual 215, 3) := by decide +kernel
theorem dX6_kinds_41 : decode cX6_kinds 41 = .ok (.ifCond .eq 10, 3) := by decide +kernel
theorem dX6_kinds_44 : decode cX6_kinds 44 = .ok (.iconst 1, 1) := by decide +kernel
theorem dX6_kinds_45 : decode cX6_kinds 45 = .ok (.iload 4, 2) := by decide +kernel
theorem dX6_kinds_47 : decode cX6_kinds 47 = .ok (.ishl, 1) := by decide +kernel
theorem dX6_kinds_48 : decode cX6_kinds 48 = .ok (.goto 4, 3) := by decide +kernel
theorem dX6_kinds_51 : decode cX6_kinds 51 = .ok (.iconst 0, 1) := by decide +kernel
theorem dX6_kinds_52 : decode cX6_kinds 52 = .ok (.ior, 1) := by decide +kernel
theorem dX6_kinds_53 : decode cX6_kinds 53 = .ok (.istore_n 3, 1) := by decide +kernel
theorem dX6_kinds_54 : decode cX6_kinds 54 = .ok (.iinc 4 1, 3) := by decide +kernel
theorem dX6_kinds_57 : decode cX6_kinds 57 = .ok (.goto (-35), 3) := by decide +kernel
theorem dX6_kinds_60 : decode cX6_kinds 60 = .ok (.aload_n 0, 1) := by decide +kernel
theorem dX6_kinds_61 : decode cX6_kinds 61 = .ok (.getfield 25, 3) := by decide +kernel
theorem dX6_kinds_64 : decode cX6_kinds 64 = .ok (.iload_n 1, 1) := by decide +kernel
theorem dX6_kinds_65 : decode cX6_kinds 65 = .ok (.iload_n 2, 1) := by decide +kernel
theorem dX6_kinds_66 : decode cX6_kinds 66 = .ok (.iastore, 1) := by decide +kernel
theorem dX6_kinds_67 : decode cX6_kinds 67 = .ok (.iload_n 3, 1) := by decide +kernel
theorem dX6_kinds_68 : decode cX6_kinds 68 = .ok (.ireturn, 1) := by decide +kernel
theorem dX6_streams_0 : decode cX6_streams 0 = .ok (.aload_n 0, 1) := by decide +kernel
theorem dX6_streams_1 : decode cX6_streams 1 = .ok (.getfield 74, 3) := by decide +kernel
theorem dX6_streams_4 : decode cX6_streams 4 = .ok (.ifCond .ne 6, 3) := by decide +kernel
theorem dX6_streams_7 : decode cX6_streams 7 = .ok (.bipush (-3), 2) := by decide +kernel
theorem dX6_streams_9 : decode cX6_streams 9 = .ok (.ireturn, 1) := by decide +kernel
theorem dX6_streams_10 : decode cX6_streams 10 = .ok (.aload_n 0, 1) := by decide +kernel
theorem dX6_streams_11 : decode cX6_streams 11 = .ok (.getfield 107, 3) := by decide +kernel
theorem dX6_streams_14 : decode cX6_streams 14 = .ok (.istore_n 1, 1) := by decide +kernel
theorem dX6_streams_15 : decode cX6_streams 15 = .ok (.iconst 0, 1) := by decide +kernel
theorem dX6_streams_16 : decode cX6_streams 16 = .ok (.istore_n 2, 1) := by decide +kernel
theorem dX6_streams_17 : decode cX6_streams 17 = .ok (.iconst 1, 1) := by decide +kernel
theorem dX6_streams_18 : decode cX6_streams 18 = .ok (.istore_n 3, 1) := by decide +kernel
theorem dX6_streams_19 : decode cX6_streams 19 = .ok (.iload_n 3, 1) := by decide +kernel
theorem dX6_streams_20 : decode cX6_streams 20 = .ok (.iconst 3, 1) := by decide +kernel
theorem dX6_streams_21 : decode cX6_streams 21 = .ok (.if_icmp .gt 31, 3) := by decide +kernel
theorem dX6_streams_24 : decode cX6_streams 24 = .ok (.aload_n 0, 1) := by decide +kernel
theorem dX6_streams_25 : decode cX6_streams 25 = .ok (.iload_n 3, 1) := by decide +kernel
theorem dX6_streams_26 : decode cX6_streams 26 = .ok (.putfield 107, 3) := by decide +kernel
theorem dX6_streams_29 : decode cX6_streams 29 = .ok (.iload_n 2, 1) := by decide +kernel
theorem dX6_streams_30 : decode cX6_streams 30 = .ok (.aload_n 0, 1) := by decide +kernel
theorem dX6_streams_31 : decode cX6_streams 31 = .ok (.invokevirtual 215, 3) := by decide +kernel
theorem dX6_streams_34 : decode cX6_streams 34 = .ok (.ifCond .eq 9, 3) := by decide +kernel
theorem dX6_streams_37 : decode cX6_streams 37 = .ok (.iconst 1, 1) := by decide +kernel
theorem dX6_streams_38 : decode cX6_streams 38 = .ok (.iload_n 3, 1) := by decide +kernel
theorem dX6_streams_39 : decode cX6_streams 39 = .ok (.ishl, 1) := by decide +kernel
theorem dX6_streams_40 : decode cX6_streams 40 = .ok (.goto 4, 3) := by decide +kernel
theorem dX6_streams_43 : decode cX6_streams 43 = .ok (.iconst 0, 1) := by decide +kernel
theorem dX6_streams_44 : decode cX6_streams 44 = .ok (.ior, 1) := by decide +kernel
theorem dX6_streams_45 : decode cX6_streams 45 = .ok (.istore_n 2, 1) := by decide +kernel
theorem dX6_streams_46 : decode cX6_streams 46 = .ok (.iinc 3 1, 3) := by decide +kernel
theorem dX6_streams_49 : decode cX6_streams 49 = .ok (.goto (-30), 3) := by decide +kernel
theorem dX6_streams_52 : decode cX6_streams 52 = .ok (.aload_n 0, 1) := by decide +kernel
theorem dX6_streams_53 : decode cX6_streams 53 = .ok (.iload_n 1, 1) := by decide +kernel
theorem dX6_streams_54 : decode cX6_streams 54 = .ok (.putfield 107, 3) := by decide +kernel
theorem dX6_streams_57 : decode cX6_streams 57 = .ok (.iload_n 2, 1) := by decide +kernel
theorem dX6_streams_58 : decode cX6_streams 58 = .ok (.ireturn, 1) := by decide +kernel
theorem dX6_inLeastTerms_0 : decode cX6_inLeastTerms 0 = .ok (.lload_n 0, 1) := by decide +kernel
theorem dX6_inLeastTerms_1 : decode cX6_inLeastTerms 1 = .ok (.lstore 5, 2) := by decide +kernel
theorem dX6_inLeastTerms_3 : decode cX6_inLeastTerms 3 = .ok (.lload_n 2, 1) := by decide +kernel
theorem dX6_inLeastTerms_4 : decode cX6_inLeastTerms 4 = .ok (.lstore 7, 2) := by decide +kernel
theorem dX6_inLeastTerms_6 : decode cX6_inLeastTerms 6 = .ok (.lload 7, 2) := by decide +kernel
theorem dX6_inLeastTerms_8 : decode cX6_inLeastTerms 8 = .ok (.lconst 0, 1) := by decide +kernel
theorem dX6_inLeastTerms_9 : decode cX6_inLeastTerms 9 = .ok (.lcmp, 1) := by decide +kernel
theorem dX6_inLeastTerms_10 : decode cX6_inLeastTerms 10 = .ok (.ifCond .eq 21, 3) := by decide +kernel
theorem dX6_inLeastTerms_13 : decode cX6_inLeastTerms 13 = .ok (.lload 5, 2) := by decide +kernel
theorem dX6_inLeastTerms_15 : decode cX6_inLeastTerms 15 = .ok (.lload 7, 2) := by decide +kernel
theorem dX6_inLeastTerms_17 : decode cX6_inLeastTerms 17 = .ok (.lrem, 1) := by decide +kernel
theorem dX6_inLeastTerms_18 : decode cX6_inLeastTerms 18 = .ok (.lstore 9, 2) := by decide +kernel
theorem dX6_inLeastTerms_20 : decode cX6_inLeastTerms 20 = .ok (.lload 7, 2) := by decide +kernel
theorem dX6_inLeastTerms_22 : decode cX6_inLeastTerms 22 = .ok (.lstore 5, 2) := by decide +kernel
theorem dX6_inLeastTerms_24 : decode cX6_inLeastTerms 24 = .ok (.lload 9, 2) := by decide +kernel
theorem dX6_inLeastTerms_26 : decode cX6_inLeastTerms 26 = .ok (.lstore 7, 2) := by decide +kernel
theorem dX6_inLeastTerms_28 : decode cX6_inLeastTerms 28 = .ok (.goto (-22), 3) := by decide +kernel
theorem dX6_inLeastTerms_31 : decode cX6_inLeastTerms 31 = .ok (.iload 4, 2) := by decide +kernel
theorem dX6_inLeastTerms_33 : decode cX6_inLeastTerms 33 = .ok (.ifCond .ne 10, 3) := by decide +kernel
theorem dX6_inLeastTerms_36 : decode cX6_inLeastTerms 36 = .ok (.lload_n 0, 1) := by decide +kernel
theorem dX6_inLeastTerms_37 : decode cX6_inLeastTerms 37 = .ok (.lload 5, 2) := by decide +kernel
theorem dX6_inLeastTerms_39 : decode cX6_inLeastTerms 39 = .ok (.ldiv, 1) := by decide +kernel
theorem dX6_inLeastTerms_40 : decode cX6_inLeastTerms 40 = .ok (.goto 7, 3) := by decide +kernel
theorem dX6_inLeastTerms_43 : decode cX6_inLeastTerms 43 = .ok (.lload_n 2, 1) := by decide +kernel
theorem dX6_inLeastTerms_44 : decode cX6_inLeastTerms 44 = .ok (.lload 5, 2) := by decide +kernel
theorem dX6_inLeastTerms_46 : decode cX6_inLeastTerms 46 = .ok (.ldiv, 1) := by decide +kernel
theorem dX6_inLeastTerms_47 : decode cX6_inLeastTerms 47 = .ok (.lreturn, 1) := by decide +kernel
theorem dX6_odds_0 : decode cX6_odds 0 = .ok (.aload_n 0, 1) := by decide +kernel
theorem dX6_odds_1 : decode cX6_odds 1 = .ok (.iload_n 1, 1) := by decide +kernel
theorem dX6_odds_2 : decode cX6_odds 2 = .ok (.invokevirtual 154, 3) := by decide +kernel
theorem dX6_odds_5 : decode cX6_odds 5 = .ok (.ifCond .eq 20, 3) := by decide +kernel
theorem dX6_odds_8 : decode cX6_odds 8 = .ok (.aload_n 0, 1) := by decide +kernel
theorem dX6_odds_9 : decode cX6_odds 9 = .ok (.iload_n 2, 1) := by decide +kernel
theorem dX6_odds_10 : decode cX6_odds 10 = .ok (.invokevirtual 145, 3) := by decide +kernel
theorem dX6_odds_13 : decode cX6_odds 13 = .ok (.ifCond .eq 12, 3) := by decide +kernel
theorem dX6_odds_16 : decode cX6_odds 16 = .ok (.iload_n 3, 1) := by decide +kernel
theorem dX6_odds_17 : decode cX6_odds 17 = .ok (.iconst 0, 1) := by decide +kernel
theorem dX6_odds_18 : decode cX6_odds 18 = .ok (.iconst 1, 1) := by decide +kernel
theorem dX6_odds_19 : decode cX6_odds 19 = .ok (.invokestatic 70, 3) := by decide +kernel
theorem dX6_odds_22 : decode cX6_odds 22 = .ok (.ifCond .ne 7, 3) := by decide +kernel
theorem dX6_odds_25 : decode cX6_odds 25 = .ok (.ldc2_w 68, 3) := by decide +kernel
theorem dX6_odds_28 : decode cX6_odds 28 = .ok (.lreturn, 1) := by decide +kernel
theorem dX6_odds_29 : decode cX6_odds 29 = .ok (.aload_n 0, 1) := by decide +kernel
theorem dX6_odds_30 : decode cX6_odds 30 = .ok (.iload_n 1, 1) := by decide +kernel
theorem dX6_odds_31 : decode cX6_odds 31 = .ok (.invokevirtual 157, 3) := by decide +kernel
theorem dX6_odds_34 : decode cX6_odds 34 = .ok (.istore 4, 2) := by decide +kernel
theorem dX6_odds_36 : decode cX6_odds 36 = .ok (.iconst 0, 1) := by decide +kernel
theorem dX6_odds_37 : decode cX6_odds 37 = .ok (.istore 5, 2) := by decide +kernel
theorem dX6_odds_39 : decode cX6_odds 39 = .ok (.iconst 0, 1) := by decide +kernel
theorem dX6_odds_40 : decode cX6_odds 40 = .ok (.istore 6, 2) := by decide +kernel
theorem dX6_odds_42 : decode cX6_odds 42 = .ok (.iload 6, 2) := by decide +kernel
theorem dX6_odds_44 : decode cX6_odds 44 = .ok (.bipush 100, 2) := by decide +kernel
theorem dX6_odds_46 : decode cX6_odds 46 = .ok (.if_icmp .ge 55, 3) := by decide +kernel
theorem dX6_odds_49 : decode cX6_odds 49 = .ok (.aload_n 0, 1) := by decide +kernel
theorem dX6_odds_50 : decode cX6_odds 50 = .ok (.aload_n 0, 1) := by decide +kernel
theorem dX6_odds_51 : decode cX6_odds 51 = .ok (.getfield 28, 3) := by decide +kernel
theorem dX6_odds_54 : decode cX6_odds 54 = .ok (.iload_n 1, 1) := by decide +kernel
theorem dX6_odds_55 : decode cX6_odds 55 = .ok (.iaload, 1) := by decide +kernel
theorem dX6_odds_56 : decode cX6_odds 56 = .ok (.iload 4, 2) := by decide +kernel
theorem dX6_odds_58 : decode cX6_odds 58 = .ok (.iload 6, 2) := by decide +kernel
theorem dX6_odds_60 : decode cX6_odds 60 = .ok (.bipush 10, 2) := by decide +kernel
theorem dX6_odds_62 : decode cX6_odds 62 = .ok (.idiv, 1) := by decide +kernel
theorem dX6_odds_63 : decode cX6_odds 63 = .ok (.invokevirtual 166, 3) := by decide +kernel
theorem dX6_odds_66 : decode cX6_odds 66 = .ok (.istore 7, 2) := by decide +kernel
theorem dX6_odds_68 : decode cX6_odds 68 = .ok (.iload 5, 2) := by decide +kernel
theorem dX6_odds_70 : decode cX6_odds 70 = .ok (.aload_n 0, 1) := by decide +kernel
theorem dX6_odds_71 : decode cX6_odds 71 = .ok (.iload 7, 2) := by decide +kernel
theorem dX6_odds_73 : decode cX6_odds 73 = .ok (.iload 4, 2) := by decide +kernel
theorem dX6_odds_75 : decode cX6_odds 75 = .ok (.iload 6, 2) := by decide +kernel
theorem dX6_odds_77 : decode cX6_odds 77 = .ok (.bipush 10, 2) := by decide +kernel
theorem dX6_odds_79 : decode cX6_odds 79 = .ok (.irem, 1) := by decide +kernel
theorem dX6_odds_80 : decode cX6_odds 80 = .ok (.invokevirtual 166, 3) := by decide +kernel
theorem dX6_odds_83 : decode cX6_odds 83 = .ok (.iload_n 2, 1) := by decide +kernel
theorem dX6_odds_84 : decode cX6_odds 84 = .ok (.if_icmp .ne 7, 3) := by decide +kernel
theorem dX6_odds_87 : decode cX6_odds 87 = .ok (.iconst 1, 1) := by decide +kernel
theorem dX6_odds_88 : decode cX6_odds 88 = .ok (.goto 4, 3) := by decide +kernel
theorem dX6_odds_91 : decode cX6_odds 91 = .ok (.iconst 0, 1) := by decide +kernel
theorem dX6_odds_92 : decode cX6_odds 92 = .ok (.iadd, 1) := by decide +kernel
theorem dX6_odds_93 : decode cX6_odds 93 = .ok (.istore 5, 2) := by decide +kernel
theorem dX6_odds_95 : decode cX6_odds 95 = .ok (.iinc 6 1, 3) := by decide +kernel
theorem dX6_odds_98 : decode cX6_odds 98 = .ok (.goto (-56), 3) := by decide +kernel
theorem dX6_odds_101 : decode cX6_odds 101 = .ok (.iload 5, 2) := by decide +kernel
theorem dX6_odds_103 : decode cX6_odds 103 = .ok (.i2l, 1) := by decide +kernel
theorem dX6_odds_104 : decode cX6_odds 104 = .ok (.ldc2_w 219, 3) := by decide +kernel
theorem dX6_odds_107 : decode cX6_odds 107 = .ok (.iload_n 3, 1) := by decide +kernel
theorem dX6_odds_108 : decode cX6_odds 108 = .ok (.invokestatic 221, 3) := by decide +kernel
theorem dX6_odds_111 : decode cX6_odds 111 = .ok (.lreturn, 1) := by decide +kernel
theorem dX6_sheet_0 : decode cX6_sheet 0 = .ok (.aload_n 0, 1) := by decide +kernel
theorem dX6_sheet_1 : decode cX6_sheet 1 = .ok (.iconst 0, 1) := by decide +kernel
theorem dX6_sheet_2 : decode cX6_sheet 2 = .ok (.putfield 64, 3) := by decide +kernel
theorem dX6_sheet_5 : decode cX6_sheet 5 = .ok (.iload_n 1, 1) := by decide +kernel
theorem dX6_sheet_6 : decode cX6_sheet 6 = .ok (.invokestatic 83, 3) := by decide +kernel
theorem dX6_sheet_9 : decode cX6_sheet 9 = .ok (.ifCond .ne 5, 3) := by decide +kernel
theorem dX6_sheet_12 : decode cX6_sheet 12 = .ok (.iconst (-1), 1) := by decide +kernel
theorem dX6_sheet_13 : decode cX6_sheet 13 = .ok (.ireturn, 1) := by decide +kernel
theorem dX6_sheet_14 : decode cX6_sheet 14 = .ok (.iload_n 2, 1) := by decide +kernel
theorem dX6_sheet_15 : decode cX6_sheet 15 = .ok (.invokestatic 87, 3) := by decide +kernel
theorem dX6_sheet_18 : decode cX6_sheet 18 = .ok (.ifCond .eq 9, 3) := by decide +kernel
theorem dX6_sheet_21 : decode cX6_sheet 21 = .ok (.iload_n 3, 1) := by decide +kernel
theorem dX6_sheet_22 : decode cX6_sheet 22 = .ok (.bipush 60, 2) := by decide +kernel
theorem dX6_sheet_24 : decode cX6_sheet 24 = .ok (.if_icmp .le 6, 3) := by decide +kernel
theorem dX6_sheet_27 : decode cX6_sheet 27 = .ok (.bipush (-2), 2) := by decide +kernel
theorem dX6_sheet_29 : decode cX6_sheet 29 = .ok (.ireturn, 1) := by decide +kernel
theorem dX6_sheet_30 : decode cX6_sheet 30 = .ok (.iload_n 3, 1) := by decide +kernel
theorem dX6_sheet_31 : decode cX6_sheet 31 = .ok (.ifCond .ge 9, 3) := by decide +kernel
theorem dX6_sheet_34 : decode cX6_sheet 34 = .ok (.aload_n 0, 1) := by decide +kernel
theorem dX6_sheet_35 : decode cX6_sheet 35 = .ok (.iconst 4, 1) := by decide +kernel
theorem dX6_sheet_36 : decode cX6_sheet 36 = .ok (.invokevirtual 94, 3) := by decide +kernel
theorem dX6_sheet_39 : decode cX6_sheet 39 = .ok (.ireturn, 1) := by decide +kernel
theorem dX6_sheet_40 : decode cX6_sheet 40 = .ok (.aload_n 0, 1) := by decide +kernel
theorem dX6_sheet_41 : decode cX6_sheet 41 = .ok (.getfield 9, 3) := by decide +kernel
theorem dX6_sheet_44 : decode cX6_sheet 44 = .ok (.iload_n 1, 1) := by decide +kernel
theorem dX6_sheet_45 : decode cX6_sheet 45 = .ok (.iload_n 2, 1) := by decide +kernel
theorem dX6_sheet_46 : decode cX6_sheet 46 = .ok (.iastore, 1) := by decide +kernel
theorem dX6_sheet_47 : decode cX6_sheet 47 = .ok (.aload_n 0, 1) := by decide +kernel
theorem dX6_sheet_48 : decode cX6_sheet 48 = .ok (.getfield 13, 3) := by decide +kernel
theorem dX6_sheet_51 : decode cX6_sheet 51 = .ok (.iload_n 1, 1) := by decide +kernel
theorem dX6_sheet_52 : decode cX6_sheet 52 = .ok (.iload_n 3, 1) := by decide +kernel
theorem dX6_sheet_53 : decode cX6_sheet 53 = .ok (.iastore, 1) := by decide +kernel
theorem dX6_sheet_54 : decode cX6_sheet 54 = .ok (.iconst 0, 1) := by decide +kernel
theorem dX6_sheet_55 : decode cX6_sheet 55 = .ok (.istore 4, 2) := by decide +kernel
theorem dX6_sheet_57 : decode cX6_sheet 57 = .ok (.iload 4, 2) := by decide +kernel
theorem dX6_sheet_59 : decode cX6_sheet 59 = .ok (.bipush 60, 2) := by decide +kernel
theorem dX6_sheet_61 : decode cX6_sheet 61 = .ok (.if_icmp .ge 22, 3) := by decide +kernel
theorem dX6_sheet_64 : decode cX6_sheet 64 = .ok (.aload_n 0, 1) := by decide +kernel
theorem dX6_sheet_65 : decode cX6_sheet 65 = .ok (.getfield 16, 3) := by decide +kernel
theorem dX6_sheet_68 : decode cX6_sheet 68 = .ok (.bipush 60, 2) := by decide +kernel
theorem dX6_sheet_70 : decode cX6_sheet 70 = .ok (.iload_n 1, 1) := by decide +kernel
theorem dX6_sheet_71 : decode cX6_sheet 71 = .ok (.imul, 1) := by decide +kernel
theorem dX6_sheet_72 : decode cX6_sheet 72 = .ok (.iload 4, 2) := by decide +kernel
theorem dX6_sheet_74 : decode cX6_sheet 74 = .ok (.iadd, 1) := by decide +kernel
theorem dX6_sheet_75 : decode cX6_sheet 75 = .ok (.iconst 0, 1) := by decide +kernel
theorem dX6_sheet_76 : decode cX6_sheet 76 = .ok (.iastore, 1) := by decide +kernel
theorem dX6_sheet_77 : decode cX6_sheet 77 = .ok (.iinc 4 1, 3) := by decide +kernel
theorem dX6_sheet_80 : decode cX6_sheet 80 = .ok (.goto (-23), 3) := by decide +kernel
theorem dX6_sheet_83 : decode cX6_sheet 83 = .ok (.iconst 1, 1) := by decide +kernel
theorem dX6_sheet_84 : decode cX6_sheet 84 = .ok (.ireturn, 1) := by decide +kernel
theorem dX6_lose_0 : decode cX6_lose 0 = .ok (.iload_n 1, 1) := by decide +kernel
theorem dX6_lose_1 : decode cX6_lose 1 = .ok (.invokestatic 83, 3) := by decide +kernel
theorem dX6_lose_4 : decode cX6_lose 4 = .ok (.ifCond .ne 5, 3) := by decide +kernel
theorem dX6_lose_7 : decode cX6_lose 7 = .ok (.iconst (-1), 1) := by decide +kernel
theorem dX6_lose_8 : decode cX6_lose 8 = .ok (.ireturn, 1) := by decide +kernel
theorem dX6_lose_9 : decode cX6_lose 9 = .ok (.aload_n 0, 1) := by decide +kernel
theorem dX6_lose_10 : decode cX6_lose 10 = .ok (.getfield 9, 3) := by decide +kernel
theorem dX6_lose_13 : decode cX6_lose 13 = .ok (.iload_n 1, 1) := by decide +kernel
theorem dX6_lose_14 : decode cX6_lose 14 = .ok (.iaload, 1) := by decide +kernel
theorem dX6_lose_15 : decode cX6_lose 15 = .ok (.bipush (-9), 2) := by decide +kernel
theorem dX6_lose_17 : decode cX6_lose 17 = .ok (.if_icmp .ne 7, 3) := by decide +kernel
theorem dX6_lose_20 : decode cX6_lose 20 = .ok (.iconst 0, 1) := by decide +kernel
theorem dX6_lose_21 : decode cX6_lose 21 = .ok (.goto 4, 3) := by decide +kernel
theorem dX6_lose_24 : decode cX6_lose 24 = .ok (.iconst 1, 1) := by decide +kernel
theorem dX6_lose_25 : decode cX6_lose 25 = .ok (.istore_n 2, 1) := by decide +kernel
theorem dX6_lose_26 : decode cX6_lose 26 = .ok (.aload_n 0, 1) := by decide +kernel
theorem dX6_lose_27 : decode cX6_lose 27 = .ok (.getfield 9, 3) := by decide +kernel
theorem dX6_lose_30 : decode cX6_lose 30 = .ok (.iload_n 1, 1) := by decide +kernel
theorem dX6_lose_31 : decode cX6_lose 31 = .ok (.bipush (-9), 2) := by decide +kernel
theorem dX6_lose_33 : decode cX6_lose 33 = .ok (.iastore, 1) := by decide +kernel
theorem dX6_lose_34 : decode cX6_lose 34 = .ok (.iload_n 2, 1) := by decide +kernel
theorem dX6_lose_35 : decode cX6_lose 35 = .ok (.ireturn, 1) := by decide +kernel
theorem dX6_put_0 : decode cX6_put 0 = .ok (.aload_n 0, 1) := by decide +kernel
theorem dX6_put_1 : decode cX6_put 1 = .ok (.iconst 0, 1) := by decide +kernel
theorem dX6_put_2 : decode cX6_put 2 = .ok (.putfield 64, 3) := by decide +kernel
theorem dX6_put_5 : decode cX6_put 5 = .ok (.iload_n 1, 1) := by decide +kernel
theorem dX6_put_6 : decode cX6_put 6 = .ok (.invokestatic 83, 3) := by decide +kernel
theorem dX6_put_9 : decode cX6_put 9 = .ok (.ifCond .ne 5, 3) := by decide +kernel
theorem dX6_put_12 : decode cX6_put 12 = .ok (.iconst (-1), 1) := by decide +kernel
theorem dX6_put_13 : decode cX6_put 13 = .ok (.ireturn, 1) := by decide +kernel
theorem dX6_put_14 : decode cX6_put 14 = .ok (.aload_n 0, 1) := by decide +kernel
theorem dX6_put_15 : decode cX6_put 15 = .ok (.getfield 9, 3) := by decide +kernel
theorem dX6_put_18 : decode cX6_put 18 = .ok (.iload_n 1, 1) := by decide +kernel
theorem dX6_put_19 : decode cX6_put 19 = .ok (.iaload, 1) := by decide +kernel
theorem dX6_put_20 : decode cX6_put 20 = .ok (.bipush (-9), 2) := by decide +kernel
theorem dX6_put_22 : decode cX6_put 22 = .ok (.if_icmp .ne 9, 3) := by decide +kernel
theorem dX6_put_25 : decode cX6_put 25 = .ok (.aload_n 0, 1) := by decide +kernel
theorem dX6_put_26 : decode cX6_put 26 = .ok (.iconst 1, 1) := by decide +kernel
theorem dX6_put_27 : decode cX6_put 27 = .ok (.invokevirtual 94, 3) := by decide +kernel
theorem dX6_put_30 : decode cX6_put 30 = .ok (.ireturn, 1) := by decide +kernel
theorem dX6_put_31 : decode cX6_put 31 = .ok (.iload_n 2, 1) := by decide +kernel
theorem dX6_put_32 : decode cX6_put 32 = .ok (.iconst 0, 1) := by decide +kernel
theorem dX6_put_33 : decode cX6_put 33 = .ok (.aload_n 0, 1) := by decide +kernel
theorem dX6_put_34 : decode cX6_put 34 = .ok (.getfield 13, 3) := by decide +kernel
theorem dX6_put_37 : decode cX6_put 37 = .ok (.iload_n 1, 1) := by decide +kernel
theorem dX6_put_38 : decode cX6_put 38 = .ok (.iaload, 1) := by decide +kernel
theorem dX6_put_39 : decode cX6_put 39 = .ok (.iconst 1, 1) := by decide +kernel
theorem dX6_put_40 : decode cX6_put 40 = .ok (.isub, 1) := by decide +kernel
theorem dX6_put_41 : decode cX6_put 41 = .ok (.invokestatic 70, 3) := by decide +kernel
theorem dX6_put_44 : decode cX6_put 44 = .ok (.ifCond .ne 9, 3) := by decide +kernel
theorem dX6_put_47 : decode cX6_put 47 = .ok (.aload_n 0, 1) := by decide +kernel
theorem dX6_put_48 : decode cX6_put 48 = .ok (.iconst 3, 1) := by decide +kernel
theorem dX6_put_49 : decode cX6_put 49 = .ok (.invokevirtual 94, 3) := by decide +kernel
theorem dX6_put_52 : decode cX6_put 52 = .ok (.ireturn, 1) := by decide +kernel
theorem dX6_put_53 : decode cX6_put 53 = .ok (.aload_n 0, 1) := by decide +kernel
theorem dX6_put_54 : decode cX6_put 54 = .ok (.getfield 16, 3) := by decide +kernel
theorem dX6_put_57 : decode cX6_put 57 = .ok (.bipush 60, 2) := by decide +kernel
theorem dX6_put_59 : decode cX6_put 59 = .ok (.iload_n 1, 1) := by decide +kernel
theorem dX6_put_60 : decode cX6_put 60 = .ok (.imul, 1) := by decide +kernel
theorem dX6_put_61 : decode cX6_put 61 = .ok (.iload_n 2, 1) := by decide +kernel
theorem dX6_put_62 : decode cX6_put 62 = .ok (.iadd, 1) := by decide +kernel
theorem dX6_put_63 : decode cX6_put 63 = .ok (.aload_n 0, 1) := by decide +kernel
theorem dX6_put_64 : decode cX6_put 64 = .ok (.getfield 9, 3) := by decide +kernel
theorem dX6_put_67 : decode cX6_put 67 = .ok (.iload_n 1, 1) := by decide +kernel
theorem dX6_put_68 : decode cX6_put 68 = .ok (.iaload, 1) := by decide +kernel
theorem dX6_put_69 : decode cX6_put 69 = .ok (.ifCond .ne 8, 3) := by decide +kernel
theorem dX6_put_72 : decode cX6_put 72 = .ok (.iload_n 3, 1) := by decide +kernel
theorem dX6_put_73 : decode cX6_put 73 = .ok (.i2b, 1) := by decide +kernel
theorem dX6_put_74 : decode cX6_put 74 = .ok (.goto 19, 3) := by decide +kernel
theorem dX6_put_77 : decode cX6_put 77 = .ok (.aload_n 0, 1) := by decide +kernel
theorem dX6_put_78 : decode cX6_put 78 = .ok (.getfield 9, 3) := by decide +kernel
theorem dX6_put_81 : decode cX6_put 81 = .ok (.iload_n 1, 1) := by decide +kernel
theorem dX6_put_82 : decode cX6_put 82 = .ok (.iaload, 1) := by decide +kernel
theorem dX6_put_83 : decode cX6_put 83 = .ok (.iconst 1, 1) := by decide +kernel
theorem dX6_put_84 : decode cX6_put 84 = .ok (.if_icmp .ne 8, 3) := by decide +kernel
theorem dX6_put_87 : decode cX6_put 87 = .ok (.iload_n 3, 1) := by decide +kernel
theorem dX6_put_88 : decode cX6_put 88 = .ok (.i2s, 1) := by decide +kernel
theorem dX6_put_89 : decode cX6_put 89 = .ok (.goto 4, 3) := by decide +kernel
theorem dX6_put_92 : decode cX6_put 92 = .ok (.iload_n 3, 1) := by decide +kernel
theorem dX6_put_93 : decode cX6_put 93 = .ok (.iastore, 1) := by decide +kernel
theorem dX6_put_94 : decode cX6_put 94 = .ok (.iconst 1, 1) := by decide +kernel
theorem dX6_put_95 : decode cX6_put 95 = .ok (.ireturn, 1) := by decide +kernel
theorem dX6_cell_0 : decode cX6_cell 0 = .ok (.aload_n 0, 1) := by decide +kernel
theorem dX6_cell_1 : decode cX6_cell 1 = .ok (.iconst 0, 1) := by decide +kernel
theorem dX6_cell_2 : decode cX6_cell 2 = .ok (.putfield 64, 3) := by decide +kernel
theorem dX6_cell_5 : decode cX6_cell 5 = .ok (.iload_n 1, 1) := by decide +kernel
theorem dX6_cell_6 : decode cX6_cell 6 = .ok (.invokestatic 83, 3) := by decide +kernel
theorem dX6_cell_9 : decode cX6_cell 9 = .ok (.ifCond .eq 10, 3) := by decide +kernel
theorem dX6_cell_12 : decode cX6_cell 12 = .ok (.iload_n 3, 1) := by decide +kernel
theorem dX6_cell_13 : decode cX6_cell 13 = .ok (.invokestatic 87, 3) := by decide +kernel
theorem dX6_cell_16 : decode cX6_cell 16 = .ok (.ifCond .ne 7, 3) := by decide +kernel
theorem dX6_cell_19 : decode cX6_cell 19 = .ok (.ldc2_w 68, 3) := by decide +kernel
theorem dX6_cell_22 : decode cX6_cell 22 = .ok (.lreturn, 1) := by decide +kernel
theorem dX6_cell_23 : decode cX6_cell 23 = .ok (.aload_n 0, 1) := by decide +kernel
theorem dX6_cell_24 : decode cX6_cell 24 = .ok (.getfield 9, 3) := by decide +kernel
theorem dX6_cell_27 : decode cX6_cell 27 = .ok (.iload_n 1, 1) := by decide +kernel
theorem dX6_cell_28 : decode cX6_cell 28 = .ok (.iaload, 1) := by decide +kernel
theorem dX6_cell_29 : decode cX6_cell 29 = .ok (.bipush (-9), 2) := by decide +kernel
theorem dX6_cell_31 : decode cX6_cell 31 = .ok (.if_icmp .eq 19, 3) := by decide +kernel
theorem dX6_cell_34 : decode cX6_cell 34 = .ok (.aload_n 0, 1) := by decide +kernel
theorem dX6_cell_35 : decode cX6_cell 35 = .ok (.getfield 9, 3) := by decide +kernel
theorem dX6_cell_38 : decode cX6_cell 38 = .ok (.iload_n 1, 1) := by decide +kernel
theorem dX6_cell_39 : decode cX6_cell 39 = .ok (.iaload, 1) := by decide +kernel
theorem dX6_cell_40 : decode cX6_cell 40 = .ok (.iload_n 3, 1) := by decide +kernel
theorem dX6_cell_41 : decode cX6_cell 41 = .ok (.if_icmp .eq 9, 3) := by decide +kernel
theorem dX6_cell_44 : decode cX6_cell 44 = .ok (.aload_n 0, 1) := by decide +kernel
theorem dX6_cell_45 : decode cX6_cell 45 = .ok (.iconst 2, 1) := by decide +kernel
theorem dX6_cell_46 : decode cX6_cell 46 = .ok (.invokevirtual 225, 3) := by decide +kernel
theorem dX6_cell_49 : decode cX6_cell 49 = .ok (.lreturn, 1) := by decide +kernel
theorem dX6_cell_50 : decode cX6_cell 50 = .ok (.aload_n 0, 1) := by decide +kernel
theorem dX6_cell_51 : decode cX6_cell 51 = .ok (.getfield 9, 3) := by decide +kernel
theorem dX6_cell_54 : decode cX6_cell 54 = .ok (.iload_n 1, 1) := by decide +kernel
theorem dX6_cell_55 : decode cX6_cell 55 = .ok (.iaload, 1) := by decide +kernel
theorem dX6_cell_56 : decode cX6_cell 56 = .ok (.bipush (-9), 2) := by decide +kernel
theorem dX6_cell_58 : decode cX6_cell 58 = .ok (.if_icmp .ne 9, 3) := by decide +kernel
theorem dX6_cell_61 : decode cX6_cell 61 = .ok (.aload_n 0, 1) := by decide +kernel
theorem dX6_cell_62 : decode cX6_cell 62 = .ok (.iconst 1, 1) := by decide +kernel
theorem dX6_cell_63 : decode cX6_cell 63 = .ok (.invokevirtual 225, 3) := by decide +kernel
theorem dX6_cell_66 : decode cX6_cell 66 = .ok (.lreturn, 1) := by decide +kernel
theorem dX6_cell_67 : decode cX6_cell 67 = .ok (.iload_n 2, 1) := by decide +kernel
theorem dX6_cell_68 : decode cX6_cell 68 = .ok (.iconst 0, 1) := by decide +kernel
theorem dX6_cell_69 : decode cX6_cell 69 = .ok (.aload_n 0, 1) := by decide +kernel
theorem dX6_cell_70 : decode cX6_cell 70 = .ok (.getfield 13, 3) := by decide +kernel
theorem dX6_cell_73 : decode cX6_cell 73 = .ok (.iload_n 1, 1) := by decide +kernel
theorem dX6_cell_74 : decode cX6_cell 74 = .ok (.iaload, 1) := by decide +kernel
theorem dX6_cell_75 : decode cX6_cell 75 = .ok (.iconst 1, 1) := by decide +kernel
theorem dX6_cell_76 : decode cX6_cell 76 = .ok (.isub, 1) := by decide +kernel
theorem dX6_cell_77 : decode cX6_cell 77 = .ok (.invokestatic 70, 3) := by decide +kernel
theorem dX6_cell_80 : decode cX6_cell 80 = .ok (.ifCond .ne 9, 3) := by decide +kernel
theorem dX6_cell_83 : decode cX6_cell 83 = .ok (.aload_n 0, 1) := by decide +kernel
theorem dX6_cell_84 : decode cX6_cell 84 = .ok (.iconst 3, 1) := by decide +kernel
theorem dX6_cell_85 : decode cX6_cell 85 = .ok (.invokevirtual 225, 3) := by decide +kernel
theorem dX6_cell_88 : decode cX6_cell 88 = .ok (.lreturn, 1) := by decide +kernel
theorem dX6_cell_89 : decode cX6_cell 89 = .ok (.aload_n 0, 1) := by decide +kernel
theorem dX6_cell_90 : decode cX6_cell 90 = .ok (.getfield 16, 3) := by decide +kernel
theorem dX6_cell_93 : decode cX6_cell 93 = .ok (.bipush 60, 2) := by decide +kernel
theorem dX6_cell_95 : decode cX6_cell 95 = .ok (.iload_n 1, 1) := by decide +kernel
theorem dX6_cell_96 : decode cX6_cell 96 = .ok (.imul, 1) := by decide +kernel
theorem dX6_cell_97 : decode cX6_cell 97 = .ok (.iload_n 2, 1) := by decide +kernel
theorem dX6_cell_98 : decode cX6_cell 98 = .ok (.iadd, 1) := by decide +kernel
theorem dX6_cell_99 : decode cX6_cell 99 = .ok (.iaload, 1) := by decide +kernel
theorem dX6_cell_100 : decode cX6_cell 100 = .ok (.i2l, 1) := by decide +kernel
theorem dX6_cell_101 : decode cX6_cell 101 = .ok (.lreturn, 1) := by decide +kernel
theorem dX6_copy_0 : decode cX6_copy 0 = .ok (.aload_n 0, 1) := by decide +kernel
theorem dX6_copy_1 : decode cX6_copy 1 = .ok (.iconst 0, 1) := by decide +kernel
theorem dX6_copy_2 : decode cX6_copy 2 = .ok (.putfield 64, 3) := by decide +kernel
theorem dX6_copy_5 : decode cX6_copy 5 = .ok (.iload_n 1, 1) := by decide +kernel
theorem dX6_copy_6 : decode cX6_copy 6 = .ok (.invokestatic 83, 3) := by decide +kernel
theorem dX6_copy_9 : decode cX6_copy 9 = .ok (.ifCond .eq 10, 3) := by decide +kernel
theorem dX6_copy_12 : decode cX6_copy 12 = .ok (.iload_n 3, 1) := by decide +kernel
theorem dX6_copy_13 : decode cX6_copy 13 = .ok (.invokestatic 83, 3) := by decide +kernel
theorem dX6_copy_16 : decode cX6_copy 16 = .ok (.ifCond .ne 5, 3) := by decide +kernel
theorem dX6_copy_19 : decode cX6_copy 19 = .ok (.iconst (-1), 1) := by decide +kernel
theorem dX6_copy_20 : decode cX6_copy 20 = .ok (.ireturn, 1) := by decide +kernel
theorem dX6_copy_21 : decode cX6_copy 21 = .ok (.aload_n 0, 1) := by decide +kernel
theorem dX6_copy_22 : decode cX6_copy 22 = .ok (.getfield 9, 3) := by decide +kernel
theorem dX6_copy_25 : decode cX6_copy 25 = .ok (.iload_n 1, 1) := by decide +kernel
theorem dX6_copy_26 : decode cX6_copy 26 = .ok (.iaload, 1) := by decide +kernel
theorem dX6_copy_27 : decode cX6_copy 27 = .ok (.bipush (-9), 2) := by decide +kernel
theorem dX6_copy_29 : decode cX6_copy 29 = .ok (.if_icmp .eq 14, 3) := by decide +kernel
theorem dX6_copy_32 : decode cX6_copy 32 = .ok (.aload_n 0, 1) := by decide +kernel
theorem dX6_copy_33 : decode cX6_copy 33 = .ok (.getfield 9, 3) := by decide +kernel
theorem dX6_copy_36 : decode cX6_copy 36 = .ok (.iload_n 3, 1) := by decide +kernel
theorem dX6_copy_37 : decode cX6_copy 37 = .ok (.iaload, 1) := by decide +kernel
theorem dX6_copy_38 : decode cX6_copy 38 = .ok (.bipush (-9), 2) := by decide +kernel
theorem dX6_copy_40 : decode cX6_copy 40 = .ok (.if_icmp .ne 9, 3) := by decide +kernel
theorem dX6_copy_43 : decode cX6_copy 43 = .ok (.aload_n 0, 1) := by decide +kernel
theorem dX6_copy_44 : decode cX6_copy 44 = .ok (.iconst 1, 1) := by decide +kernel
theorem dX6_copy_45 : decode cX6_copy 45 = .ok (.invokevirtual 94, 3) := by decide +kernel
theorem dX6_copy_48 : decode cX6_copy 48 = .ok (.ireturn, 1) := by decide +kernel
theorem dX6_copy_49 : decode cX6_copy 49 = .ok (.aload_n 0, 1) := by decide +kernel
theorem dX6_copy_50 : decode cX6_copy 50 = .ok (.getfield 9, 3) := by decide +kernel
theorem dX6_copy_53 : decode cX6_copy 53 = .ok (.iload_n 1, 1) := by decide +kernel
theorem dX6_copy_54 : decode cX6_copy 54 = .ok (.iaload, 1) := by decide +kernel
theorem dX6_copy_55 : decode cX6_copy 55 = .ok (.aload_n 0, 1) := by decide +kernel
theorem dX6_copy_56 : decode cX6_copy 56 = .ok (.getfield 9, 3) := by decide +kernel
theorem dX6_copy_59 : decode cX6_copy 59 = .ok (.iload_n 3, 1) := by decide +kernel
theorem dX6_copy_60 : decode cX6_copy 60 = .ok (.iaload, 1) := by decide +kernel
theorem dX6_copy_61 : decode cX6_copy 61 = .ok (.if_icmp .eq 9, 3) := by decide +kernel
theorem dX6_copy_64 : decode cX6_copy 64 = .ok (.aload_n 0, 1) := by decide +kernel
theorem dX6_copy_65 : decode cX6_copy 65 = .ok (.iconst 2, 1) := by decide +kernel
theorem dX6_copy_66 : decode cX6_copy 66 = .ok (.invokevirtual 94, 3) := by decide +kernel
theorem dX6_copy_69 : decode cX6_copy 69 = .ok (.ireturn, 1) := by decide +kernel
theorem dX6_copy_70 : decode cX6_copy 70 = .ok (.iload_n 2, 1) := by decide +kernel
theorem dX6_copy_71 : decode cX6_copy 71 = .ok (.ifCond .lt 38, 3) := by decide +kernel
theorem dX6_copy_74 : decode cX6_copy 74 = .ok (.iload 4, 2) := by decide +kernel
theorem dX6_copy_76 : decode cX6_copy 76 = .ok (.ifCond .lt 33, 3) := by decide +kernel
theorem dX6_copy_79 : decode cX6_copy 79 = .ok (.iload 5, 2) := by decide +kernel
theorem dX6_copy_81 : decode cX6_copy 81 = .ok (.ifCond .lt 28, 3) := by decide +kernel
theorem dX6_copy_84 : decode cX6_copy 84 = .ok (.iload_n 2, 1) := by decide +kernel
theorem dX6_copy_85 : decode cX6_copy 85 = .ok (.aload_n 0, 1) := by decide +kernel
theorem dX6_copy_86 : decode cX6_copy 86 = .ok (.getfield 13, 3) := by decide +kernel
theorem dX6_copy_89 : decode cX6_copy 89 = .ok (.iload_n 1, 1) := by decide +kernel
theorem dX6_copy_90 : decode cX6_copy 90 = .ok (.iaload, 1) := by decide +kernel
theorem dX6_copy_91 : decode cX6_copy 91 = .ok (.if_icmp .gt 18, 3) := by decide +kernel
theorem dX6_copy_94 : decode cX6_copy 94 = .ok (.iload 4, 2) := by decide +kernel
theorem dX6_copy_96 : decode cX6_copy 96 = .ok (.aload_n 0, 1) := by decide +kernel
theorem dX6_copy_97 : decode cX6_copy 97 = .ok (.getfield 13, 3) := by decide +kernel
theorem dX6_copy_100 : decode cX6_copy 100 = .ok (.iload_n 3, 1) := by decide +kernel
theorem dX6_copy_101 : decode cX6_copy 101 = .ok (.iaload, 1) := by decide +kernel
theorem dX6_copy_102 : decode cX6_copy 102 = .ok (.if_icmp .gt 7, 3) := by decide +kernel
theorem dX6_copy_105 : decode cX6_copy 105 = .ok (.iconst 1, 1) := by decide +kernel
theorem dX6_copy_106 : decode cX6_copy 106 = .ok (.goto 4, 3) := by decide +kernel
theorem dX6_copy_109 : decode cX6_copy 109 = .ok (.iconst 0, 1) := by decide +kernel
theorem dX6_copy_110 : decode cX6_copy 110 = .ok (.istore 6, 2) := by decide +kernel
theorem dX6_copy_112 : decode cX6_copy 112 = .ok (.iload 6, 2) := by decide +kernel
theorem dX6_copy_114 : decode cX6_copy 114 = .ok (.ifCond .eq 30, 3) := by decide +kernel
theorem dX6_copy_117 : decode cX6_copy 117 = .ok (.iload 5, 2) := by decide +kernel
theorem dX6_copy_119 : decode cX6_copy 119 = .ok (.aload_n 0, 1) := by decide +kernel
theorem dX6_copy_120 : decode cX6_copy 120 = .ok (.getfield 13, 3) := by decide +kernel
theorem dX6_copy_123 : decode cX6_copy 123 = .ok (.iload_n 1, 1) := by decide +kernel
theorem dX6_copy_124 : decode cX6_copy 124 = .ok (.iaload, 1) := by decide +kernel
theorem dX6_copy_125 : decode cX6_copy 125 = .ok (.iload_n 2, 1) := by decide +kernel
theorem dX6_copy_126 : decode cX6_copy 126 = .ok (.isub, 1) := by decide +kernel
theorem dX6_copy_127 : decode cX6_copy 127 = .ok (.if_icmp .gt 17, 3) := by decide +kernel
theorem dX6_copy_130 : decode cX6_copy 130 = .ok (.iload 5, 2) := by decide +kernel
theorem dX6_copy_132 : decode cX6_copy 132 = .ok (.aload_n 0, 1) := by decide +kernel
theorem dX6_copy_133 : decode cX6_copy 133 = .ok (.getfield 13, 3) := by decide +kernel
theorem dX6_copy_136 : decode cX6_copy 136 = .ok (.iload_n 3, 1) := by decide +kernel
theorem dX6_copy_137 : decode cX6_copy 137 = .ok (.iaload, 1) := by decide +kernel
theorem dX6_copy_138 : decode cX6_copy 138 = .ok (.iload 4, 2) := by decide +kernel
theorem dX6_copy_140 : decode cX6_copy 140 = .ok (.isub, 1) := by decide +kernel
theorem dX6_copy_141 : decode cX6_copy 141 = .ok (.if_icmp .le 9, 3) := by decide +kernel
theorem dX6_copy_144 : decode cX6_copy 144 = .ok (.aload_n 0, 1) := by decide +kernel
theorem dX6_copy_145 : decode cX6_copy 145 = .ok (.iconst 3, 1) := by decide +kernel
theorem dX6_copy_146 : decode cX6_copy 146 = .ok (.invokevirtual 94, 3) := by decide +kernel
theorem dX6_copy_149 : decode cX6_copy 149 = .ok (.ireturn, 1) := by decide +kernel
theorem dX6_copy_150 : decode cX6_copy 150 = .ok (.iload_n 2, 1) := by decide +kernel
theorem dX6_copy_151 : decode cX6_copy 151 = .ok (.iload 4, 2) := by decide +kernel
theorem dX6_copy_153 : decode cX6_copy 153 = .ok (.if_icmp .ge 7, 3) := by decide +kernel
theorem dX6_copy_156 : decode cX6_copy 156 = .ok (.iconst 1, 1) := by decide +kernel
theorem dX6_copy_157 : decode cX6_copy 157 = .ok (.goto 4, 3) := by decide +kernel
theorem dX6_copy_160 : decode cX6_copy 160 = .ok (.iconst 0, 1) := by decide +kernel
theorem dX6_copy_161 : decode cX6_copy 161 = .ok (.istore 7, 2) := by decide +kernel
theorem dX6_copy_163 : decode cX6_copy 163 = .ok (.iconst 0, 1) := by decide +kernel
theorem dX6_copy_164 : decode cX6_copy 164 = .ok (.istore 8, 2) := by decide +kernel
theorem dX6_copy_166 : decode cX6_copy 166 = .ok (.iload 8, 2) := by decide +kernel
theorem dX6_copy_168 : decode cX6_copy 168 = .ok (.iload 5, 2) := by decide +kernel
theorem dX6_copy_170 : decode cX6_copy 170 = .ok (.if_icmp .ge 57, 3) := by decide +kernel
theorem dX6_copy_173 : decode cX6_copy 173 = .ok (.iload 7, 2) := by decide +kernel
theorem dX6_copy_175 : decode cX6_copy 175 = .ok (.ifCond .eq 13, 3) := by decide +kernel
theorem dX6_copy_178 : decode cX6_copy 178 = .ok (.iload 5, 2) := by decide +kernel
theorem dX6_copy_180 : decode cX6_copy 180 = .ok (.iconst 1, 1) := by decide +kernel
theorem dX6_copy_181 : decode cX6_copy 181 = .ok (.isub, 1) := by decide +kernel
theorem dX6_copy_182 : decode cX6_copy 182 = .ok (.iload 8, 2) := by decide +kernel
theorem dX6_copy_184 : decode cX6_copy 184 = .ok (.isub, 1) := by decide +kernel
theorem dX6_copy_185 : decode cX6_copy 185 = .ok (.goto 5, 3) := by decide +kernel
theorem dX6_copy_188 : decode cX6_copy 188 = .ok (.iload 8, 2) := by decide +kernel
theorem dX6_copy_190 : decode cX6_copy 190 = .ok (.istore 9, 2) := by decide +kernel
theorem dX6_copy_192 : decode cX6_copy 192 = .ok (.aload_n 0, 1) := by decide +kernel
theorem dX6_copy_193 : decode cX6_copy 193 = .ok (.getfield 16, 3) := by decide +kernel
theorem dX6_copy_196 : decode cX6_copy 196 = .ok (.bipush 60, 2) := by decide +kernel
theorem dX6_copy_198 : decode cX6_copy 198 = .ok (.iload_n 3, 1) := by decide +kernel
theorem dX6_copy_199 : decode cX6_copy 199 = .ok (.imul, 1) := by decide +kernel
theorem dX6_copy_200 : decode cX6_copy 200 = .ok (.iload 4, 2) := by decide +kernel
theorem dX6_copy_202 : decode cX6_copy 202 = .ok (.iadd, 1) := by decide +kernel
theorem dX6_copy_203 : decode cX6_copy 203 = .ok (.iload 9, 2) := by decide +kernel
theorem dX6_copy_205 : decode cX6_copy 205 = .ok (.iadd, 1) := by decide +kernel
theorem dX6_copy_206 : decode cX6_copy 206 = .ok (.aload_n 0, 1) := by decide +kernel
theorem dX6_copy_207 : decode cX6_copy 207 = .ok (.getfield 16, 3) := by decide +kernel
theorem dX6_copy_210 : decode cX6_copy 210 = .ok (.bipush 60, 2) := by decide +kernel
theorem dX6_copy_212 : decode cX6_copy 212 = .ok (.iload_n 1, 1) := by decide +kernel
theorem dX6_copy_213 : decode cX6_copy 213 = .ok (.imul, 1) := by decide +kernel
theorem dX6_copy_214 : decode cX6_copy 214 = .ok (.iload_n 2, 1) := by decide +kernel
theorem dX6_copy_215 : decode cX6_copy 215 = .ok (.iadd, 1) := by decide +kernel
theorem dX6_copy_216 : decode cX6_copy 216 = .ok (.iload 9, 2) := by decide +kernel
theorem dX6_copy_218 : decode cX6_copy 218 = .ok (.iadd, 1) := by decide +kernel
theorem dX6_copy_219 : decode cX6_copy 219 = .ok (.iaload, 1) := by decide +kernel
theorem dX6_copy_220 : decode cX6_copy 220 = .ok (.iastore, 1) := by decide +kernel
theorem dX6_copy_221 : decode cX6_copy 221 = .ok (.iinc 8 1, 3) := by decide +kernel
theorem dX6_copy_224 : decode cX6_copy 224 = .ok (.goto (-58), 3) := by decide +kernel
theorem dX6_copy_227 : decode cX6_copy 227 = .ok (.iload 5, 2) := by decide +kernel
theorem dX6_copy_229 : decode cX6_copy 229 = .ok (.ireturn, 1) := by decide +kernel
theorem dX6_begins_0 : decode cX6_begins 0 = .ok (.aload_n 0, 1) := by decide +kernel
theorem dX6_begins_1 : decode cX6_begins 1 = .ok (.bipush 31, 2) := by decide +kernel
theorem dX6_begins_3 : decode cX6_begins 3 = .ok (.aload_n 0, 1) := by decide +kernel
theorem dX6_begins_4 : decode cX6_begins 4 = .ok (.getfield 229, 3) := by decide +kernel
theorem dX6_begins_7 : decode cX6_begins 7 = .ok (.imul, 1) := by decide +kernel
theorem dX6_begins_8 : decode cX6_begins 8 = .ok (.iload_n 1, 1) := by decide +kernel
theorem dX6_begins_9 : decode cX6_begins 9 = .ok (.iadd, 1) := by decide +kernel
theorem dX6_begins_10 : decode cX6_begins 10 = .ok (.putfield 229, 3) := by decide +kernel
theorem dX6_begins_13 : decode cX6_begins 13 = .ok (.return_, 1) := by decide +kernel
theorem dX6_tell_0 : decode cX6_tell 0 = .ok (.aload_n 0, 1) := by decide +kernel
theorem dX6_tell_1 : decode cX6_tell 1 = .ok (.iload_n 1, 1) := by decide +kernel
theorem dX6_tell_2 : decode cX6_tell 2 = .ok (.invokevirtual 154, 3) := by decide +kernel
theorem dX6_tell_5 : decode cX6_tell 5 = .ok (.ifCond .ne 5, 3) := by decide +kernel
theorem dX6_tell_8 : decode cX6_tell 8 = .ok (.iconst (-1), 1) := by decide +kernel
theorem dX6_tell_9 : decode cX6_tell 9 = .ok (.ireturn, 1) := by decide +kernel
theorem dX6_tell_10 : decode cX6_tell 10 = .ok (.aload_n 0, 1) := by decide +kernel
theorem dX6_tell_11 : decode cX6_tell 11 = .ok (.getfield 31, 3) := by decide +kernel
theorem dX6_tell_14 : decode cX6_tell 14 = .ok (.iload_n 1, 1) := by decide +kernel
theorem dX6_tell_15 : decode cX6_tell 15 = .ok (.iaload, 1) := by decide +kernel
theorem dX6_tell_16 : decode cX6_tell 16 = .ok (.istore_n 2, 1) := by decide +kernel
theorem dX6_tell_17 : decode cX6_tell 17 = .ok (.aload_n 0, 1) := by decide +kernel
theorem dX6_tell_18 : decode cX6_tell 18 = .ok (.getfield 25, 3) := by decide +kernel
theorem dX6_tell_21 : decode cX6_tell 21 = .ok (.iload_n 1, 1) := by decide +kernel
theorem dX6_tell_22 : decode cX6_tell 22 = .ok (.iaload, 1) := by decide +kernel
theorem dX6_tell_23 : decode cX6_tell 23 = .ok (.lookupswitch 67 #[(1, 25), (2, 40)], 25) := by decide +kernel
theorem dX6_tell_48 : decode cX6_tell 48 = .ok (.aload_n 0, 1) := by decide +kernel
theorem dX6_tell_49 : decode cX6_tell 49 = .ok (.iconst 2, 1) := by decide +kernel
theorem dX6_tell_50 : decode cX6_tell 50 = .ok (.invokevirtual 232, 3) := by decide +kernel
theorem dX6_tell_53 : decode cX6_tell 53 = .ok (.aload_n 0, 1) := by decide +kernel
theorem dX6_tell_54 : decode cX6_tell 54 = .ok (.iconst 1, 1) := by decide +kernel
theorem dX6_tell_55 : decode cX6_tell 55 = .ok (.invokevirtual 232, 3) := by decide +kernel
theorem dX6_tell_58 : decode cX6_tell 58 = .ok (.iload_n 2, 1) := by decide +kernel
theorem dX6_tell_59 : decode cX6_tell 59 = .ok (.bipush 100, 2) := by decide +kernel
theorem dX6_tell_61 : decode cX6_tell 61 = .ok (.iadd, 1) := by decide +kernel
theorem dX6_tell_62 : decode cX6_tell 62 = .ok (.ireturn, 1) := by decide +kernel
theorem dX6_tell_63 : decode cX6_tell 63 = .ok (.aload_n 0, 1) := by decide +kernel
theorem dX6_tell_64 : decode cX6_tell 64 = .ok (.iconst 3, 1) := by decide +kernel
theorem dX6_tell_65 : decode cX6_tell 65 = .ok (.invokevirtual 232, 3) := by decide +kernel
theorem dX6_tell_68 : decode cX6_tell 68 = .ok (.aload_n 0, 1) := by decide +kernel
theorem dX6_tell_69 : decode cX6_tell 69 = .ok (.iconst 2, 1) := by decide +kernel
theorem dX6_tell_70 : decode cX6_tell 70 = .ok (.invokevirtual 232, 3) := by decide +kernel
theorem dX6_tell_73 : decode cX6_tell 73 = .ok (.aload_n 0, 1) := by decide +kernel
theorem dX6_tell_74 : decode cX6_tell 74 = .ok (.iconst 1, 1) := by decide +kernel
theorem dX6_tell_75 : decode cX6_tell 75 = .ok (.invokevirtual 232, 3) := by decide +kernel
theorem dX6_tell_78 : decode cX6_tell 78 = .ok (.aload_n 0, 1) := by decide +kernel
theorem dX6_tell_79 : decode cX6_tell 79 = .ok (.iconst 1, 1) := by decide +kernel
theorem dX6_tell_80 : decode cX6_tell 80 = .ok (.invokevirtual 232, 3) := by decide +kernel
theorem dX6_tell_83 : decode cX6_tell 83 = .ok (.iconst 2, 1) := by decide +kernel
theorem dX6_tell_84 : decode cX6_tell 84 = .ok (.iload_n 2, 1) := by decide +kernel
theorem dX6_tell_85 : decode cX6_tell 85 = .ok (.imul, 1) := by decide +kernel
theorem dX6_tell_86 : decode cX6_tell 86 = .ok (.bipush 100, 2) := by decide +kernel
theorem dX6_tell_88 : decode cX6_tell 88 = .ok (.iadd, 1) := by decide +kernel
theorem dX6_tell_89 : decode cX6_tell 89 = .ok (.ireturn, 1) := by decide +kernel
theorem dX6_tell_90 : decode cX6_tell 90 = .ok (.aload_n 0, 1) := by decide +kernel
theorem dX6_tell_91 : decode cX6_tell 91 = .ok (.iconst 1, 1) := by decide +kernel
theorem dX6_tell_92 : decode cX6_tell 92 = .ok (.invokevirtual 232, 3) := by decide +kernel
theorem dX6_tell_95 : decode cX6_tell 95 = .ok (.iload_n 2, 1) := by decide +kernel
theorem dX6_tell_96 : decode cX6_tell 96 = .ok (.ireturn, 1) := by decide +kernel
theorem dX6_name_0 : decode cX6_name 0 = .ok (.aload_n 0, 1) := by decide +kernel
theorem dX6_name_1 : decode cX6_name 1 = .ok (.iload_n 1, 1) := by decide +kernel
theorem dX6_name_2 : decode cX6_name 2 = .ok (.invokevirtual 154, 3) := by decide +kernel
theorem dX6_name_5 : decode cX6_name 5 = .ok (.ifCond .ne 5, 3) := by decide +kernel
theorem dX6_name_8 : decode cX6_name 8 = .ok (.iconst (-1), 1) := by decide +kernel
theorem dX6_name_9 : decode cX6_name 9 = .ok (.ireturn, 1) := by decide +kernel
theorem dX6_name_10 : decode cX6_name 10 = .ok (.aload_n 0, 1) := by decide +kernel
theorem dX6_name_11 : decode cX6_name 11 = .ok (.aload_n 0, 1) := by decide +kernel
theorem dX6_name_12 : decode cX6_name 12 = .ok (.getfield 25, 3) := by decide +kernel
theorem dX6_name_15 : decode cX6_name 15 = .ok (.iload_n 1, 1) := by decide +kernel
theorem dX6_name_16 : decode cX6_name 16 = .ok (.iaload, 1) := by decide +kernel
theorem dX6_name_17 : decode cX6_name 17 = .ok (.iconst 2, 1) := by decide +kernel
theorem dX6_name_18 : decode cX6_name 18 = .ok (.if_icmp .ne 7, 3) := by decide +kernel
theorem dX6_name_21 : decode cX6_name 21 = .ok (.iconst 5, 1) := by decide +kernel
theorem dX6_name_22 : decode cX6_name 22 = .ok (.goto 4, 3) := by decide +kernel
theorem dX6_name_25 : decode cX6_name 25 = .ok (.iconst 4, 1) := by decide +kernel
theorem dX6_name_26 : decode cX6_name 26 = .ok (.invokevirtual 232, 3) := by decide +kernel
theorem dX6_name_29 : decode cX6_name 29 = .ok (.aload_n 0, 1) := by decide +kernel
theorem dX6_name_30 : decode cX6_name 30 = .ok (.getfield 25, 3) := by decide +kernel
theorem dX6_name_33 : decode cX6_name 33 = .ok (.iload_n 1, 1) := by decide +kernel
theorem dX6_name_34 : decode cX6_name 34 = .ok (.iaload, 1) := by decide +kernel
theorem dX6_name_35 : decode cX6_name 35 = .ok (.iconst 2, 1) := by decide +kernel
theorem dX6_name_36 : decode cX6_name 36 = .ok (.if_icmp .ne 8, 3) := by decide +kernel
theorem dX6_name_39 : decode cX6_name 39 = .ok (.bipush 60, 2) := by decide +kernel
theorem dX6_name_41 : decode cX6_name 41 = .ok (.goto 4, 3) := by decide +kernel
theorem dX6_name_44 : decode cX6_name 44 = .ok (.iload_n 1, 1) := by decide +kernel
theorem dX6_name_45 : decode cX6_name 45 = .ok (.ireturn, 1) := by decide +kernel
theorem dX6_as_0 : decode cX6_as 0 = .ok (.aload_n 0, 1) := by decide +kernel
theorem dX6_as_1 : decode cX6_as 1 = .ok (.iconst 0, 1) := by decide +kernel
theorem dX6_as_2 : decode cX6_as 2 = .ok (.putfield 64, 3) := by decide +kernel
theorem dX6_as_5 : decode cX6_as 5 = .ok (.aload_n 0, 1) := by decide +kernel
theorem dX6_as_6 : decode cX6_as 6 = .ok (.iload_n 1, 1) := by decide +kernel
theorem dX6_as_7 : decode cX6_as 7 = .ok (.invokevirtual 154, 3) := by decide +kernel
theorem dX6_as_10 : decode cX6_as 10 = .ok (.ifCond .ne 5, 3) := by decide +kernel
theorem dX6_as_13 : decode cX6_as 13 = .ok (.iconst (-1), 1) := by decide +kernel
theorem dX6_as_14 : decode cX6_as 14 = .ok (.ireturn, 1) := by decide +kernel
theorem dX6_as_15 : decode cX6_as 15 = .ok (.iload_n 2, 1) := by decide +kernel
theorem dX6_as_16 : decode cX6_as 16 = .ok (.iconst 0, 1) := by decide +kernel
theorem dX6_as_17 : decode cX6_as 17 = .ok (.iconst 2, 1) := by decide +kernel
theorem dX6_as_18 : decode cX6_as 18 = .ok (.invokestatic 70, 3) := by decide +kernel
theorem dX6_as_21 : decode cX6_as 21 = .ok (.ifCond .ne 6, 3) := by decide +kernel
theorem dX6_as_24 : decode cX6_as 24 = .ok (.bipush (-2), 2) := by decide +kernel
theorem dX6_as_26 : decode cX6_as 26 = .ok (.ireturn, 1) := by decide +kernel
theorem dX6_as_27 : decode cX6_as 27 = .ok (.aload_n 0, 1) := by decide +kernel
theorem dX6_as_28 : decode cX6_as 28 = .ok (.getfield 25, 3) := by decide +kernel
theorem dX6_as_31 : decode cX6_as 31 = .ok (.iload_n 1, 1) := by decide +kernel
theorem dX6_as_32 : decode cX6_as 32 = .ok (.iaload, 1) := by decide +kernel
theorem dX6_as_33 : decode cX6_as 33 = .ok (.iload_n 2, 1) := by decide +kernel
theorem dX6_as_34 : decode cX6_as 34 = .ok (.if_icmp .lt 7, 3) := by decide +kernel
theorem dX6_as_37 : decode cX6_as 37 = .ok (.iconst 1, 1) := by decide +kernel
theorem dX6_as_38 : decode cX6_as 38 = .ok (.goto 8, 3) := by decide +kernel
theorem dX6_as_41 : decode cX6_as 41 = .ok (.aload_n 0, 1) := by decide +kernel
theorem dX6_as_42 : decode cX6_as 42 = .ok (.iconst 2, 1) := by decide +kernel
theorem dX6_as_43 : decode cX6_as 43 = .ok (.invokevirtual 94, 3) := by decide +kernel
theorem dX6_as_46 : decode cX6_as 46 = .ok (.ireturn, 1) := by decide +kernel
theorem dX6_trace_0 : decode cX6_trace 0 = .ok (.aload_n 0, 1) := by decide +kernel
theorem dX6_trace_1 : decode cX6_trace 1 = .ok (.getfield 229, 3) := by decide +kernel
theorem dX6_trace_4 : decode cX6_trace 4 = .ok (.ireturn, 1) := by decide +kernel
theorem dX6_fault_0 : decode cX6_fault 0 = .ok (.aload_n 0, 1) := by decide +kernel
theorem dX6_fault_1 : decode cX6_fault 1 = .ok (.getfield 64, 3) := by decide +kernel
theorem dX6_fault_4 : decode cX6_fault 4 = .ok (.ireturn, 1) := by decide +kernel
theorem dX6_many_0 : decode cX6_many 0 = .ok (.iload_n 1, 1) := by decide +kernel
theorem dX6_many_1 : decode cX6_many 1 = .ok (.tableswitch 69 0 5 #[39, 44, 49, 54, 59, 64], 39) := by decide +kernel
theorem dX6_many_40 : decode cX6_many 40 = .ok (.aload_n 0, 1) := by decide +kernel
theorem dX6_many_41 : decode cX6_many 41 = .ok (.getfield 77, 3) := by decide +kernel
theorem dX6_many_44 : decode cX6_many 44 = .ok (.ireturn, 1) := by decide +kernel
theorem dX6_many_45 : decode cX6_many 45 = .ok (.aload_n 0, 1) := by decide +kernel
theorem dX6_many_46 : decode cX6_many 46 = .ok (.getfield 74, 3) := by decide +kernel
theorem dX6_many_49 : decode cX6_many 49 = .ok (.ireturn, 1) := by decide +kernel
theorem dX6_many_50 : decode cX6_many 50 = .ok (.aload_n 0, 1) := by decide +kernel
theorem dX6_many_51 : decode cX6_many 51 = .ok (.getfield 107, 3) := by decide +kernel
theorem dX6_many_54 : decode cX6_many 54 = .ok (.ireturn, 1) := by decide +kernel
theorem dX6_many_55 : decode cX6_many 55 = .ok (.aload_n 0, 1) := by decide +kernel
theorem dX6_many_56 : decode cX6_many 56 = .ok (.getfield 113, 3) := by decide +kernel
theorem dX6_many_59 : decode cX6_many 59 = .ok (.ireturn, 1) := by decide +kernel
theorem dX6_many_60 : decode cX6_many 60 = .ok (.aload_n 0, 1) := by decide +kernel
theorem dX6_many_61 : decode cX6_many 61 = .ok (.getfield 119, 3) := by decide +kernel
theorem dX6_many_64 : decode cX6_many 64 = .ok (.ireturn, 1) := by decide +kernel
theorem dX6_many_65 : decode cX6_many 65 = .ok (.aload_n 0, 1) := by decide +kernel
theorem dX6_many_66 : decode cX6_many 66 = .ok (.getfield 128, 3) := by decide +kernel
theorem dX6_many_69 : decode cX6_many 69 = .ok (.ireturn, 1) := by decide +kernel
theorem dX6_many_70 : decode cX6_many 70 = .ok (.bipush (-2), 2) := by decide +kernel
theorem dX6_many_72 : decode cX6_many 72 = .ok (.ireturn, 1) := by decide +kernel
end
section
/-! the judgement: at state x of a world of fixed cells, at pc, with locals L and stack st, the machine comes to Q -/
abbrev CTX (X : Type) : Type := Program × Launch × Jvm.Env × Room × State × MethodId × Array Value × List Frame × Method × Code × (State → Prop) × (Nat → Prop) × Heap × Nat × va_G × List (ClassId × FieldType) × (X → va_W)
def LV (ls : Array Slot) (nL : Nat) (L : List (Option Value)) : Prop := ls.size = nL ∧ lv_wf ls ∧ ∀ (i : Nat) (v : Value), L[i]? = some (some v) → ls[i]? = some (.val v)
def J {X : Type} (Γ : CTX X) (x : X) (pc : Nat) (L : List (Option Value)) (st : List Value) : Prop := match Γ with
  | (p, l, e, R, s, m, args, below, meth, c, Q, A, H0, nL, D, tys, w) => ∀ (H : Heap) (locs : List Loc) (ls : Array Slot), va_P D vwCl (w x) H → va_D A (w x) → va_S A H0 H locs → LV ls nL L → W p l e R s m args below meth c H locs 0 0 Q (F0 m pc ls st)
/-- the addresses and array classes of a world -/
abbrev EC : Type := va_G × (Nat → Nat) × ClassId × ClassId × ClassId
def tyZ (Z : EC) : List (ClassId × FieldType) := [(Z.2.2.1, .int), (Z.2.2.2.1, .object "TideSeats$Sheet"), (Z.2.2.2.2, .array .int)]
def CJ {X : Type} (l0 : Launch) (Z : EC) (w0 : X → va_W) (Γ : CTX X) (cc : ByteArray) (own : String) (rm : Room) (n : Nat) : Prop := match Γ with
  | (p, l, e, R, s, m, args, below, meth, c, Q, A, H0, nL, D, tys, w) => p.tables.exec = Jvm.exec ∧ c.code = cc ∧ c.maxLocals = nL ∧ nL = n ∧ s.vm.findClass own = some m.cls ∧ (∀ w ∈ wsL_law, w.before args s = true) ∧ va_K D vwCl tys s ∧ (∀ q : Nat, H0.size ≤ q → A q) ∧ R = rm ∧ l = l0 ∧ D = Z.1 ∧ tys = tyZ Z ∧ w = w0
def lvp (L : List (Option Value)) : List (Nat × Value) := (List.range L.length).filterMap (fun j => match L[j]? with | some (some v) => some (j, v) | _ => none)
theorem lvp_mem {L : List (Option Value)} {j : Nat} {v : Value} (h : L[j]? = some (some v)) : (j, v) ∈ lvp L := by
  have hj : j < L.length := (List.getElem?_eq_some_iff.mp h).1
  exact List.mem_filterMap.mpr ⟨j, List.mem_range.mpr hj, by rw [h]⟩
theorem lvp_of {L : List (Option Value)} {q : Nat × Value} (h : q ∈ lvp L) : L[q.1]? = some (some q.2) := by
  obtain ⟨j, -, hj⟩ := List.mem_filterMap.mp h
  cases hL : L[j]? with
  | none => rw [hL] at hj; cases hj
  | some o =>
    cases o with
    | none => rw [hL] at hj; cases hj
    | some v => rw [hL] at hj; cases hj; exact hL
theorem LV.has {ls : Array Slot} {nL : Nat} {L : List (Option Value)} (h : LV ls nL L) : lv_has ls nL (lvp L) := ⟨h.1, h.2.1, fun q hq => h.2.2 q.1 q.2 (lvp_of hq)⟩
def chk (L : List (Option Value)) (i : Nat) : Bool := match i with
  | 0 => true
  | j + 1 => match L[j]? with
    | some (some v) => v.category == 1
    | _ => true
theorem LV.put {ls : Array Slot} {nL i : Nat} {L : List (Option Value)} {v : Value} (hc : chk L i = true) (h : lv_has ls nL ((i, v) :: (lvp L).filter (fun q => !(q.1 == i) && !(q.1 + 1 == i && q.2.category == 2)))) : LV ls nL (L.set i (some v)) := by
  refine ⟨h.1, h.2.1, fun j u hj => ?_⟩
  by_cases e : j = i
  · subst e
    by_cases hl : j < L.length
    · rw [List.getElem?_set_self hl] at hj
      cases hj
      exact h.2.2 (j, v) List.mem_cons_self
    · rw [List.set_eq_of_length_le (by omega)] at hj
      exact absurd (List.getElem?_eq_some_iff.mp hj).1 hl
  · rw [List.getElem?_set_ne (fun q => e q.symm)] at hj
    refine h.2.2 (j, u) (List.mem_cons_of_mem _ (List.mem_filter.mpr ⟨lvp_mem hj, ?_⟩))
    have e1 : (j == i) = false := by simp [e]
    simp only [e1, Bool.not_false, Bool.true_and, Bool.not_eq_true', Bool.and_eq_false_iff]
    by_cases e2 : j + 1 = i
    · right
      subst e2
      simp only [chk, hj, beq_iff_eq] at hc
      simp [hc]
    · left
      simp [e2]
theorem LV.put2 {ls : Array Slot} {nL i : Nat} {L : List (Option Value)} {v : Value} (hc : chk L i = true) (h : lv_has ls nL ((i, v) :: (lvp L).filter (fun q => !(q.1 == i) && (!(q.1 == i + 1) && !(q.1 + 1 == i && q.2.category == 2))))) : LV ls nL ((L.set i (some v)).set (i + 1) none) := by
  refine ⟨h.1, h.2.1, fun j u hj => ?_⟩
  by_cases e3 : j = i + 1
  · subst e3
    rw [List.getElem?_set] at hj
    simp at hj
  rw [List.getElem?_set_ne (fun q => e3 q.symm)] at hj
  by_cases e : j = i
  · subst e
    by_cases hl : j < L.length
    · rw [List.getElem?_set_self hl] at hj
      cases hj
      exact h.2.2 (j, v) List.mem_cons_self
    · rw [List.set_eq_of_length_le (by omega)] at hj
      exact absurd (List.getElem?_eq_some_iff.mp hj).1 hl
  · rw [List.getElem?_set_ne (fun q => e q.symm)] at hj
    refine h.2.2 (j, u) (List.mem_cons_of_mem _ (List.mem_filter.mpr ⟨lvp_mem hj, ?_⟩))
    have e1 : (j == i) = false := by simp [e]
    have e4 : (j == i + 1) = false := by simp [e3]
    simp only [e1, e4, Bool.not_false, Bool.true_and, Bool.not_eq_true', Bool.and_eq_false_iff]
    by_cases e2 : j + 1 = i
    · right
      subst e2
      simp only [chk, hj, beq_iff_eq] at hc
      simp [hc]
    · left
      simp [e2]
theorem LV.drop {ls : Array Slot} {nL : Nat} {L L' : List (Option Value)} (h : LV ls nL L) (hs : ∀ (i : Nat) (v : Value), L'[i]? = some (some v) → L[i]? = some (some v)) : LV ls nL L' := ⟨h.1, h.2.1, fun i v hi => h.2.2 i v (hs i v hi)⟩
def lsub : List (Option Value) → List (Option Value) → Prop
  | [], _ => True
  | none :: a, _ :: b => lsub a b
  | some v :: a, some u :: b => v = u ∧ lsub a b
  | none :: a, [] => lsub a []
  | some _ :: _, none :: _ => False
  | some _ :: _, [] => False
theorem lsub_at : ∀ (a b : List (Option Value)), lsub a b → ∀ (i : Nat) (v : Value), a[i]? = some (some v) → b[i]? = some (some v)
  | [], _, _, i, v, h => by simp at h
  | none :: a, u :: b, hs, i, v, h => by
    cases i with
    | zero => simp at h
    | succ i => simp only [List.getElem?_cons_succ] at h ⊢; exact lsub_at a b hs i v h
  | some w :: a, some u :: b, hs, i, v, h => by
    obtain ⟨rfl, hs⟩ := hs
    cases i with
    | zero => simpa using h
    | succ i => simp only [List.getElem?_cons_succ] at h ⊢; exact lsub_at a b hs i v h
  | none :: a, [], hs, i, v, h => by
    cases i with
    | zero => simp at h
    | succ i =>
      simp only [List.getElem?_cons_succ] at h
      have := lsub_at a [] hs i v h
      simp at this
  | some _ :: _, none :: _, hs, _, _, _ => absurd hs (by simp [lsub])
  | some _ :: _, [], hs, _, _, _ => absurd hs (by simp [lsub])
section JR
variable {l0 : Launch} {Z : EC} {X : Type} {w0 : X → va_W} {Γ : CTX X} {x : X} {cc : ByteArray} {own : String} {rm : Room} {n pc : Nat} {L : List (Option Value)} {st : List Value}
/-- weaker locals -/
theorem J_drop {L' : List (Option Value)} (h : lsub L' L) (k : J Γ x pc L' st) : J Γ x pc L st := by
  obtain ⟨p, l, e, R, s, m, args, below, meth, c, Q, A, H0, nL, D, tys, w⟩ := Γ
  exact fun H locs ls hP hD hS hL => k H locs ls hP hD hS (hL.drop (lsub_at _ _ h))
theorem J_iload_n (C : CJ l0 Z w0 Γ cc own rm n) {j : Fin 4} {i : Nat} {v : Int32} (d : decode cc pc = .ok (.iload_n j, 1)) (hj : (j : Nat) = i) (h : L[i]? = some (some (.int v))) (k : J Γ x (pc + 1) L (.int v :: st)) : J Γ x pc L (st) := by
  obtain ⟨p, l, e, R, s, m, args, below, meth, c, Q, A, H0, nL, D, tys, w⟩ := Γ
  obtain ⟨hx, hb, hml, hn, hown, hts, hK, hA, hR, hl0, hD0, hty, hw⟩ := C
  exact fun H locs ls hP hD hS hL => lv_iload_n hx hb d hj (hL.2.2 i _ h) (k H locs ls hP hD hS hL)
theorem J_iload (C : CJ l0 Z w0 Γ cc own rm n) {i : Nat} {v : Int32} (d : decode cc pc = .ok (.iload i, 2)) (h : L[i]? = some (some (.int v))) (k : J Γ x (pc + 2) L (.int v :: st)) : J Γ x pc L (st) := by
  obtain ⟨p, l, e, R, s, m, args, below, meth, c, Q, A, H0, nL, D, tys, w⟩ := Γ
  obtain ⟨hx, hb, hml, hn, hown, hts, hK, hA, hR, hl0, hD0, hty, hw⟩ := C
  exact fun H locs ls hP hD hS hL => lv_iload hx hb d (hL.2.2 i _ h) (k H locs ls hP hD hS hL)
theorem J_lload_n (C : CJ l0 Z w0 Γ cc own rm n) {j : Fin 4} {i : Nat} {v : Int64} (d : decode cc pc = .ok (.lload_n j, 1)) (hj : (j : Nat) = i) (h : L[i]? = some (some (.long v))) (k : J Γ x (pc + 1) L (.long v :: st)) : J Γ x pc L (st) := by
  obtain ⟨p, l, e, R, s, m, args, below, meth, c, Q, A, H0, nL, D, tys, w⟩ := Γ
  obtain ⟨hx, hb, hml, hn, hown, hts, hK, hA, hR, hl0, hD0, hty, hw⟩ := C
  exact fun H locs ls hP hD hS hL => lv_lload_n hx hb d hj (hL.2.2 i _ h) (k H locs ls hP hD hS hL)
theorem J_lload (C : CJ l0 Z w0 Γ cc own rm n) {i : Nat} {v : Int64} (d : decode cc pc = .ok (.lload i, 2)) (h : L[i]? = some (some (.long v))) (k : J Γ x (pc + 2) L (.long v :: st)) : J Γ x pc L (st) := by
  obtain ⟨p, l, e, R, s, m, args, below, meth, c, Q, A, H0, nL, D, tys, w⟩ := Γ
  obtain ⟨hx, hb, hml, hn, hown, hts, hK, hA, hR, hl0, hD0, hty, hw⟩ := C
  exact fun H locs ls hP hD hS hL => lv_lload hx hb d (hL.2.2 i _ h) (k H locs ls hP hD hS hL)
theorem J_aload_n (C : CJ l0 Z w0 Γ cc own rm n) {j : Fin 4} {i : Nat} {v : Nat} (d : decode cc pc = .ok (.aload_n j, 1)) (hj : (j : Nat) = i) (h : L[i]? = some (some (.ref v))) (k : J Γ x (pc + 1) L (.ref v :: st)) : J Γ x pc L (st) := by
  obtain ⟨p, l, e, R, s, m, args, below, meth, c, Q, A, H0, nL, D, tys, w⟩ := Γ
  obtain ⟨hx, hb, hml, hn, hown, hts, hK, hA, hR, hl0, hD0, hty, hw⟩ := C
  exact fun H locs ls hP hD hS hL => lv_aload_n hx hb d hj (hL.2.2 i _ h) (k H locs ls hP hD hS hL)
theorem J_aload (C : CJ l0 Z w0 Γ cc own rm n) {i : Nat} {v : Nat} (d : decode cc pc = .ok (.aload i, 2)) (h : L[i]? = some (some (.ref v))) (k : J Γ x (pc + 2) L (.ref v :: st)) : J Γ x pc L (st) := by
  obtain ⟨p, l, e, R, s, m, args, below, meth, c, Q, A, H0, nL, D, tys, w⟩ := Γ
  obtain ⟨hx, hb, hml, hn, hown, hts, hK, hA, hR, hl0, hD0, hty, hw⟩ := C
  exact fun H locs ls hP hD hS hL => lv_aload hx hb d (hL.2.2 i _ h) (k H locs ls hP hD hS hL)
theorem J_iconst (C : CJ l0 Z w0 Γ cc own rm n) {z : Int} {v : Int32} (d : decode cc pc = .ok (.iconst z, 1)) (hv : Int32.ofInt z = v) (k : J Γ x (pc + 1) L (.int v :: st)) : J Γ x pc L (st) := by
  obtain ⟨p, l, e, R, s, m, args, below, meth, c, Q, A, H0, nL, D, tys, w⟩ := Γ
  obtain ⟨hx, hb, hml, hn, hown, hts, hK, hA, hR, hl0, hD0, hty, hw⟩ := C
  exact fun H locs ls hP hD hS hL => lv_iconst hx hb d hv (k H locs ls hP hD hS hL)
theorem J_bipush (C : CJ l0 Z w0 Γ cc own rm n) {z : Int} {v : Int32} (d : decode cc pc = .ok (.bipush z, 2)) (hv : (Int8.ofInt z).toInt32 = v) (k : J Γ x (pc + 2) L (.int v :: st)) : J Γ x pc L (st) := by
  obtain ⟨p, l, e, R, s, m, args, below, meth, c, Q, A, H0, nL, D, tys, w⟩ := Γ
  obtain ⟨hx, hb, hml, hn, hown, hts, hK, hA, hR, hl0, hD0, hty, hw⟩ := C
  exact fun H locs ls hP hD hS hL => lv_bipush hx hb d hv (k H locs ls hP hD hS hL)
theorem J_sipush (C : CJ l0 Z w0 Γ cc own rm n) {z : Int} {v : Int32} (d : decode cc pc = .ok (.sipush z, 3)) (hv : (Int16.ofInt z).toInt32 = v) (k : J Γ x (pc + 3) L (.int v :: st)) : J Γ x pc L (st) := by
  obtain ⟨p, l, e, R, s, m, args, below, meth, c, Q, A, H0, nL, D, tys, w⟩ := Γ
  obtain ⟨hx, hb, hml, hn, hown, hts, hK, hA, hR, hl0, hD0, hty, hw⟩ := C
  exact fun H locs ls hP hD hS hL => lv_sipush hx hb d hv (k H locs ls hP hD hS hL)
theorem J_lconst (C : CJ l0 Z w0 Γ cc own rm n) {z : Fin 2} {v : Int64} (d : decode cc pc = .ok (.lconst z, 1)) (hv : Int64.ofNat (z : Nat) = v) (k : J Γ x (pc + 1) L (.long v :: st)) : J Γ x pc L (st) := by
  obtain ⟨p, l, e, R, s, m, args, below, meth, c, Q, A, H0, nL, D, tys, w⟩ := Γ
  obtain ⟨hx, hb, hml, hn, hown, hts, hK, hA, hR, hl0, hD0, hty, hw⟩ := C
  exact fun H locs ls hP hD hS hL => lv_lconst hx hb d hv (k H locs ls hP hD hS hL)
theorem J_ldcw (C : CJ l0 Z w0 Γ cc own rm n) {i : Nat} {v : Int32} (hwd : Cond.constant own i v ∈ wsL_law) (d : decode cc pc = .ok (.ldc_w i, 3)) (k : J Γ x (pc + 3) L (.int v :: st)) : J Γ x pc L (st) := by
  obtain ⟨p, l, e, R, s, m, args, below, meth, c, Q, A, H0, nL, D, tys, w⟩ := Γ
  obtain ⟨hx, hb, hml, hn, hown, hts, hK, hA, hR, hl0, hD0, hty, hw⟩ := C
  exact fun H locs ls hP hD hS hL => lv_ldcw hx hb hown (hts _ hwd) d (k H locs ls hP hD hS hL)
theorem J_ldc2 (C : CJ l0 Z w0 Γ cc own rm n) {i : Nat} {v : Int64} (hwd : Cond.constantLong own i v ∈ wsL_law) (d : decode cc pc = .ok (.ldc2_w i, 3)) (k : J Γ x (pc + 3) L (.long v :: st)) : J Γ x pc L (st) := by
  obtain ⟨p, l, e, R, s, m, args, below, meth, c, Q, A, H0, nL, D, tys, w⟩ := Γ
  obtain ⟨hx, hb, hml, hn, hown, hts, hK, hA, hR, hl0, hD0, hty, hw⟩ := C
  exact fun H locs ls hP hD hS hL => lv_ldc2 hx hb hown (hts _ hwd) d (k H locs ls hP hD hS hL)
theorem J_iadd (C : CJ l0 Z w0 Γ cc own rm n) {a b v : Int32} (d : decode cc pc = .ok (.iadd, 1)) (hv : a + b = v) (k : J Γ x (pc + 1) L (.int v :: st)) : J Γ x pc L (.int b :: .int a :: st) := by
  obtain ⟨p, l, e, R, s, m, args, below, meth, c, Q, A, H0, nL, D, tys, w⟩ := Γ
  obtain ⟨hx, hb, hml, hn, hown, hts, hK, hA, hR, hl0, hD0, hty, hw⟩ := C
  exact fun H locs ls hP hD hS hL => lv_iadd hx hb d (hv ▸ k H locs ls hP hD hS hL)
theorem J_isub (C : CJ l0 Z w0 Γ cc own rm n) {a b v : Int32} (d : decode cc pc = .ok (.isub, 1)) (hv : a - b = v) (k : J Γ x (pc + 1) L (.int v :: st)) : J Γ x pc L (.int b :: .int a :: st) := by
  obtain ⟨p, l, e, R, s, m, args, below, meth, c, Q, A, H0, nL, D, tys, w⟩ := Γ
  obtain ⟨hx, hb, hml, hn, hown, hts, hK, hA, hR, hl0, hD0, hty, hw⟩ := C
  exact fun H locs ls hP hD hS hL => lv_isub hx hb d (hv ▸ k H locs ls hP hD hS hL)
theorem J_imul (C : CJ l0 Z w0 Γ cc own rm n) {a b v : Int32} (d : decode cc pc = .ok (.imul, 1)) (hv : a * b = v) (k : J Γ x (pc + 1) L (.int v :: st)) : J Γ x pc L (.int b :: .int a :: st) := by
  obtain ⟨p, l, e, R, s, m, args, below, meth, c, Q, A, H0, nL, D, tys, w⟩ := Γ
  obtain ⟨hx, hb, hml, hn, hown, hts, hK, hA, hR, hl0, hD0, hty, hw⟩ := C
  exact fun H locs ls hP hD hS hL => lv_imul hx hb d (hv ▸ k H locs ls hP hD hS hL)
theorem J_iand (C : CJ l0 Z w0 Γ cc own rm n) {a b v : Int32} (d : decode cc pc = .ok (.iand, 1)) (hv : a &&& b = v) (k : J Γ x (pc + 1) L (.int v :: st)) : J Γ x pc L (.int b :: .int a :: st) := by
  obtain ⟨p, l, e, R, s, m, args, below, meth, c, Q, A, H0, nL, D, tys, w⟩ := Γ
  obtain ⟨hx, hb, hml, hn, hown, hts, hK, hA, hR, hl0, hD0, hty, hw⟩ := C
  exact fun H locs ls hP hD hS hL => lv_iand hx hb d (hv ▸ k H locs ls hP hD hS hL)
theorem J_ior (C : CJ l0 Z w0 Γ cc own rm n) {a b v : Int32} (d : decode cc pc = .ok (.ior, 1)) (hv : a ||| b = v) (k : J Γ x (pc + 1) L (.int v :: st)) : J Γ x pc L (.int b :: .int a :: st) := by
  obtain ⟨p, l, e, R, s, m, args, below, meth, c, Q, A, H0, nL, D, tys, w⟩ := Γ
  obtain ⟨hx, hb, hml, hn, hown, hts, hK, hA, hR, hl0, hD0, hty, hw⟩ := C
  exact fun H locs ls hP hD hS hL => lv_ior hx hb d (hv ▸ k H locs ls hP hD hS hL)
theorem J_ixor (C : CJ l0 Z w0 Γ cc own rm n) {a b v : Int32} (d : decode cc pc = .ok (.ixor, 1)) (hv : a ^^^ b = v) (k : J Γ x (pc + 1) L (.int v :: st)) : J Γ x pc L (.int b :: .int a :: st) := by
  obtain ⟨p, l, e, R, s, m, args, below, meth, c, Q, A, H0, nL, D, tys, w⟩ := Γ
  obtain ⟨hx, hb, hml, hn, hown, hts, hK, hA, hR, hl0, hD0, hty, hw⟩ := C
  exact fun H locs ls hP hD hS hL => lv_ixor hx hb d (hv ▸ k H locs ls hP hD hS hL)
theorem J_ishl (C : CJ l0 Z w0 Γ cc own rm n) {a b v : Int32} (d : decode cc pc = .ok (.ishl, 1)) (hv : a <<< (b &&& 31) = v) (k : J Γ x (pc + 1) L (.int v :: st)) : J Γ x pc L (.int b :: .int a :: st) := by
  obtain ⟨p, l, e, R, s, m, args, below, meth, c, Q, A, H0, nL, D, tys, w⟩ := Γ
  obtain ⟨hx, hb, hml, hn, hown, hts, hK, hA, hR, hl0, hD0, hty, hw⟩ := C
  exact fun H locs ls hP hD hS hL => lv_ishl hx hb d (hv ▸ k H locs ls hP hD hS hL)
theorem J_ishr (C : CJ l0 Z w0 Γ cc own rm n) {a b v : Int32} (d : decode cc pc = .ok (.ishr, 1)) (hv : a >>> (b &&& 31) = v) (k : J Γ x (pc + 1) L (.int v :: st)) : J Γ x pc L (.int b :: .int a :: st) := by
  obtain ⟨p, l, e, R, s, m, args, below, meth, c, Q, A, H0, nL, D, tys, w⟩ := Γ
  obtain ⟨hx, hb, hml, hn, hown, hts, hK, hA, hR, hl0, hD0, hty, hw⟩ := C
  exact fun H locs ls hP hD hS hL => lv_ishr hx hb d (hv ▸ k H locs ls hP hD hS hL)
theorem J_iushr (C : CJ l0 Z w0 Γ cc own rm n) {a b v : Int32} (d : decode cc pc = .ok (.iushr, 1)) (hv : (a.toUInt32 >>> (b.toUInt32 &&& Int32.toUInt32 31)).toInt32 = v) (k : J Γ x (pc + 1) L (.int v :: st)) : J Γ x pc L (.int b :: .int a :: st) := by
  obtain ⟨p, l, e, R, s, m, args, below, meth, c, Q, A, H0, nL, D, tys, w⟩ := Γ
  obtain ⟨hx, hb, hml, hn, hown, hts, hK, hA, hR, hl0, hD0, hty, hw⟩ := C
  exact fun H locs ls hP hD hS hL => lv_iushr hx hb d hv (k H locs ls hP hD hS hL)
theorem J_ineg (C : CJ l0 Z w0 Γ cc own rm n) {a v : Int32} (d : decode cc pc = .ok (.ineg, 1)) (hv : -a = v) (k : J Γ x (pc + 1) L (.int v :: st)) : J Γ x pc L (.int a :: st) := by
  obtain ⟨p, l, e, R, s, m, args, below, meth, c, Q, A, H0, nL, D, tys, w⟩ := Γ
  obtain ⟨hx, hb, hml, hn, hown, hts, hK, hA, hR, hl0, hD0, hty, hw⟩ := C
  exact fun H locs ls hP hD hS hL => lv_ineg hx hb d (hv ▸ k H locs ls hP hD hS hL)
theorem J_idiv (C : CJ l0 Z w0 Γ cc own rm n) {a b v : Int32} (d : decode cc pc = .ok (.idiv, 1)) (h0 : ¬ b = 0) (hv : a / b = v) (k : J Γ x (pc + 1) L (.int v :: st)) : J Γ x pc L (.int b :: .int a :: st) := by
  obtain ⟨p, l, e, R, s, m, args, below, meth, c, Q, A, H0, nL, D, tys, w⟩ := Γ
  obtain ⟨hx, hb, hml, hn, hown, hts, hK, hA, hR, hl0, hD0, hty, hw⟩ := C
  exact fun H locs ls hP hD hS hL => lv_idiv hx hb d h0 (hv ▸ k H locs ls hP hD hS hL)
theorem J_irem (C : CJ l0 Z w0 Γ cc own rm n) {a b v : Int32} (d : decode cc pc = .ok (.irem, 1)) (h0 : ¬ b = 0) (hv : a - a / b * b = v) (k : J Γ x (pc + 1) L (.int v :: st)) : J Γ x pc L (.int b :: .int a :: st) := by
  obtain ⟨p, l, e, R, s, m, args, below, meth, c, Q, A, H0, nL, D, tys, w⟩ := Γ
  obtain ⟨hx, hb, hml, hn, hown, hts, hK, hA, hR, hl0, hD0, hty, hw⟩ := C
  exact fun H locs ls hP hD hS hL => lv_irem hx hb d h0 (hv ▸ k H locs ls hP hD hS hL)
theorem J_ldiv (C : CJ l0 Z w0 Γ cc own rm n) {a b v : Int64} (d : decode cc pc = .ok (.ldiv, 1)) (h0 : ¬ b = 0) (hv : a / b = v) (k : J Γ x (pc + 1) L (.long v :: st)) : J Γ x pc L (.long b :: .long a :: st) := by
  obtain ⟨p, l, e, R, s, m, args, below, meth, c, Q, A, H0, nL, D, tys, w⟩ := Γ
  obtain ⟨hx, hb, hml, hn, hown, hts, hK, hA, hR, hl0, hD0, hty, hw⟩ := C
  exact fun H locs ls hP hD hS hL => lv_ldiv hx hb d h0 (hv ▸ k H locs ls hP hD hS hL)
theorem J_lrem (C : CJ l0 Z w0 Γ cc own rm n) {a b v : Int64} (d : decode cc pc = .ok (.lrem, 1)) (h0 : ¬ b = 0) (hv : a - a / b * b = v) (k : J Γ x (pc + 1) L (.long v :: st)) : J Γ x pc L (.long b :: .long a :: st) := by
  obtain ⟨p, l, e, R, s, m, args, below, meth, c, Q, A, H0, nL, D, tys, w⟩ := Γ
  obtain ⟨hx, hb, hml, hn, hown, hts, hK, hA, hR, hl0, hD0, hty, hw⟩ := C
  exact fun H locs ls hP hD hS hL => lv_lrem hx hb d h0 (hv ▸ k H locs ls hP hD hS hL)
theorem J_lcmp (C : CJ l0 Z w0 Γ cc own rm n) {a b : Int64} (d : decode cc pc = .ok (.lcmp, 1)) (k : J Γ x (pc + 1) L (.int (lg_cmp a b) :: st)) : J Γ x pc L (.long b :: .long a :: st) := by
  obtain ⟨p, l, e, R, s, m, args, below, meth, c, Q, A, H0, nL, D, tys, w⟩ := Γ
  obtain ⟨hx, hb, hml, hn, hown, hts, hK, hA, hR, hl0, hD0, hty, hw⟩ := C
  exact fun H locs ls hP hD hS hL => W.lcmp hx hb d (k H locs ls hP hD hS hL)
theorem J_i2l (C : CJ l0 Z w0 Γ cc own rm n) {a : Int32} {v : Int64} (d : decode cc pc = .ok (.i2l, 1)) (hv : a.toInt64 = v) (k : J Γ x (pc + 1) L (.long v :: st)) : J Γ x pc L (.int a :: st) := by
  obtain ⟨p, l, e, R, s, m, args, below, meth, c, Q, A, H0, nL, D, tys, w⟩ := Γ
  obtain ⟨hx, hb, hml, hn, hown, hts, hK, hA, hR, hl0, hD0, hty, hw⟩ := C
  exact fun H locs ls hP hD hS hL => lv_i2l hx hb d hv (k H locs ls hP hD hS hL)
theorem J_i2b (C : CJ l0 Z w0 Γ cc own rm n) {a v : Int32} (d : decode cc pc = .ok (.i2b, 1)) (hv : a.toInt8.toInt32 = v) (k : J Γ x (pc + 1) L (.int v :: st)) : J Γ x pc L (.int a :: st) := by
  obtain ⟨p, l, e, R, s, m, args, below, meth, c, Q, A, H0, nL, D, tys, w⟩ := Γ
  obtain ⟨hx, hb, hml, hn, hown, hts, hK, hA, hR, hl0, hD0, hty, hw⟩ := C
  exact fun H locs ls hP hD hS hL => lv_i2b hx hb d hv (k H locs ls hP hD hS hL)
theorem J_i2s (C : CJ l0 Z w0 Γ cc own rm n) {a v : Int32} (d : decode cc pc = .ok (.i2s, 1)) (hv : a.toInt16.toInt32 = v) (k : J Γ x (pc + 1) L (.int v :: st)) : J Γ x pc L (.int a :: st) := by
  obtain ⟨p, l, e, R, s, m, args, below, meth, c, Q, A, H0, nL, D, tys, w⟩ := Γ
  obtain ⟨hx, hb, hml, hn, hown, hts, hK, hA, hR, hl0, hD0, hty, hw⟩ := C
  exact fun H locs ls hP hD hS hL => lv_i2s hx hb d hv (k H locs ls hP hD hS hL)
theorem J_dup (C : CJ l0 Z w0 Γ cc own rm n) {v : Value} (d : decode cc pc = .ok (.dup, 1)) (hv : v.category = 1) (k : J Γ x (pc + 1) L (v :: v :: st)) : J Γ x pc L (v :: st) := by
  obtain ⟨p, l, e, R, s, m, args, below, meth, c, Q, A, H0, nL, D, tys, w⟩ := Γ
  obtain ⟨hx, hb, hml, hn, hown, hts, hK, hA, hR, hl0, hD0, hty, hw⟩ := C
  exact fun H locs ls hP hD hS hL => lv_dup hx hb d hv (k H locs ls hP hD hS hL)
theorem J_goto (C : CJ l0 Z w0 Γ cc own rm n) {off : Int} {tgt : Nat} (d : decode cc pc = .ok (.goto off, 3)) (ht : (pc : Int) + off = (tgt : Int)) (k : J Γ x tgt L st) : J Γ x pc L (st) := by
  obtain ⟨p, l, e, R, s, m, args, below, meth, c, Q, A, H0, nL, D, tys, w⟩ := Γ
  obtain ⟨hx, hb, hml, hn, hown, hts, hK, hA, hR, hl0, hD0, hty, hw⟩ := C
  exact fun H locs ls hP hD hS hL => lv_goto hx hb d ht (k H locs ls hP hD hS hL)
theorem J_istore_n (C : CJ l0 Z w0 Γ cc own rm n) {j : Fin 4} {i : Nat} {v : Int32} {L' : List (Option Value)} (d : decode cc pc = .ok (.istore_n j, 1)) (hj : (j : Nat) = i) (hi : i < n) (hc : chk L i = true) (hl : L.set i (some (.int v)) = L') (k : J Γ x (pc + 1) L' st) : J Γ x pc L (.int v :: st) := by
  obtain ⟨p, l, e, R, s, m, args, below, meth, c, Q, A, H0, nL, D, tys, w⟩ := Γ
  obtain ⟨hx, hb, hml, hn, hown, hts, hK, hA, hR, hl0, hD0, hty, hw⟩ := C
  exact fun H locs ls hP hD hS hL => lv_istore_n hx hb d hj hL.has (hn ▸ hi) rfl (fun ls hl2 => k H locs ls hP hD hS (hl ▸ LV.put hc hl2))
theorem J_istore (C : CJ l0 Z w0 Γ cc own rm n) {i : Nat} {v : Int32} {L' : List (Option Value)} (d : decode cc pc = .ok (.istore i, 2)) (hi : i < n) (hc : chk L i = true) (hl : L.set i (some (.int v)) = L') (k : J Γ x (pc + 2) L' st) : J Γ x pc L (.int v :: st) := by
  obtain ⟨p, l, e, R, s, m, args, below, meth, c, Q, A, H0, nL, D, tys, w⟩ := Γ
  obtain ⟨hx, hb, hml, hn, hown, hts, hK, hA, hR, hl0, hD0, hty, hw⟩ := C
  exact fun H locs ls hP hD hS hL => lv_istore hx hb d hL.has (hn ▸ hi) rfl (fun ls hl2 => k H locs ls hP hD hS (hl ▸ LV.put hc hl2))
theorem J_astore_n (C : CJ l0 Z w0 Γ cc own rm n) {j : Fin 4} {i : Nat} {v : Nat} {L' : List (Option Value)} (d : decode cc pc = .ok (.astore_n j, 1)) (hj : (j : Nat) = i) (hi : i < n) (hc : chk L i = true) (hl : L.set i (some (.ref v)) = L') (k : J Γ x (pc + 1) L' st) : J Γ x pc L (.ref v :: st) := by
  obtain ⟨p, l, e, R, s, m, args, below, meth, c, Q, A, H0, nL, D, tys, w⟩ := Γ
  obtain ⟨hx, hb, hml, hn, hown, hts, hK, hA, hR, hl0, hD0, hty, hw⟩ := C
  exact fun H locs ls hP hD hS hL => lv_astore_n hx hb d hj hL.has (hn ▸ hi) rfl (fun ls hl2 => k H locs ls hP hD hS (hl ▸ LV.put hc hl2))
theorem J_astore (C : CJ l0 Z w0 Γ cc own rm n) {i : Nat} {v : Nat} {L' : List (Option Value)} (d : decode cc pc = .ok (.astore i, 2)) (hi : i < n) (hc : chk L i = true) (hl : L.set i (some (.ref v)) = L') (k : J Γ x (pc + 2) L' st) : J Γ x pc L (.ref v :: st) := by
  obtain ⟨p, l, e, R, s, m, args, below, meth, c, Q, A, H0, nL, D, tys, w⟩ := Γ
  obtain ⟨hx, hb, hml, hn, hown, hts, hK, hA, hR, hl0, hD0, hty, hw⟩ := C
  exact fun H locs ls hP hD hS hL => lv_astore hx hb d hL.has (hn ▸ hi) rfl (fun ls hl2 => k H locs ls hP hD hS (hl ▸ LV.put hc hl2))
theorem J_lstore (C : CJ l0 Z w0 Γ cc own rm n) {i : Nat} {v : Int64} {L' : List (Option Value)} (d : decode cc pc = .ok (.lstore i, 2)) (hi : i + 1 < n) (hc : chk L i = true) (hl : (L.set i (some (.long v))).set (i + 1) none = L') (k : J Γ x (pc + 2) L' st) : J Γ x pc L (.long v :: st) := by
  obtain ⟨p, l, e, R, s, m, args, below, meth, c, Q, A, H0, nL, D, tys, w⟩ := Γ
  obtain ⟨hx, hb, hml, hn, hown, hts, hK, hA, hR, hl0, hD0, hty, hw⟩ := C
  exact fun H locs ls hP hD hS hL => lv_lstore hx hb d hL.has (hn ▸ hi) rfl (fun ls hl2 => k H locs ls hP hD hS (hl ▸ LV.put2 hc hl2))
theorem lvp_at {L : List (Option Value)} {i : Nat} {v : Value} (h : L[i]? = some (some v)) : ∃ k : Nat, (lvp L)[k]? = some (i, v) := List.getElem?_of_mem (lvp_mem h)
theorem J_iinc (C : CJ l0 Z w0 Γ cc own rm n) {i : Nat} {z : Int} {a v : Int32} {L' : List (Option Value)} (d : decode cc pc = .ok (.iinc i z, 3)) (h : L[i]? = some (some (.int a))) (hv : a + Int32.ofInt z = v) (hi : i < n) (hc : chk L i = true) (hl : L.set i (some (.int v)) = L') (k : J Γ x (pc + 3) L' st) : J Γ x pc L st := by
  obtain ⟨p, l, e, R, s, m, args, below, meth, c, Q, A, H0, nL, D, tys, w⟩ := Γ
  obtain ⟨hx, hb, hml, hn, hown, hts, hK, hA, hR, hl0, hD0, hty, hw⟩ := C
  obtain ⟨kk, hkk⟩ := lvp_at h
  exact fun H locs ls hP hD hS hL => lv_iinc hx hb d hL.has hkk hv (hn ▸ hi) rfl (fun ls hl2 => k H locs ls hP hD hS (hl ▸ LV.put hc hl2))
theorem J_icmp_eq (C : CJ l0 Z w0 Γ cc own rm n) {a b : Int32} {off : Int} {tgt : Nat} (d : decode cc pc = .ok (.if_icmp .eq off, 3)) (ht : (pc : Int) + off = (tgt : Int)) (kt : a = b → J Γ x tgt L st) (kf : ¬ a = b → J Γ x (pc + 3) L st) : J Γ x pc L (.int b :: .int a :: st) := by
  obtain ⟨p, l, e, R, s, m, args, below, meth, c, Q, A, H0, nL, D, tys, w⟩ := Γ
  obtain ⟨hx, hb, hml, hn, hown, hts, hK, hA, hR, hl0, hD0, hty, hw⟩ := C
  exact fun H locs ls hP hD hS hL => lv_icmp_eq hx hb d ht (fun hh => kt hh H locs ls hP hD hS hL) (fun hh => kf hh H locs ls hP hD hS hL)
theorem J_if_eq (C : CJ l0 Z w0 Γ cc own rm n) {a : Int32} {off : Int} {tgt : Nat} (d : decode cc pc = .ok (.ifCond .eq off, 3)) (ht : (pc : Int) + off = (tgt : Int)) (kt : a = 0 → J Γ x tgt L st) (kf : ¬ a = 0 → J Γ x (pc + 3) L st) : J Γ x pc L (.int a :: st) := by
  obtain ⟨p, l, e, R, s, m, args, below, meth, c, Q, A, H0, nL, D, tys, w⟩ := Γ
  obtain ⟨hx, hb, hml, hn, hown, hts, hK, hA, hR, hl0, hD0, hty, hw⟩ := C
  exact fun H locs ls hP hD hS hL => lv_if_eq hx hb d ht (fun hh => kt hh H locs ls hP hD hS hL) (fun hh => kf hh H locs ls hP hD hS hL)
theorem J_icmp_ne (C : CJ l0 Z w0 Γ cc own rm n) {a b : Int32} {off : Int} {tgt : Nat} (d : decode cc pc = .ok (.if_icmp .ne off, 3)) (ht : (pc : Int) + off = (tgt : Int)) (kt : ¬ a = b → J Γ x tgt L st) (kf : a = b → J Γ x (pc + 3) L st) : J Γ x pc L (.int b :: .int a :: st) := by
  obtain ⟨p, l, e, R, s, m, args, below, meth, c, Q, A, H0, nL, D, tys, w⟩ := Γ
  obtain ⟨hx, hb, hml, hn, hown, hts, hK, hA, hR, hl0, hD0, hty, hw⟩ := C
  exact fun H locs ls hP hD hS hL => lv_icmp_ne hx hb d ht (fun hh => kt hh H locs ls hP hD hS hL) (fun hh => kf hh H locs ls hP hD hS hL)
theorem J_if_ne (C : CJ l0 Z w0 Γ cc own rm n) {a : Int32} {off : Int} {tgt : Nat} (d : decode cc pc = .ok (.ifCond .ne off, 3)) (ht : (pc : Int) + off = (tgt : Int)) (kt : ¬ a = 0 → J Γ x tgt L st) (kf : a = 0 → J Γ x (pc + 3) L st) : J Γ x pc L (.int a :: st) := by
  obtain ⟨p, l, e, R, s, m, args, below, meth, c, Q, A, H0, nL, D, tys, w⟩ := Γ
  obtain ⟨hx, hb, hml, hn, hown, hts, hK, hA, hR, hl0, hD0, hty, hw⟩ := C
  exact fun H locs ls hP hD hS hL => lv_if_ne hx hb d ht (fun hh => kt hh H locs ls hP hD hS hL) (fun hh => kf hh H locs ls hP hD hS hL)
theorem J_icmp_lt (C : CJ l0 Z w0 Γ cc own rm n) {a b : Int32} {off : Int} {tgt : Nat} (d : decode cc pc = .ok (.if_icmp .lt off, 3)) (ht : (pc : Int) + off = (tgt : Int)) (kt : a < b → J Γ x tgt L st) (kf : ¬ a < b → J Γ x (pc + 3) L st) : J Γ x pc L (.int b :: .int a :: st) := by
  obtain ⟨p, l, e, R, s, m, args, below, meth, c, Q, A, H0, nL, D, tys, w⟩ := Γ
  obtain ⟨hx, hb, hml, hn, hown, hts, hK, hA, hR, hl0, hD0, hty, hw⟩ := C
  exact fun H locs ls hP hD hS hL => lv_icmp_lt hx hb d ht (fun hh => kt hh H locs ls hP hD hS hL) (fun hh => kf hh H locs ls hP hD hS hL)
theorem J_if_lt (C : CJ l0 Z w0 Γ cc own rm n) {a : Int32} {off : Int} {tgt : Nat} (d : decode cc pc = .ok (.ifCond .lt off, 3)) (ht : (pc : Int) + off = (tgt : Int)) (kt : a < 0 → J Γ x tgt L st) (kf : ¬ a < 0 → J Γ x (pc + 3) L st) : J Γ x pc L (.int a :: st) := by
  obtain ⟨p, l, e, R, s, m, args, below, meth, c, Q, A, H0, nL, D, tys, w⟩ := Γ
  obtain ⟨hx, hb, hml, hn, hown, hts, hK, hA, hR, hl0, hD0, hty, hw⟩ := C
  exact fun H locs ls hP hD hS hL => lv_if_lt hx hb d ht (fun hh => kt hh H locs ls hP hD hS hL) (fun hh => kf hh H locs ls hP hD hS hL)
theorem J_icmp_ge (C : CJ l0 Z w0 Γ cc own rm n) {a b : Int32} {off : Int} {tgt : Nat} (d : decode cc pc = .ok (.if_icmp .ge off, 3)) (ht : (pc : Int) + off = (tgt : Int)) (kt : b ≤ a → J Γ x tgt L st) (kf : ¬ b ≤ a → J Γ x (pc + 3) L st) : J Γ x pc L (.int b :: .int a :: st) := by
  obtain ⟨p, l, e, R, s, m, args, below, meth, c, Q, A, H0, nL, D, tys, w⟩ := Γ
  obtain ⟨hx, hb, hml, hn, hown, hts, hK, hA, hR, hl0, hD0, hty, hw⟩ := C
  exact fun H locs ls hP hD hS hL => lv_icmp_ge hx hb d ht (fun hh => kt hh H locs ls hP hD hS hL) (fun hh => kf hh H locs ls hP hD hS hL)
theorem J_if_ge (C : CJ l0 Z w0 Γ cc own rm n) {a : Int32} {off : Int} {tgt : Nat} (d : decode cc pc = .ok (.ifCond .ge off, 3)) (ht : (pc : Int) + off = (tgt : Int)) (kt : 0 ≤ a → J Γ x tgt L st) (kf : ¬ 0 ≤ a → J Γ x (pc + 3) L st) : J Γ x pc L (.int a :: st) := by
  obtain ⟨p, l, e, R, s, m, args, below, meth, c, Q, A, H0, nL, D, tys, w⟩ := Γ
  obtain ⟨hx, hb, hml, hn, hown, hts, hK, hA, hR, hl0, hD0, hty, hw⟩ := C
  exact fun H locs ls hP hD hS hL => lv_if_ge hx hb d ht (fun hh => kt hh H locs ls hP hD hS hL) (fun hh => kf hh H locs ls hP hD hS hL)
theorem J_icmp_gt (C : CJ l0 Z w0 Γ cc own rm n) {a b : Int32} {off : Int} {tgt : Nat} (d : decode cc pc = .ok (.if_icmp .gt off, 3)) (ht : (pc : Int) + off = (tgt : Int)) (kt : b < a → J Γ x tgt L st) (kf : ¬ b < a → J Γ x (pc + 3) L st) : J Γ x pc L (.int b :: .int a :: st) := by
  obtain ⟨p, l, e, R, s, m, args, below, meth, c, Q, A, H0, nL, D, tys, w⟩ := Γ
  obtain ⟨hx, hb, hml, hn, hown, hts, hK, hA, hR, hl0, hD0, hty, hw⟩ := C
  exact fun H locs ls hP hD hS hL => lv_icmp_gt hx hb d ht (fun hh => kt hh H locs ls hP hD hS hL) (fun hh => kf hh H locs ls hP hD hS hL)
theorem J_if_gt (C : CJ l0 Z w0 Γ cc own rm n) {a : Int32} {off : Int} {tgt : Nat} (d : decode cc pc = .ok (.ifCond .gt off, 3)) (ht : (pc : Int) + off = (tgt : Int)) (kt : 0 < a → J Γ x tgt L st) (kf : ¬ 0 < a → J Γ x (pc + 3) L st) : J Γ x pc L (.int a :: st) := by
  obtain ⟨p, l, e, R, s, m, args, below, meth, c, Q, A, H0, nL, D, tys, w⟩ := Γ
  obtain ⟨hx, hb, hml, hn, hown, hts, hK, hA, hR, hl0, hD0, hty, hw⟩ := C
  exact fun H locs ls hP hD hS hL => lv_if_gt hx hb d ht (fun hh => kt hh H locs ls hP hD hS hL) (fun hh => kf hh H locs ls hP hD hS hL)
theorem J_icmp_le (C : CJ l0 Z w0 Γ cc own rm n) {a b : Int32} {off : Int} {tgt : Nat} (d : decode cc pc = .ok (.if_icmp .le off, 3)) (ht : (pc : Int) + off = (tgt : Int)) (kt : a ≤ b → J Γ x tgt L st) (kf : ¬ a ≤ b → J Γ x (pc + 3) L st) : J Γ x pc L (.int b :: .int a :: st) := by
  obtain ⟨p, l, e, R, s, m, args, below, meth, c, Q, A, H0, nL, D, tys, w⟩ := Γ
  obtain ⟨hx, hb, hml, hn, hown, hts, hK, hA, hR, hl0, hD0, hty, hw⟩ := C
  exact fun H locs ls hP hD hS hL => lv_icmp_le hx hb d ht (fun hh => kt hh H locs ls hP hD hS hL) (fun hh => kf hh H locs ls hP hD hS hL)
theorem J_if_le (C : CJ l0 Z w0 Γ cc own rm n) {a : Int32} {off : Int} {tgt : Nat} (d : decode cc pc = .ok (.ifCond .le off, 3)) (ht : (pc : Int) + off = (tgt : Int)) (kt : a ≤ 0 → J Γ x tgt L st) (kf : ¬ a ≤ 0 → J Γ x (pc + 3) L st) : J Γ x pc L (.int a :: st) := by
  obtain ⟨p, l, e, R, s, m, args, below, meth, c, Q, A, H0, nL, D, tys, w⟩ := Γ
  obtain ⟨hx, hb, hml, hn, hown, hts, hK, hA, hR, hl0, hD0, hty, hw⟩ := C
  exact fun H locs ls hP hD hS hL => lv_if_le hx hb d ht (fun hh => kt hh H locs ls hP hD hS hL) (fun hh => kf hh H locs ls hP hD hS hL)
theorem nI_eq0 {i : Nat} (hi : i < 2147483648) : nI i = 0 ↔ i = 0 := nI_eq (b := 0) hi (by decide)
theorem nI_lt0 {i : Nat} (hi : i < 2147483648) : ¬ nI i < 0 := fun h => absurd ((nI_ltI (b := 0) hi (by decide)).mp h) (Nat.not_lt_zero _)
theorem nI_gt0 {i : Nat} (hi : i < 2147483648) : 0 < nI i ↔ 0 < i := nI_ltI (a := 0) (by decide) hi
theorem nI_le0 {i : Nat} (hi : i < 2147483648) : nI i ≤ 0 ↔ i ≤ 0 := nI_leI (b := 0) hi (by decide)
theorem J_icmp_eq_n (C : CJ l0 Z w0 Γ cc own rm n) {i j : Nat} {off : Int} {tgt : Nat} (d : decode cc pc = .ok (.if_icmp .eq off, 3)) (ht : (pc : Int) + off = (tgt : Int)) (hi : i < 2147483648) (hj : j < 2147483648) (kt : i = j → J Γ x tgt L st) (kf : i ≠ j → J Γ x (pc + 3) L st) : J Γ x pc L (.int (nI j) :: .int (nI i) :: st) :=
  J_icmp_eq C d ht (fun hh => kt ((nI_eq hi hj).mp hh)) (fun hh => kf ((fun e => hh ((nI_eq hi hj).mpr e))))
theorem J_icmp_ne_n (C : CJ l0 Z w0 Γ cc own rm n) {i j : Nat} {off : Int} {tgt : Nat} (d : decode cc pc = .ok (.if_icmp .ne off, 3)) (ht : (pc : Int) + off = (tgt : Int)) (hi : i < 2147483648) (hj : j < 2147483648) (kt : i ≠ j → J Γ x tgt L st) (kf : i = j → J Γ x (pc + 3) L st) : J Γ x pc L (.int (nI j) :: .int (nI i) :: st) :=
  J_icmp_ne C d ht (fun hh => kt ((fun e => hh ((nI_eq hi hj).mpr e)))) (fun hh => kf ((nI_eq hi hj).mp hh))
theorem J_icmp_lt_n (C : CJ l0 Z w0 Γ cc own rm n) {i j : Nat} {off : Int} {tgt : Nat} (d : decode cc pc = .ok (.if_icmp .lt off, 3)) (ht : (pc : Int) + off = (tgt : Int)) (hi : i < 2147483648) (hj : j < 2147483648) (kt : i < j → J Γ x tgt L st) (kf : j ≤ i → J Γ x (pc + 3) L st) : J Γ x pc L (.int (nI j) :: .int (nI i) :: st) :=
  J_icmp_lt C d ht (fun hh => kt ((nI_ltI hi hj).mp hh)) (fun hh => kf ((Nat.le_of_not_lt (fun e => hh ((nI_ltI hi hj).mpr e)))))
theorem J_icmp_ge_n (C : CJ l0 Z w0 Γ cc own rm n) {i j : Nat} {off : Int} {tgt : Nat} (d : decode cc pc = .ok (.if_icmp .ge off, 3)) (ht : (pc : Int) + off = (tgt : Int)) (hi : i < 2147483648) (hj : j < 2147483648) (kt : j ≤ i → J Γ x tgt L st) (kf : i < j → J Γ x (pc + 3) L st) : J Γ x pc L (.int (nI j) :: .int (nI i) :: st) :=
  J_icmp_ge C d ht (fun hh => kt ((nI_leI hj hi).mp hh)) (fun hh => kf ((Nat.lt_of_not_le (fun e => hh ((nI_leI hj hi).mpr e)))))
theorem J_icmp_gt_n (C : CJ l0 Z w0 Γ cc own rm n) {i j : Nat} {off : Int} {tgt : Nat} (d : decode cc pc = .ok (.if_icmp .gt off, 3)) (ht : (pc : Int) + off = (tgt : Int)) (hi : i < 2147483648) (hj : j < 2147483648) (kt : j < i → J Γ x tgt L st) (kf : i ≤ j → J Γ x (pc + 3) L st) : J Γ x pc L (.int (nI j) :: .int (nI i) :: st) :=
  J_icmp_gt C d ht (fun hh => kt ((nI_ltI hj hi).mp hh)) (fun hh => kf ((Nat.le_of_not_lt (fun e => hh ((nI_ltI hj hi).mpr e)))))
theorem J_icmp_le_n (C : CJ l0 Z w0 Γ cc own rm n) {i j : Nat} {off : Int} {tgt : Nat} (d : decode cc pc = .ok (.if_icmp .le off, 3)) (ht : (pc : Int) + off = (tgt : Int)) (hi : i < 2147483648) (hj : j < 2147483648) (kt : i ≤ j → J Γ x tgt L st) (kf : j < i → J Γ x (pc + 3) L st) : J Γ x pc L (.int (nI j) :: .int (nI i) :: st) :=
  J_icmp_le C d ht (fun hh => kt ((nI_leI hi hj).mp hh)) (fun hh => kf ((Nat.lt_of_not_le (fun e => hh ((nI_leI hi hj).mpr e)))))
theorem J_if_eq_n (C : CJ l0 Z w0 Γ cc own rm n) {i : Nat} {off : Int} {tgt : Nat} (d : decode cc pc = .ok (.ifCond .eq off, 3)) (ht : (pc : Int) + off = (tgt : Int)) (hi : i < 2147483648) (kt : i = 0 → J Γ x tgt L st) (kf : i ≠ 0 → J Γ x (pc + 3) L st) : J Γ x pc L (.int (nI i) :: st) :=
  J_if_eq C d ht (fun hh => kt ((nI_eq0 hi).mp hh)) (fun hh => kf (fun e => hh ((nI_eq0 hi).mpr e)))
theorem J_if_ne_n (C : CJ l0 Z w0 Γ cc own rm n) {i : Nat} {off : Int} {tgt : Nat} (d : decode cc pc = .ok (.ifCond .ne off, 3)) (ht : (pc : Int) + off = (tgt : Int)) (hi : i < 2147483648) (kt : i ≠ 0 → J Γ x tgt L st) (kf : i = 0 → J Γ x (pc + 3) L st) : J Γ x pc L (.int (nI i) :: st) :=
  J_if_ne C d ht (fun hh => kt (fun e => hh ((nI_eq0 hi).mpr e))) (fun hh => kf ((nI_eq0 hi).mp hh))
theorem J_if_gt_n (C : CJ l0 Z w0 Γ cc own rm n) {i : Nat} {off : Int} {tgt : Nat} (d : decode cc pc = .ok (.ifCond .gt off, 3)) (ht : (pc : Int) + off = (tgt : Int)) (hi : i < 2147483648) (kt : 0 < i → J Γ x tgt L st) (kf : i = 0 → J Γ x (pc + 3) L st) : J Γ x pc L (.int (nI i) :: st) :=
  J_if_gt C d ht (fun hh => kt ((nI_gt0 hi).mp hh)) (fun hh => kf (Nat.eq_zero_of_not_pos (fun e => hh ((nI_gt0 hi).mpr e))))
theorem J_if_le_n (C : CJ l0 Z w0 Γ cc own rm n) {i : Nat} {off : Int} {tgt : Nat} (d : decode cc pc = .ok (.ifCond .le off, 3)) (ht : (pc : Int) + off = (tgt : Int)) (hi : i < 2147483648) (kt : i = 0 → J Γ x tgt L st) (kf : 0 < i → J Γ x (pc + 3) L st) : J Γ x pc L (.int (nI i) :: st) :=
  J_if_le C d ht (fun hh => kt (Nat.eq_zero_of_le_zero ((nI_le0 hi).mp hh))) (fun hh => kf (Nat.pos_of_ne_zero (fun e => hh ((nI_le0 hi).mpr (Nat.le_of_eq e)))))
theorem J_if_ge_n (C : CJ l0 Z w0 Γ cc own rm n) {i : Nat} {off : Int} {tgt : Nat} (d : decode cc pc = .ok (.ifCond .ge off, 3)) (ht : (pc : Int) + off = (tgt : Int)) (hi : i < 2147483648) (kt : J Γ x tgt L st) : J Γ x pc L (.int (nI i) :: st) :=
  J_if_ge C d ht (fun _ => kt) (fun hh => absurd ((nI_leI (a := 0) (by decide) hi).mpr (Nat.zero_le i)) hh)
theorem J_if_lt_n (C : CJ l0 Z w0 Γ cc own rm n) {i : Nat} {off : Int} {tgt : Nat} (d : decode cc pc = .ok (.ifCond .lt off, 3)) (ht : (pc : Int) + off = (tgt : Int)) (hi : i < 2147483648) (kf : J Γ x (pc + 3) L st) : J Γ x pc L (.int (nI i) :: st) :=
  J_if_lt C d ht (fun hh => absurd hh (nI_lt0 hi)) (fun _ => kf)
def b2i (b : Bool) : Int32 := if b then 1 else 0
theorem b2i_eq (b : Bool) : b2i b = 0 ↔ b = false := by cases b <;> decide
theorem b2i_nar (b : Bool) : narrow .boolean (.int (b2i b)) = .int (b2i b) := by cases b <;> rfl
theorem b2i_fit (b : Bool) : fits .boolean (.int (b2i b)) = true := by cases b <;> rfl
theorem b2i_nI (b : Bool) : b2i b = nI (if b then 1 else 0) := by cases b <;> rfl
theorem J_if_eq_b (C : CJ l0 Z w0 Γ cc own rm n) {b : Bool} {off : Int} {tgt : Nat} (d : decode cc pc = .ok (.ifCond .eq off, 3)) (ht : (pc : Int) + off = (tgt : Int)) (kt : b = false → J Γ x tgt L st) (kf : b = true → J Γ x (pc + 3) L st) : J Γ x pc L (.int (b2i b) :: st) :=
  J_if_eq C d ht (fun hh => kt ((b2i_eq b).mp hh)) (fun hh => kf (by cases b; exact absurd rfl hh; rfl))
theorem J_if_ne_b (C : CJ l0 Z w0 Γ cc own rm n) {b : Bool} {off : Int} {tgt : Nat} (d : decode cc pc = .ok (.ifCond .ne off, 3)) (ht : (pc : Int) + off = (tgt : Int)) (kt : b = true → J Γ x tgt L st) (kf : b = false → J Γ x (pc + 3) L st) : J Γ x pc L (.int (b2i b) :: st) :=
  J_if_ne C d ht (fun hh => kt (by cases b; exact absurd rfl hh; rfl)) (fun hh => kf ((b2i_eq b).mp hh))
theorem J_tabOut (C : CJ l0 Z w0 Γ cc own rm n) {dflt lo hi : Int} {offs : Array Int} {len : Nat} {v : Int32} {tgt : Nat} (d : decode cc pc = .ok (.tableswitch dflt lo hi offs, len)) (h : v.toInt < lo ∨ hi < v.toInt) (ht : (pc : Int) + dflt = (tgt : Int)) (k : J Γ x tgt L st) : J Γ x pc L (.int v :: st) := by
  obtain ⟨p, l, e, R, s, m, args, below, meth, c, Q, A, H0, nL, D, tys, w⟩ := Γ
  obtain ⟨hx, hb, hml, hn, hown, hts, hK, hA, hR, hl0, hD0, hty, hw⟩ := C
  exact fun H locs ls hP hD hS hL => lv_tableOut hx hb d h ht (k H locs ls hP hD hS hL)
theorem J_tabIn (C : CJ l0 Z w0 Γ cc own rm n) {dflt lo hi : Int} {offs : Array Int} {len : Nat} {v : Int32} {off : Int} {tgt : Nat} (d : decode cc pc = .ok (.tableswitch dflt lo hi offs, len)) (h1 : ¬ v.toInt < lo) (h2 : ¬ hi < v.toInt) (ho : offs[(v.toInt - lo).toNat]? = some off) (ht : (pc : Int) + off = (tgt : Int)) (k : J Γ x tgt L st) : J Γ x pc L (.int v :: st) := by
  obtain ⟨p, l, e, R, s, m, args, below, meth, c, Q, A, H0, nL, D, tys, w⟩ := Γ
  obtain ⟨hx, hb, hml, hn, hown, hts, hK, hA, hR, hl0, hD0, hty, hw⟩ := C
  exact fun H locs ls hP hD hS hL => lv_tableIn hx hb d h1 h2 ho ht (k H locs ls hP hD hS hL)
theorem J_lookup (C : CJ l0 Z w0 Γ cc own rm n) {dflt : Int} {ps : Array (Int × Int)} {len : Nat} {v : Int32} {off : Int} {tgt : Nat} (d : decode cc pc = .ok (.lookupswitch dflt ps, len)) (hp : (ps.toList.zip (ps.toList.drop 1)).all (fun (a, next) => a.1 < next.1) = true) (ho : Op.lookupswitch.offset ps.toList dflt v.toInt = off) (ht : (pc : Int) + off = (tgt : Int)) (k : J Γ x tgt L st) : J Γ x pc L (.int v :: st) := by
  obtain ⟨p, l, e, R, s, m, args, below, meth, c, Q, A, H0, nL, D, tys, w⟩ := Γ
  obtain ⟨hx, hb, hml, hn, hown, hts, hK, hA, hR, hl0, hD0, hty, hw⟩ := C
  exact fun H locs ls hP hD hS hL => lv_lookup hx hb d hp ho ht (k H locs ls hP hD hS hL)
theorem J_get (C : CJ l0 Z w0 Γ cc own rm n) {ref Cn : String} {T : u_T} {N ci index : Nat} (hin : ∀ w ∈ u_ws Cn T N, w ∈ wsL_law) (q0 : Nat) {a : Nat} {fs : List Value} (he : (w0 x)[q0]? = some (a, .inr (ci, fs))) (hc : vwCl[ci]? = some (Cn, T, N)) (j : Nat) (hj : j < N) (hl : Cond.fieldLink own index ref (T j).2.1 (T j).2.2.1 ∈ wsL_law) (hr : (T j).1 = ref) {v : Value} (hv : fs[j]? = some v) (d : decode cc pc = .ok (.getfield index, 3)) (k : J Γ x (pc + 3) L (v :: st)) : J Γ x pc L (.ref a :: st) := by
  obtain ⟨p, l, e, R, s, m, args, below, meth, c, Q, A, H0, nL, D, tys, w⟩ := Γ
  obtain ⟨hx, hb, hml, hn, hown, hts, hK, hA, hR, hl0, hD0, hty, hw⟩ := C
  subst hw
  subst hty
  subst hD0
  exact fun H locs ls hP hD hS hL => va_get hx hb hts hin hown hK hP q0 he hc j hj (hts _ hl) (fun y hy => by rw [← hr]; exact hy) hv d (k H locs ls hP hD hS hL)
theorem J_put (C : CJ l0 Z w0 Γ cc own rm n) {ref Cn : String} {T : u_T} {N ci index : Nat} (hin : ∀ w ∈ u_ws Cn T N, w ∈ wsL_law) (ty0 : Nat → FieldType) (hty0 : ∀ k, k < N → parseFieldDescriptor (T k).2.2.1 = some (ty0 k)) (hnm : ∀ a, a < N → ∀ b, b < N → a ≠ b → (T a).2.1 ≠ (T b).2.1) (q0 : Nat) {a : Nat} {fs : List Value} (he : (w0 x)[q0]? = some (a, .inr (ci, fs))) (hc : vwCl[ci]? = some (Cn, T, N)) (j : Nat) (hj : j < N) (hl : Cond.fieldLink own index ref (T j).2.1 (T j).2.2.1 ∈ wsL_law) (hr : (T j).1 = ref) (hfin : (T j).2.2.2 = false) {ty : FieldType} {v : Value} (hd : parseFieldDescriptor (T j).2.2.1 = some ty) (hna : narrow ty v = v) (hfit : fits ty v = true) (hfl : j < fs.length) {x1 : X} (hx1 : (w0 x).set q0 (a, .inr (ci, fs.set j v)) = w0 x1) (d : decode cc pc = .ok (.putfield index, 3)) (k : J Γ x1 (pc + 3) L st) : J Γ x pc L (v :: .ref a :: st) := by
  obtain ⟨p, l, e, R, s, m, args, below, meth, c, Q, A, H0, nL, D, tys, w⟩ := Γ
  obtain ⟨hx, hb, hml, hn, hown, hts, hK, hA, hR, hl0, hD0, hty, hw⟩ := C
  subst hw
  subst hty
  subst hD0
  exact fun H locs ls hP hD hS hL => va_put hx hb hts hin ty0 hty0 hnm hown hK hP hD hS q0 he hc j hj (hts _ hl) (fun y hy => by rw [← hr]; exact hy) hfin hd hna hfit hfl d (fun H1 locs1 hP1 hD1 hS1 => k H1 locs1 ls (by rw [← hx1]; exact hP1) (by rw [← hx1]; exact hD1) hS1 hL)
theorem J_iald (C : CJ l0 Z w0 Γ cc own rm n) (q0 : Nat) {a len : Nat} {f : Nat → Int32} (he : (w0 x)[q0]? = some (a, .inl (Z.2.2.1, len, .inl f))) {i v : Int32} (hi : vp_in i len) (hv : f i.toNatClampNeg = v) (d : decode cc pc = .ok (.iaload, 1)) (k : J Γ x (pc + 1) L (.int v :: st)) : J Γ x pc L (.int i :: .ref a :: st) := by
  obtain ⟨p, l, e, R, s, m, args, below, meth, c, Q, A, H0, nL, D, tys, w⟩ := Γ
  obtain ⟨hx, hb, hml, hn, hown, hts, hK, hA, hR, hl0, hD0, hty, hw⟩ := C
  subst hw
  subst hty
  subst hD0
  exact fun H locs ls hP hD hS hL => va_iald hx hb hK hP q0 0 he rfl hi d (hv ▸ k H locs ls hP hD hS hL)
theorem J_iast (C : CJ l0 Z w0 Γ cc own rm n) (q0 : Nat) {a len : Nat} {f : Nat → Int32} (he : (w0 x)[q0]? = some (a, .inl (Z.2.2.1, len, .inl f))) {i v : Int32} (hi : vp_in i len) {x1 : X} (hx1 : (w0 x).set q0 (a, .inl (Z.2.2.1, len, .inl (upd f i.toNatClampNeg v))) = w0 x1) (d : decode cc pc = .ok (.iastore, 1)) (k : J Γ x1 (pc + 1) L st) : J Γ x pc L (.int v :: .int i :: .ref a :: st) := by
  obtain ⟨p, l, e, R, s, m, args, below, meth, c, Q, A, H0, nL, D, tys, w⟩ := Γ
  obtain ⟨hx, hb, hml, hn, hown, hts, hK, hA, hR, hl0, hD0, hty, hw⟩ := C
  subst hw
  subst hty
  subst hD0
  exact fun H locs ls hP hD hS hL => va_iast hx hb hK hP hD hS q0 0 he rfl hi d (fun H1 locs1 hP1 hD1 hS1 => k H1 locs1 ls (by rw [← hx1]; exact hP1) (by rw [← hx1]; exact hD1) hS1 hL)
theorem J_aald (C : CJ l0 Z w0 Γ cc own rm n) (q0 t0 : Nat) {a len : Nat} {cA : ClassId} {ty : FieldType} {f : Nat → Option Nat} (he : (w0 x)[q0]? = some (a, .inl (cA, len, .inr (.inr (.inr (.inr f)))))) (hty1 : ty.isReference = true) (ht : (tyZ Z)[t0]? = some (cA, ty)) {i : Int32} (hi : vp_in i len) {b : Nat} (hv : f i.toNatClampNeg = some b) (d : decode cc pc = .ok (.aaload, 1)) (k : J Γ x (pc + 1) L (.ref b :: st)) : J Γ x pc L (.int i :: .ref a :: st) := by
  obtain ⟨p, l, e, R, s, m, args, below, meth, c, Q, A, H0, nL, D, tys, w⟩ := Γ
  obtain ⟨hx, hb, hml, hn, hown, hts, hK, hA, hR, hl0, hD0, hty, hw⟩ := C
  subst hw
  subst hty
  subst hD0
  have hlt : i.toNatClampNeg < len := Nat.not_le.mp fun q => hi (Or.inr q)
  exact fun H locs ls hP hD hS hL => W.aald (v := .ref b) (ty := ty) hx hb (hP q0 _ he) ((hK.2 t0 _ ht).1 len (fun j => va_rf (f j))) hty1 (fun q => by cases q) (by show ¬ (i < 0 ∨ (arrV _ _ _).slots.size ≤ _); rw [arrV_size]; exact hi) (by show (arrV _ _ _).slots[_]? = _; rw [arrV_read _ _ hlt, hv]; rfl) rfl rfl d (k H locs ls hP hD hS hL)
end JR
/-! contracts over such a world, and their calls -/
def Pw {X : Type} (Z : EC) (w : X → va_W) (x : X) (sz : Nat) : State → Prop := fun U => U.heap.size = sz ∧ va_P Z.1 vwCl (w x) U.heap ∧ va_K Z.1 vwCl (tyZ Z) U ∧ va_D (fun _ => True) (w x)
def Bw {X : Type} (Z : EC) (w : X → va_W) (x : X) (sz : Nat) : X → State → Prop := fun x1 t => va_P Z.1 vwCl (w x1) t.heap ∧ va_K Z.1 vwCl (tyZ Z) t ∧ va_D (va_A (w x) sz) (w x1)
def MIi {X : Type} (l : Launch) (Z : EC) (w : X → va_W) (y : MethodName) (cb : ByteArray) (mL : Nat) (rm : Room) (As : List Value) (x : X) (post : Int32 → X → Prop) : Prop := ∀ sz : Nat, Met l y (Cond.code y cb mL (some .int) :: wsL_law) rm (va_Pc As (Pw Z w x sz)) (va_Qi post (Bw Z w x sz) (va_A (w x) sz)) 0 0 (va_A (w x) sz)
def MIz {X : Type} (l : Launch) (Z : EC) (w : X → va_W) (y : MethodName) (cb : ByteArray) (mL : Nat) (rm : Room) (As : List Value) (x : X) (post : Bool → X → Prop) : Prop := ∀ sz : Nat, Met l y (Cond.code y cb mL (some .boolean) :: wsL_law) rm (va_Pc As (Pw Z w x sz)) (va_Qi (fun r x1 => ∃ b : Bool, r = b2i b ∧ post b x1) (Bw Z w x sz) (va_A (w x) sz)) 0 0 (va_A (w x) sz)
def MIl {X : Type} (l : Launch) (Z : EC) (w : X → va_W) (y : MethodName) (cb : ByteArray) (mL : Nat) (rm : Room) (As : List Value) (x : X) (post : Int64 → X → Prop) : Prop := ∀ sz : Nat, Met l y (Cond.code y cb mL (some .long) :: wsL_law) rm (va_Pc As (Pw Z w x sz)) (va_Ql post (Bw Z w x sz) (va_A (w x) sz)) 0 0 (va_A (w x) sz)
def MIv {X : Type} (l : Launch) (Z : EC) (w : X → va_W) (y : MethodName) (cb : ByteArray) (mL : Nat) (rm : Room) (As : List Value) (x : X) (post : X → Prop) : Prop := ∀ sz : Nat, Met l y (Cond.code y cb mL none :: wsL_law) rm (va_Pc As (Pw Z w x sz)) (va_Qv post (Bw Z w x sz) (va_A (w x) sz)) 0 0 (va_A (w x) sz)
def CWB (own : String) (idx : Nat) (y : MethodName) (cb : ByteArray) (mL : Nat) (ret : Option FieldType) (na : Nat) : Prop := Cond.methodLink own idx y ∈ wsL_law ∧ Cond.initialized y.cls ∈ wsL_law ∧ Cond.code y cb mL ret ∈ wsL_law ∧ y.cls ≠ "java/lang/invoke/MethodHandle" ∧ y.cls ≠ "java/lang/invoke/VarHandle" ∧ (parseMethodDescriptor y.desc).map (fun d => d.parameters.length) = some na
theorem wsL_good : wsL_law.all goodWord = true := by decide +kernel
theorem goodG {w : Cond} (h : w ∈ wsL_law) : GoodIn wsL_law (w :: wsL_law) := fun u hu => by
  have hm : u ∈ wsL_law := by
    rcases List.mem_cons.mp hu with e | e
    · rw [e]; exact h
    · exact e
  exact ⟨hm, good_of_word (List.all_eq_true.mp wsL_good u hm)⟩
theorem cwb_of {R : Room} {s : State} {args : Array Value} {own : String} {idx : Nat} {y : MethodName} {cb : ByteArray} {mL : Nat} {ret : Option FieldType} {na : Nat} {rm : Room} (hts : ∀ w ∈ wsL_law, w.before args s = true) (h : CWB own idx y cb mL ret na) (hc : rm.cells = 0) (hs : rm.slots = 0) (hf : rm.frames + 1 ≤ R.frames) (hlo : 8 + (mL + 11) + rm.locals ≤ R.locals) : CallB R s args own idx y cb mL ret (Cond.code y cb mL ret :: wsL_law) rm 0 0 na := by
  obtain ⟨h1, h2, h3, h4, h5, h6⟩ := h
  refine ⟨hc, hs, hf, hlo, pay_in hts (goodG h3), List.mem_cons_self, hts _ h3, hts _ h2, ⟨h4, h5⟩, fun sig h => ?_, hts _ h1⟩
  rw [h] at h6
  exact (Option.some.inj h6).symm
theorem Pw_blind {X : Type} {Z : EC} {w : X → va_W} {x : X} {sz : Nat} {As : List Value} : FrameBlind (va_Pc As (Pw Z w x sz)) := fun a U g mk q => by
  obtain ⟨q0, q1, qP, qK, qD⟩ := q
  exact ⟨q0, q1, qP, va_K.moved (u := U) (U := U.calling g mk a) (Vm.Alike.refl U.vm) qK, qD⟩
theorem free_all {A0 : Nat → Prop} {ws : va_W} {H0 H : Heap} {locs : List Loc} (hD : va_D A0 ws) (hS : va_S A0 H0 H locs) (hA : ∀ q : Nat, H0.size ≤ q → A0 q) : ∀ q : Nat, va_A ws H.size q → A0 q := by
  intro q h
  rcases h with ⟨k, e, h⟩ | h
  · exact hD.2 k _ h
  · exact hA q (Nat.le_trans hS.1 h)
section JC
variable {l0 : Launch} {Z : EC} {X : Type} {w0 : X → va_W} {Γ : CTX X} {x : X} {cc : ByteArray} {own : String} {rm : Room} {n pc : Nat} {L : List (Option Value)} {st : List Value} {idx : Nat} {y : MethodName} {cb : ByteArray} {mL na : Nat} {rm2 : Room} {As : List Value}
theorem J_callVi (C : CJ l0 Z w0 Γ cc own rm n) {post : Int32 → X → Prop} {st0 : List Value} {b q0 ci N : Nat} {Cn : String} {T : u_T} {fs : List Value} (hM : MIi l0 Z w0 y cb mL rm2 (.ref b :: As) x post) (hcw : CWB own idx y cb mL (some .int) na) (hin : Cond.instanceMethod y ∈ wsL_law) (hse : Cond.selects Cn y y ∈ wsL_law) (he : (w0 x)[q0]? = some (b, .inr (ci, fs))) (hc : vwCl[ci]? = some (Cn, T, N)) (hst : st0 = As.reverse ++ .ref b :: st) (hna : As.length = na) (hsum : (st.map fun v => v.category).sum ≤ 8) (hrc : rm2.cells = 0) (hrs : rm2.slots = 0) (hrf : rm2.frames + 1 ≤ rm.frames) (hrl : 8 + (mL + 11) + rm2.locals ≤ rm.locals) (d : decode cc pc = .ok (.invokevirtual idx, 3)) (kk : ∀ (r : Int32) (x1 : X), post r x1 → J Γ x1 (pc + 3) L (.int r :: st)) : J Γ x pc L st0 := by
  obtain ⟨p, l, e, R, s, m, args, below, meth, c, Q, A, H0, nL, D, tys, w⟩ := Γ
  obtain ⟨hx, hb, hml, hn, hown, hts, hK, hA, hR, hl0, hD0, hty, hw⟩ := C
  subst hw
  subst hty
  subst hD0
  subst hR
  subst hl0
  subst hst
  intro H locs ls hP hD hS hL
  have hFc := free_all hD hS hA
  refine va_calli (va_runV (C := Cn) (As := As) (rest := st) ⟨hx, hb, hml.trans hn, hown, hts⟩ (hM H.size) ⟨cwb_of hts hcw hrc hrs hrf hrl, hts _ hin, hts _ hse⟩ ⟨Pw_blind, va_recv hK hP hc he, fun U hU hW => ⟨rfl, by rw [hU], by rw [hU]; exact hP, va_K.moved hW.alike hK, hD.weaken (fun _ _ _ _ => trivial)⟩⟩ rfl hna (hL.1.trans hn) rfl (lv_room hsum) d ⟨Nat.zero_le _, Nat.zero_le _⟩) hS (fun q _ h => hFc q h) hFc (fun r u t H1 locs1 ht hvm hw hB hz1 hk1 hS => ?_)
  obtain ⟨hP1, hK1, hD1⟩ := hB
  rw [ht] at hP1
  exact kk r u hw H1 locs1 ls hP1 (hD1.weaken (fun _ q _ h => hFc q.1 h)) hS hL
theorem J_callSi (C : CJ l0 Z w0 Γ cc own rm n) {post : Int32 → X → Prop} {st0 : List Value} (hM : MIi l0 Z w0 y cb mL rm2 As x post) (hcw : CWB own idx y cb mL (some .int) na) (hin : Cond.static y ∈ wsL_law) (hst : st0 = As.reverse ++ st) (hna : As.length = na) (hsum : (st.map fun v => v.category).sum ≤ 8) (hrc : rm2.cells = 0) (hrs : rm2.slots = 0) (hrf : rm2.frames + 1 ≤ rm.frames) (hrl : 8 + (mL + 11) + rm2.locals ≤ rm.locals) (d : decode cc pc = .ok (.invokestatic idx, 3)) (kk : ∀ (r : Int32) (x1 : X), post r x1 → J Γ x1 (pc + 3) L (.int r :: st)) : J Γ x pc L st0 := by
  obtain ⟨p, l, e, R, s, m, args, below, meth, c, Q, A, H0, nL, D, tys, w⟩ := Γ
  obtain ⟨hx, hb, hml, hn, hown, hts, hK, hA, hR, hl0, hD0, hty, hw⟩ := C
  subst hw
  subst hty
  subst hD0
  subst hR
  subst hl0
  subst hst
  intro H locs ls hP hD hS hL
  have hFc := free_all hD hS hA
  refine va_calli (va_runS (As := As) (rest := st) ⟨hx, hb, hml.trans hn, hown, hts⟩ (hM H.size) ⟨cwb_of hts hcw hrc hrs hrf hrl, hts _ hin⟩ ⟨Pw_blind, fun U hU hW => ⟨rfl, by rw [hU], by rw [hU]; exact hP, va_K.moved hW.alike hK, hD.weaken (fun _ _ _ _ => trivial)⟩⟩ rfl hna (hL.1.trans hn) rfl (lv_room hsum) d ⟨Nat.zero_le _, Nat.zero_le _⟩) hS (fun q _ h => hFc q h) hFc (fun r u t H1 locs1 ht hvm hw hB hz1 hk1 hS => ?_)
  obtain ⟨hP1, hK1, hD1⟩ := hB
  rw [ht] at hP1
  exact kk r u hw H1 locs1 ls hP1 (hD1.weaken (fun _ q _ h => hFc q.1 h)) hS hL
theorem J_callVz (C : CJ l0 Z w0 Γ cc own rm n) {post : Bool → X → Prop} {st0 : List Value} {b q0 ci N : Nat} {Cn : String} {T : u_T} {fs : List Value} (hM : MIz l0 Z w0 y cb mL rm2 (.ref b :: As) x post) (hcw : CWB own idx y cb mL (some .boolean) na) (hin : Cond.instanceMethod y ∈ wsL_law) (hse : Cond.selects Cn y y ∈ wsL_law) (he : (w0 x)[q0]? = some (b, .inr (ci, fs))) (hc : vwCl[ci]? = some (Cn, T, N)) (hst : st0 = As.reverse ++ .ref b :: st) (hna : As.length = na) (hsum : (st.map fun v => v.category).sum ≤ 8) (hrc : rm2.cells = 0) (hrs : rm2.slots = 0) (hrf : rm2.frames + 1 ≤ rm.frames) (hrl : 8 + (mL + 11) + rm2.locals ≤ rm.locals) (d : decode cc pc = .ok (.invokevirtual idx, 3)) (kk : ∀ (b : Bool) (x1 : X), post b x1 → J Γ x1 (pc + 3) L (.int (b2i b) :: st)) : J Γ x pc L st0 := by
  obtain ⟨p, l, e, R, s, m, args, below, meth, c, Q, A, H0, nL, D, tys, w⟩ := Γ
  obtain ⟨hx, hb, hml, hn, hown, hts, hK, hA, hR, hl0, hD0, hty, hw⟩ := C
  subst hw
  subst hty
  subst hD0
  subst hR
  subst hl0
  subst hst
  intro H locs ls hP hD hS hL
  have hFc := free_all hD hS hA
  refine va_calli (va_runV (C := Cn) (As := As) (rest := st) ⟨hx, hb, hml.trans hn, hown, hts⟩ (hM H.size) ⟨cwb_of hts hcw hrc hrs hrf hrl, hts _ hin, hts _ hse⟩ ⟨Pw_blind, va_recv hK hP hc he, fun U hU hW => ⟨rfl, by rw [hU], by rw [hU]; exact hP, va_K.moved hW.alike hK, hD.weaken (fun _ _ _ _ => trivial)⟩⟩ rfl hna (hL.1.trans hn) rfl (lv_room hsum) d ⟨Nat.zero_le _, Nat.zero_le _⟩) hS (fun q _ h => hFc q h) hFc (fun r u t H1 locs1 ht hvm hw hB hz1 hk1 hS => ?_)
  obtain ⟨bb, rfl, hw⟩ := hw
  obtain ⟨hP1, hK1, hD1⟩ := hB
  rw [ht] at hP1
  exact kk bb u hw H1 locs1 ls hP1 (hD1.weaken (fun _ q _ h => hFc q.1 h)) hS hL
theorem J_callSz (C : CJ l0 Z w0 Γ cc own rm n) {post : Bool → X → Prop} {st0 : List Value} (hM : MIz l0 Z w0 y cb mL rm2 As x post) (hcw : CWB own idx y cb mL (some .boolean) na) (hin : Cond.static y ∈ wsL_law) (hst : st0 = As.reverse ++ st) (hna : As.length = na) (hsum : (st.map fun v => v.category).sum ≤ 8) (hrc : rm2.cells = 0) (hrs : rm2.slots = 0) (hrf : rm2.frames + 1 ≤ rm.frames) (hrl : 8 + (mL + 11) + rm2.locals ≤ rm.locals) (d : decode cc pc = .ok (.invokestatic idx, 3)) (kk : ∀ (b : Bool) (x1 : X), post b x1 → J Γ x1 (pc + 3) L (.int (b2i b) :: st)) : J Γ x pc L st0 := by
  obtain ⟨p, l, e, R, s, m, args, below, meth, c, Q, A, H0, nL, D, tys, w⟩ := Γ
  obtain ⟨hx, hb, hml, hn, hown, hts, hK, hA, hR, hl0, hD0, hty, hw⟩ := C
  subst hw
  subst hty
  subst hD0
  subst hR
  subst hl0
  subst hst
  intro H locs ls hP hD hS hL
  have hFc := free_all hD hS hA
  refine va_calli (va_runS (As := As) (rest := st) ⟨hx, hb, hml.trans hn, hown, hts⟩ (hM H.size) ⟨cwb_of hts hcw hrc hrs hrf hrl, hts _ hin⟩ ⟨Pw_blind, fun U hU hW => ⟨rfl, by rw [hU], by rw [hU]; exact hP, va_K.moved hW.alike hK, hD.weaken (fun _ _ _ _ => trivial)⟩⟩ rfl hna (hL.1.trans hn) rfl (lv_room hsum) d ⟨Nat.zero_le _, Nat.zero_le _⟩) hS (fun q _ h => hFc q h) hFc (fun r u t H1 locs1 ht hvm hw hB hz1 hk1 hS => ?_)
  obtain ⟨bb, rfl, hw⟩ := hw
  obtain ⟨hP1, hK1, hD1⟩ := hB
  rw [ht] at hP1
  exact kk bb u hw H1 locs1 ls hP1 (hD1.weaken (fun _ q _ h => hFc q.1 h)) hS hL
theorem J_callVl (C : CJ l0 Z w0 Γ cc own rm n) {post : Int64 → X → Prop} {st0 : List Value} {b q0 ci N : Nat} {Cn : String} {T : u_T} {fs : List Value} (hM : MIl l0 Z w0 y cb mL rm2 (.ref b :: As) x post) (hcw : CWB own idx y cb mL (some .long) na) (hin : Cond.instanceMethod y ∈ wsL_law) (hse : Cond.selects Cn y y ∈ wsL_law) (he : (w0 x)[q0]? = some (b, .inr (ci, fs))) (hc : vwCl[ci]? = some (Cn, T, N)) (hst : st0 = As.reverse ++ .ref b :: st) (hna : As.length = na) (hsum : (st.map fun v => v.category).sum ≤ 8) (hrc : rm2.cells = 0) (hrs : rm2.slots = 0) (hrf : rm2.frames + 1 ≤ rm.frames) (hrl : 8 + (mL + 11) + rm2.locals ≤ rm.locals) (d : decode cc pc = .ok (.invokevirtual idx, 3)) (kk : ∀ (r : Int64) (x1 : X), post r x1 → J Γ x1 (pc + 3) L (.long r :: st)) : J Γ x pc L st0 := by
  obtain ⟨p, l, e, R, s, m, args, below, meth, c, Q, A, H0, nL, D, tys, w⟩ := Γ
  obtain ⟨hx, hb, hml, hn, hown, hts, hK, hA, hR, hl0, hD0, hty, hw⟩ := C
  subst hw
  subst hty
  subst hD0
  subst hR
  subst hl0
  subst hst
  intro H locs ls hP hD hS hL
  have hFc := free_all hD hS hA
  refine va_calll (va_runV (C := Cn) (As := As) (rest := st) ⟨hx, hb, hml.trans hn, hown, hts⟩ (hM H.size) ⟨cwb_of hts hcw hrc hrs hrf hrl, hts _ hin, hts _ hse⟩ ⟨Pw_blind, va_recv hK hP hc he, fun U hU hW => ⟨rfl, by rw [hU], by rw [hU]; exact hP, va_K.moved hW.alike hK, hD.weaken (fun _ _ _ _ => trivial)⟩⟩ rfl hna (hL.1.trans hn) rfl (lv_room hsum) d ⟨Nat.zero_le _, Nat.zero_le _⟩) hS (fun q _ h => hFc q h) hFc (fun r u t H1 locs1 ht hvm hw hB hz1 hk1 hS => ?_)
  obtain ⟨hP1, hK1, hD1⟩ := hB
  rw [ht] at hP1
  exact kk r u hw H1 locs1 ls hP1 (hD1.weaken (fun _ q _ h => hFc q.1 h)) hS hL
theorem J_callSl (C : CJ l0 Z w0 Γ cc own rm n) {post : Int64 → X → Prop} {st0 : List Value} (hM : MIl l0 Z w0 y cb mL rm2 As x post) (hcw : CWB own idx y cb mL (some .long) na) (hin : Cond.static y ∈ wsL_law) (hst : st0 = As.reverse ++ st) (hna : As.length = na) (hsum : (st.map fun v => v.category).sum ≤ 8) (hrc : rm2.cells = 0) (hrs : rm2.slots = 0) (hrf : rm2.frames + 1 ≤ rm.frames) (hrl : 8 + (mL + 11) + rm2.locals ≤ rm.locals) (d : decode cc pc = .ok (.invokestatic idx, 3)) (kk : ∀ (r : Int64) (x1 : X), post r x1 → J Γ x1 (pc + 3) L (.long r :: st)) : J Γ x pc L st0 := by
  obtain ⟨p, l, e, R, s, m, args, below, meth, c, Q, A, H0, nL, D, tys, w⟩ := Γ
  obtain ⟨hx, hb, hml, hn, hown, hts, hK, hA, hR, hl0, hD0, hty, hw⟩ := C
  subst hw
  subst hty
  subst hD0
  subst hR
  subst hl0
  subst hst
  intro H locs ls hP hD hS hL
  have hFc := free_all hD hS hA
  refine va_calll (va_runS (As := As) (rest := st) ⟨hx, hb, hml.trans hn, hown, hts⟩ (hM H.size) ⟨cwb_of hts hcw hrc hrs hrf hrl, hts _ hin⟩ ⟨Pw_blind, fun U hU hW => ⟨rfl, by rw [hU], by rw [hU]; exact hP, va_K.moved hW.alike hK, hD.weaken (fun _ _ _ _ => trivial)⟩⟩ rfl hna (hL.1.trans hn) rfl (lv_room hsum) d ⟨Nat.zero_le _, Nat.zero_le _⟩) hS (fun q _ h => hFc q h) hFc (fun r u t H1 locs1 ht hvm hw hB hz1 hk1 hS => ?_)
  obtain ⟨hP1, hK1, hD1⟩ := hB
  rw [ht] at hP1
  exact kk r u hw H1 locs1 ls hP1 (hD1.weaken (fun _ q _ h => hFc q.1 h)) hS hL
theorem J_callVv (C : CJ l0 Z w0 Γ cc own rm n) {post : X → Prop} {st0 : List Value} {b q0 ci N : Nat} {Cn : String} {T : u_T} {fs : List Value} (hM : MIv l0 Z w0 y cb mL rm2 (.ref b :: As) x post) (hcw : CWB own idx y cb mL (none) na) (hin : Cond.instanceMethod y ∈ wsL_law) (hse : Cond.selects Cn y y ∈ wsL_law) (he : (w0 x)[q0]? = some (b, .inr (ci, fs))) (hc : vwCl[ci]? = some (Cn, T, N)) (hst : st0 = As.reverse ++ .ref b :: st) (hna : As.length = na) (hsum : (st.map fun v => v.category).sum ≤ 8) (hrc : rm2.cells = 0) (hrs : rm2.slots = 0) (hrf : rm2.frames + 1 ≤ rm.frames) (hrl : 8 + (mL + 11) + rm2.locals ≤ rm.locals) (d : decode cc pc = .ok (.invokevirtual idx, 3)) (kk : ∀ (x1 : X), post x1 → J Γ x1 (pc + 3) L st) : J Γ x pc L st0 := by
  obtain ⟨p, l, e, R, s, m, args, below, meth, c, Q, A, H0, nL, D, tys, w⟩ := Γ
  obtain ⟨hx, hb, hml, hn, hown, hts, hK, hA, hR, hl0, hD0, hty, hw⟩ := C
  subst hw
  subst hty
  subst hD0
  subst hR
  subst hl0
  subst hst
  intro H locs ls hP hD hS hL
  have hFc := free_all hD hS hA
  refine va_callv (va_runV (C := Cn) (As := As) (rest := st) ⟨hx, hb, hml.trans hn, hown, hts⟩ (hM H.size) ⟨cwb_of hts hcw hrc hrs hrf hrl, hts _ hin, hts _ hse⟩ ⟨Pw_blind, va_recv hK hP hc he, fun U hU hW => ⟨rfl, by rw [hU], by rw [hU]; exact hP, va_K.moved hW.alike hK, hD.weaken (fun _ _ _ _ => trivial)⟩⟩ rfl hna (hL.1.trans hn) rfl (lv_room hsum) d ⟨Nat.zero_le _, Nat.zero_le _⟩) hS (fun q _ h => hFc q h) hFc (fun u t H1 locs1 ht hvm hw hB hz1 hk1 hS => ?_)
  obtain ⟨hP1, hK1, hD1⟩ := hB
  rw [ht] at hP1
  exact kk u hw H1 locs1 ls hP1 (hD1.weaken (fun _ q _ h => hFc q.1 h)) hS hL
theorem J_callSv (C : CJ l0 Z w0 Γ cc own rm n) {post : X → Prop} {st0 : List Value} (hM : MIv l0 Z w0 y cb mL rm2 As x post) (hcw : CWB own idx y cb mL (none) na) (hin : Cond.static y ∈ wsL_law) (hst : st0 = As.reverse ++ st) (hna : As.length = na) (hsum : (st.map fun v => v.category).sum ≤ 8) (hrc : rm2.cells = 0) (hrs : rm2.slots = 0) (hrf : rm2.frames + 1 ≤ rm.frames) (hrl : 8 + (mL + 11) + rm2.locals ≤ rm.locals) (d : decode cc pc = .ok (.invokestatic idx, 3)) (kk : ∀ (x1 : X), post x1 → J Γ x1 (pc + 3) L st) : J Γ x pc L st0 := by
  obtain ⟨p, l, e, R, s, m, args, below, meth, c, Q, A, H0, nL, D, tys, w⟩ := Γ
  obtain ⟨hx, hb, hml, hn, hown, hts, hK, hA, hR, hl0, hD0, hty, hw⟩ := C
  subst hw
  subst hty
  subst hD0
  subst hR
  subst hl0
  subst hst
  intro H locs ls hP hD hS hL
  have hFc := free_all hD hS hA
  refine va_callv (va_runS (As := As) (rest := st) ⟨hx, hb, hml.trans hn, hown, hts⟩ (hM H.size) ⟨cwb_of hts hcw hrc hrs hrf hrl, hts _ hin⟩ ⟨Pw_blind, fun U hU hW => ⟨rfl, by rw [hU], by rw [hU]; exact hP, va_K.moved hW.alike hK, hD.weaken (fun _ _ _ _ => trivial)⟩⟩ rfl hna (hL.1.trans hn) rfl (lv_room hsum) d ⟨Nat.zero_le _, Nat.zero_le _⟩) hS (fun q _ h => hFc q h) hFc (fun u t H1 locs1 ht hvm hw hB hz1 hk1 hS => ?_)
  obtain ⟨hP1, hK1, hD1⟩ := hB
  rw [ht] at hP1
  exact kk u hw H1 locs1 ls hP1 (hD1.weaken (fun _ q _ h => hFc q.1 h)) hS hL
end JC
def lv0 : List Value → List (Option Value)
  | [] => []
  | v :: vs => if v.category = 2 then some v :: none :: lv0 vs else some v :: lv0 vs
theorem lv0_at : ∀ (vs : List Value) (j i : Nat) (v : Value), (lv0 vs)[i]? = some (some v) → (j + i, v) ∈ lv_args j vs
  | [], j, i, v, h => by simp [lv0] at h
  | u :: vs, j, i, v, h => by
    unfold lv0 at h
    unfold lv_args
    by_cases hc : u.category = 2
    · rw [if_pos hc] at h ⊢
      match i, h with
      | 0, h => simp at h; subst h; exact List.mem_cons_self
      | 1, h => simp at h
      | i + 2, h =>
        simp only [List.getElem?_cons_succ] at h
        have := lv0_at vs (j + 2) i v h
        rw [show j + (i + 2) = j + 2 + i by omega]
        exact List.mem_cons_of_mem _ this
    · rw [if_neg hc] at h ⊢
      match i, h with
      | 0, h => simp at h; subst h; exact List.mem_cons_self
      | i + 1, h =>
        simp only [List.getElem?_cons_succ] at h
        have := lv0_at vs (j + 1) i v h
        rw [show j + (i + 1) = j + 1 + i by omega]
        exact List.mem_cons_of_mem _ this
theorem LV_entry {As : List Value} {n : Nat} {L0 : List (Option Value)} (h : (lg_sl As).length ≤ n) (hs : lsub L0 (lv0 As)) : LV ((lg_sl As ++ List.replicate (n - (lg_sl As).length) Slot.unset).toArray) n L0 := by
  obtain ⟨h1, h2, h3⟩ := lv_entry As h
  refine ⟨h1, h2, fun i v hi => ?_⟩
  have := lv0_at As 0 i v (lsub_at _ _ hs i v hi)
  rw [Nat.zero_add] at this
  exact h3 (i, v) this
theorem MIi_of {X : Type} {l : Launch} {Z : EC} {w : X → va_W} {y : MethodName} {cb : ByteArray} {mL : Nat} {rm : Room} {As : List Value} {x : X} {post : Int32 → X → Prop} {own : String} {L0 : List (Option Value)} (hy : plainName y.cls = true) (hown0 : y.cls = own) (hlen : (lg_sl As).length ≤ mL) (hL0 : lsub L0 (lv0 As)) (body : ∀ Γ : CTX X, CJ l Z w Γ cb own rm mL → (∀ {pc : Nat} {L : List (Option Value)} {r : Int32} {x1 : X}, decode cb pc = .ok (.ireturn, 1) → post r x1 → J Γ x1 pc L [.int r]) → J Γ x 0 L0 []) : MIi l Z w y cb mL rm As x post := by
  intro sz
  refine Met.ofW (cc := cb) (maxL := mL) (ret := some .int) hy rfl ?_
  intro p e s m args below meth c s₁ B hml hv
  obtain ⟨rfl, hsz, hP, hK, hD0⟩ := hv
  have hx := B.exec
  have hb := B.bytes
  have hr := B.returns
  have hts := atoms_spec (ws := Cond.code y cb mL (some .int) :: wsL_law) B.pre
  have hown : s.vm.findClass own = some m.cls := by rw [← hown0]; exact findClass_of_methodNamed B.named
  have hlocks := B.notSynchronized
  subst hsz
  have hD := hD0.self (sz := s.heap.size)
  generalize hAe : va_A (w x) s.heap.size = A at hD ⊢
  have hA : ∀ q : Nat, s.heap.size ≤ q → A q := fun q h => by rw [← hAe]; exact Or.inr h
  have hl := LV_entry hlen hL0
  rw [lg_entry_eq]
  refine body (p, l, e, rm, s, m, As.toArray, below, meth, c, _, A, s.heap, mL, Z.1, tyZ Z, w) ⟨hx, hb, hml, rfl, hown, fun u hu => hts u (List.mem_cons_of_mem _ hu), hK, hA, rfl, rfl, rfl, rfl, rfl⟩ ?_ s.heap [] _ hP hD va_S.rf hl
  intro pc L r x1 hd hp H locs ls hP hD hS hL
  rw [← hAe] at hD hS ⊢
  exact W.iret hx hb hr (fun t ht hW => ⟨⟨r, x1, rfl, hp, by rw [ht]; exact hP, va_K.moved hW.alike hK, hD⟩, hS.F ht⟩) hS.2.2 hd
theorem MIz_of {X : Type} {l : Launch} {Z : EC} {w : X → va_W} {y : MethodName} {cb : ByteArray} {mL : Nat} {rm : Room} {As : List Value} {x : X} {post : Bool → X → Prop} {own : String} {L0 : List (Option Value)} (hy : plainName y.cls = true) (hown0 : y.cls = own) (hlen : (lg_sl As).length ≤ mL) (hL0 : lsub L0 (lv0 As)) (body : ∀ Γ : CTX X, CJ l Z w Γ cb own rm mL → (∀ {pc : Nat} {L : List (Option Value)} {b : Bool} {x1 : X}, decode cb pc = .ok (.ireturn, 1) → post b x1 → J Γ x1 pc L [.int (b2i b)]) → J Γ x 0 L0 []) : MIz l Z w y cb mL rm As x post := by
  intro sz
  refine Met.ofW (cc := cb) (maxL := mL) (ret := some .boolean) hy rfl ?_
  intro p e s m args below meth c s₁ B hml hv
  obtain ⟨rfl, hsz, hP, hK, hD0⟩ := hv
  have hx := B.exec
  have hb := B.bytes
  have hr := B.returns
  have hts := atoms_spec (ws := Cond.code y cb mL (some .boolean) :: wsL_law) B.pre
  have hown : s.vm.findClass own = some m.cls := by rw [← hown0]; exact findClass_of_methodNamed B.named
  have hlocks := B.notSynchronized
  subst hsz
  have hD := hD0.self (sz := s.heap.size)
  generalize hAe : va_A (w x) s.heap.size = A at hD ⊢
  have hA : ∀ q : Nat, s.heap.size ≤ q → A q := fun q h => by rw [← hAe]; exact Or.inr h
  have hl := LV_entry hlen hL0
  rw [lg_entry_eq]
  refine body (p, l, e, rm, s, m, As.toArray, below, meth, c, _, A, s.heap, mL, Z.1, tyZ Z, w) ⟨hx, hb, hml, rfl, hown, fun u hu => hts u (List.mem_cons_of_mem _ hu), hK, hA, rfl, rfl, rfl, rfl, rfl⟩ ?_ s.heap [] _ hP hD va_S.rf hl
  intro pc L b x1 hd hp H locs ls hP hD hS hL
  rw [← hAe] at hD hS ⊢
  exact W.zret hx hb hr (b2i_nar b) (fun t ht hW => ⟨⟨b2i b, x1, rfl, ⟨b, rfl, hp⟩, by rw [ht]; exact hP, va_K.moved hW.alike hK, hD⟩, hS.F ht⟩) hS.2.2 hd
theorem MIl_of {X : Type} {l : Launch} {Z : EC} {w : X → va_W} {y : MethodName} {cb : ByteArray} {mL : Nat} {rm : Room} {As : List Value} {x : X} {post : Int64 → X → Prop} {own : String} {L0 : List (Option Value)} (hy : plainName y.cls = true) (hown0 : y.cls = own) (hlen : (lg_sl As).length ≤ mL) (hL0 : lsub L0 (lv0 As)) (body : ∀ Γ : CTX X, CJ l Z w Γ cb own rm mL → (∀ {pc : Nat} {L : List (Option Value)} {r : Int64} {x1 : X}, decode cb pc = .ok (.lreturn, 1) → post r x1 → J Γ x1 pc L [.long r]) → J Γ x 0 L0 []) : MIl l Z w y cb mL rm As x post := by
  intro sz
  refine Met.ofW (cc := cb) (maxL := mL) (ret := some .long) hy rfl ?_
  intro p e s m args below meth c s₁ B hml hv
  obtain ⟨rfl, hsz, hP, hK, hD0⟩ := hv
  have hx := B.exec
  have hb := B.bytes
  have hr := B.returns
  have hts := atoms_spec (ws := Cond.code y cb mL (some .long) :: wsL_law) B.pre
  have hown : s.vm.findClass own = some m.cls := by rw [← hown0]; exact findClass_of_methodNamed B.named
  have hlocks := B.notSynchronized
  subst hsz
  have hD := hD0.self (sz := s.heap.size)
  generalize hAe : va_A (w x) s.heap.size = A at hD ⊢
  have hA : ∀ q : Nat, s.heap.size ≤ q → A q := fun q h => by rw [← hAe]; exact Or.inr h
  have hl := LV_entry hlen hL0
  rw [lg_entry_eq]
  refine body (p, l, e, rm, s, m, As.toArray, below, meth, c, _, A, s.heap, mL, Z.1, tyZ Z, w) ⟨hx, hb, hml, rfl, hown, fun u hu => hts u (List.mem_cons_of_mem _ hu), hK, hA, rfl, rfl, rfl, rfl, rfl⟩ ?_ s.heap [] _ hP hD va_S.rf hl
  intro pc L r x1 hd hp H locs ls hP hD hS hL
  rw [← hAe] at hD hS ⊢
  exact W.lret hx hb hr (fun t ht hW => ⟨⟨r, x1, rfl, hp, by rw [ht]; exact hP, va_K.moved hW.alike hK, hD⟩, hS.F ht⟩) hS.2.2 hd
theorem MIv_of {X : Type} {l : Launch} {Z : EC} {w : X → va_W} {y : MethodName} {cb : ByteArray} {mL : Nat} {rm : Room} {As : List Value} {x : X} {post : X → Prop} {own : String} {L0 : List (Option Value)} (hy : plainName y.cls = true) (hown0 : y.cls = own) (hlen : (lg_sl As).length ≤ mL) (hL0 : lsub L0 (lv0 As)) (body : ∀ Γ : CTX X, CJ l Z w Γ cb own rm mL → (∀ {pc : Nat} {L : List (Option Value)} {x1 : X}, decode cb pc = .ok (.return_, 1) → post x1 → J Γ x1 pc L []) → J Γ x 0 L0 []) : MIv l Z w y cb mL rm As x post := by
  intro sz
  refine Met.ofW (cc := cb) (maxL := mL) (ret := none) hy rfl ?_
  intro p e s m args below meth c s₁ B hml hv
  obtain ⟨rfl, hsz, hP, hK, hD0⟩ := hv
  have hx := B.exec
  have hb := B.bytes
  have hr := B.returns
  have hts := atoms_spec (ws := Cond.code y cb mL (none) :: wsL_law) B.pre
  have hown : s.vm.findClass own = some m.cls := by rw [← hown0]; exact findClass_of_methodNamed B.named
  have hlocks := B.notSynchronized
  subst hsz
  have hD := hD0.self (sz := s.heap.size)
  generalize hAe : va_A (w x) s.heap.size = A at hD ⊢
  have hA : ∀ q : Nat, s.heap.size ≤ q → A q := fun q h => by rw [← hAe]; exact Or.inr h
  have hl := LV_entry hlen hL0
  rw [lg_entry_eq]
  refine body (p, l, e, rm, s, m, As.toArray, below, meth, c, _, A, s.heap, mL, Z.1, tyZ Z, w) ⟨hx, hb, hml, rfl, hown, fun u hu => hts u (List.mem_cons_of_mem _ hu), hK, hA, rfl, rfl, rfl, rfl, rfl⟩ ?_ s.heap [] _ hP hD va_S.rf hl
  intro pc L x1 hd hp H locs ls hP hD hS hL
  rw [← hAe] at hD hS ⊢
  exact W.vret hx hb hr (fun t ht hW => ⟨⟨x1, rfl, hp, by rw [ht]; exact hP, va_K.moved hW.alike hK, hD⟩, hS.F ht⟩) hS.2.2 hd
end
section
theorem wdm_1 : ∀ w ∈ wsL_law_r1, w ∈ wsL_law := fun _ h => List.mem_append_left _ (List.mem_append_left _ (List.mem_append_left _ (List.mem_append_left _ (List.mem_append_left _ (List.mem_append_left _ (List.mem_append_left _ (List.mem_append_left _ (List.mem_append_left _ (h)))))))))
theorem wd_1_0 : Cond.classLink RL 7 RX5 ∈ wsL_law := wdm_1 _ (List.mem_of_getElem? (i := 0) rfl)
theorem wd_1_1 : Cond.instantiable RX5 8 ∈ wsL_law := wdm_1 _ (List.mem_of_getElem? (i := 1) rfl)
theorem wd_1_2 : Cond.initialized RX5 ∈ wsL_law := wdm_1 _ (List.mem_of_getElem? (i := 2) rfl)
theorem wd_1_3 : Cond.classLink RL 10 RX6 ∈ wsL_law := wdm_1 _ (List.mem_of_getElem? (i := 3) rfl)
theorem wd_1_4 : Cond.instantiable RX6 33 ∈ wsL_law := wdm_1 _ (List.mem_of_getElem? (i := 4) rfl)
theorem wd_1_5 : Cond.initialized RX6 ∈ wsL_law := wdm_1 _ (List.mem_of_getElem? (i := 5) rfl)
theorem wd_1_6 : Cond.methodLink RL 9 yX5_init ∈ wsL_law := wdm_1 _ (List.mem_of_getElem? (i := 6) rfl)
theorem wd_1_7 : Cond.instanceMethod yX5_init ∈ wsL_law := wdm_1 _ (List.mem_of_getElem? (i := 7) rfl)
theorem wd_1_8 : Cond.code yX5_init cX5_init 2 none ∈ wsL_law := wdm_1 _ (List.mem_of_getElem? (i := 8) rfl)
theorem wd_1_9 : Cond.methodLink RX5 3 objectInit ∈ wsL_law := wdm_1 _ (List.mem_of_getElem? (i := 9) rfl)
theorem wd_1_10 : Cond.instanceMethod objectInit ∈ wsL_law := wdm_1 _ (List.mem_of_getElem? (i := 10) rfl)
theorem wd_1_11 : Cond.code objectInit ⟨#[0xb1]⟩ 1 none ∈ wsL_law := wdm_1 _ (List.mem_of_getElem? (i := 11) rfl)
theorem wd_1_12 : Cond.classLink RX5 11 RX3 ∈ wsL_law := wdm_1 _ (List.mem_of_getElem? (i := 12) rfl)
theorem wd_1_13 : Cond.fieldLink RX5 13 "TideSeats" "sheets" "[LTideSeats$Sheet;" ∈ wsL_law := wdm_1 _ (List.mem_of_getElem? (i := 13) rfl)
theorem wd_1_14 : Cond.instantiable RX3 4 ∈ wsL_law := wdm_1 _ (List.mem_of_getElem? (i := 14) rfl)
theorem wd_1_15 : Cond.initialized RX3 ∈ wsL_law := wdm_1 _ (List.mem_of_getElem? (i := 15) rfl)
theorem wd_1_16 : Cond.classLink RX5 18 RX0 ∈ wsL_law := wdm_1 _ (List.mem_of_getElem? (i := 16) rfl)
theorem wd_1_17 : Cond.instantiable RX0 4 ∈ wsL_law := wdm_1 _ (List.mem_of_getElem? (i := 17) rfl)
theorem wd_1_18 : Cond.initialized RX0 ∈ wsL_law := wdm_1 _ (List.mem_of_getElem? (i := 18) rfl)
theorem wd_1_19 : Cond.fieldLink RX5 21 "TideSeats" "reader" "LTideSeats$Reader;" ∈ wsL_law := wdm_1 _ (List.mem_of_getElem? (i := 19) rfl)
theorem wd_1_20 : Cond.classLink RX5 25 RX1 ∈ wsL_law := wdm_1 _ (List.mem_of_getElem? (i := 20) rfl)
theorem wd_1_21 : Cond.instantiable RX1 4 ∈ wsL_law := wdm_1 _ (List.mem_of_getElem? (i := 21) rfl)
theorem wd_1_22 : Cond.initialized RX1 ∈ wsL_law := wdm_1 _ (List.mem_of_getElem? (i := 22) rfl)
theorem wd_1_23 : Cond.fieldLink RX5 28 "TideSeats" "readings" "LTideSeats$Readings;" ∈ wsL_law := wdm_1 _ (List.mem_of_getElem? (i := 23) rfl)
theorem wdm_2 : ∀ w ∈ wsL_law_r2, w ∈ wsL_law := fun _ h => List.mem_append_left _ (List.mem_append_left _ (List.mem_append_left _ (List.mem_append_left _ (List.mem_append_left _ (List.mem_append_left _ (List.mem_append_left _ (List.mem_append_left _ (List.mem_append_right _ (List.mem_append_left _ (h))))))))))
theorem wd_2_0 : Cond.classLink RX5 32 RX2 ∈ wsL_law := wdm_2 _ (List.mem_of_getElem? (i := 0) rfl)
theorem wd_2_1 : Cond.instantiable RX2 6 ∈ wsL_law := wdm_2 _ (List.mem_of_getElem? (i := 1) rfl)
theorem wd_2_2 : Cond.initialized RX2 ∈ wsL_law := wdm_2 _ (List.mem_of_getElem? (i := 2) rfl)
theorem wd_2_3 : Cond.fieldLink RX5 35 "TideSeats" "route" "LTideSeats$Route;" ∈ wsL_law := wdm_2 _ (List.mem_of_getElem? (i := 3) rfl)
theorem wd_2_4 : Cond.classLink RX5 39 RX4 ∈ wsL_law := wdm_2 _ (List.mem_of_getElem? (i := 4) rfl)
theorem wd_2_5 : Cond.instantiable RX4 10 ∈ wsL_law := wdm_2 _ (List.mem_of_getElem? (i := 5) rfl)
theorem wd_2_6 : Cond.initialized RX4 ∈ wsL_law := wdm_2 _ (List.mem_of_getElem? (i := 6) rfl)
theorem wd_2_7 : Cond.fieldLink RX5 42 "TideSeats" "shore" "LTideSeats$Shore;" ∈ wsL_law := wdm_2 _ (List.mem_of_getElem? (i := 7) rfl)
theorem wd_2_8 : Cond.fieldLink RX5 46 "TideSeats" "trial" "LTideSeats$Shore;" ∈ wsL_law := wdm_2 _ (List.mem_of_getElem? (i := 8) rfl)
theorem wd_2_9 : Cond.instanceMethod yX3_init ∈ wsL_law := wdm_2 _ (List.mem_of_getElem? (i := 9) rfl)
theorem wd_2_10 : Cond.code yX3_init cX3_init 1 none ∈ wsL_law := wdm_2 _ (List.mem_of_getElem? (i := 10) rfl)
theorem wd_2_11 : Cond.methodLink RX3 3 objectInit ∈ wsL_law := wdm_2 _ (List.mem_of_getElem? (i := 11) rfl)
theorem wd_2_12 : Cond.arrayClass .int ∈ wsL_law := wdm_2 _ (List.mem_of_getElem? (i := 12) rfl)
theorem wd_2_13 : Cond.fieldLink RX3 9 "TideSeats$Sheet" "cells" "[I" ∈ wsL_law := wdm_2 _ (List.mem_of_getElem? (i := 13) rfl)
theorem wd_2_14 : Cond.instanceMethod yX0_init ∈ wsL_law := wdm_2 _ (List.mem_of_getElem? (i := 14) rfl)
theorem wd_2_15 : Cond.code yX0_init cX0_init 1 none ∈ wsL_law := wdm_2 _ (List.mem_of_getElem? (i := 15) rfl)
theorem wd_2_16 : Cond.methodLink RX0 3 objectInit ∈ wsL_law := wdm_2 _ (List.mem_of_getElem? (i := 16) rfl)
theorem wd_2_17 : Cond.instanceMethod yX1_init ∈ wsL_law := wdm_2 _ (List.mem_of_getElem? (i := 17) rfl)
theorem wd_2_18 : Cond.code yX1_init cX1_init 1 none ∈ wsL_law := wdm_2 _ (List.mem_of_getElem? (i := 18) rfl)
theorem wd_2_19 : Cond.methodLink RX1 3 objectInit ∈ wsL_law := wdm_2 _ (List.mem_of_getElem? (i := 19) rfl)
theorem wd_2_20 : Cond.fieldLink RX1 9 "TideSeats$Readings" "who" "[I" ∈ wsL_law := wdm_2 _ (List.mem_of_getElem? (i := 20) rfl)
theorem wd_2_21 : Cond.fieldLink RX1 15 "TideSeats$Readings" "when" "[I" ∈ wsL_law := wdm_2 _ (List.mem_of_getElem? (i := 21) rfl)
theorem wd_2_22 : Cond.fieldLink RX1 18 "TideSeats$Readings" "where" "[I" ∈ wsL_law := wdm_2 _ (List.mem_of_getElem? (i := 22) rfl)
theorem wd_2_23 : Cond.instanceMethod yX2_init ∈ wsL_law := wdm_2 _ (List.mem_of_getElem? (i := 23) rfl)
theorem wdm_3 : ∀ w ∈ wsL_law_r3, w ∈ wsL_law := fun _ h => List.mem_append_left _ (List.mem_append_left _ (List.mem_append_left _ (List.mem_append_left _ (List.mem_append_left _ (List.mem_append_left _ (List.mem_append_left _ (List.mem_append_left _ (List.mem_append_right _ (List.mem_append_right _ (List.mem_append_left _ (h)))))))))))
theorem wd_3_0 : Cond.code yX2_init cX2_init 1 none ∈ wsL_law := wdm_3 _ (List.mem_of_getElem? (i := 0) rfl)
theorem wd_3_1 : Cond.methodLink RX2 3 objectInit ∈ wsL_law := wdm_3 _ (List.mem_of_getElem? (i := 1) rfl)
theorem wd_3_2 : Cond.classLink RX2 11 "[[I" ∈ wsL_law := wdm_3 _ (List.mem_of_getElem? (i := 2) rfl)
theorem wd_3_3 : Cond.fieldLink RX2 13 "TideSeats$Route" "behind" "[[I" ∈ wsL_law := wdm_3 _ (List.mem_of_getElem? (i := 3) rfl)
theorem wd_3_4 : Cond.fieldLink RX2 16 "TideSeats$Route" "far" "[I" ∈ wsL_law := wdm_3 _ (List.mem_of_getElem? (i := 4) rfl)
theorem wd_3_5 : Cond.fieldLink RX2 20 "TideSeats$Route" "row" "[I" ∈ wsL_law := wdm_3 _ (List.mem_of_getElem? (i := 5) rfl)
theorem wd_3_6 : Cond.instanceMethod yX4_init ∈ wsL_law := wdm_3 _ (List.mem_of_getElem? (i := 6) rfl)
theorem wd_3_7 : Cond.code yX4_init cX4_init 1 none ∈ wsL_law := wdm_3 _ (List.mem_of_getElem? (i := 7) rfl)
theorem wd_3_8 : Cond.methodLink RX4 3 objectInit ∈ wsL_law := wdm_3 _ (List.mem_of_getElem? (i := 8) rfl)
theorem wd_3_9 : Cond.fieldLink RX4 9 "TideSeats$Shore" "heights" "[I" ∈ wsL_law := wdm_3 _ (List.mem_of_getElem? (i := 9) rfl)
theorem wd_3_10 : Cond.fieldLink RX4 15 "TideSeats$Shore" "depths" "[I" ∈ wsL_law := wdm_3 _ (List.mem_of_getElem? (i := 10) rfl)
theorem wd_3_11 : Cond.fieldLink RX4 18 "TideSeats$Shore" "kindOf" "[I" ∈ wsL_law := wdm_3 _ (List.mem_of_getElem? (i := 11) rfl)
theorem wd_3_12 : Cond.fieldLink RX4 21 "TideSeats$Shore" "seats" "[I" ∈ wsL_law := wdm_3 _ (List.mem_of_getElem? (i := 12) rfl)
theorem wd_3_13 : Cond.fieldLink RX4 24 "TideSeats$Shore" "views" "[I" ∈ wsL_law := wdm_3 _ (List.mem_of_getElem? (i := 13) rfl)
theorem wd_3_14 : Cond.methodLink RL 12 yX6_init ∈ wsL_law := wdm_3 _ (List.mem_of_getElem? (i := 14) rfl)
theorem wd_3_15 : Cond.instanceMethod yX6_init ∈ wsL_law := wdm_3 _ (List.mem_of_getElem? (i := 15) rfl)
theorem wd_3_16 : Cond.code yX6_init cX6_init 1 none ∈ wsL_law := wdm_3 _ (List.mem_of_getElem? (i := 16) rfl)
theorem wd_3_17 : Cond.methodLink RX6 1 objectInit ∈ wsL_law := wdm_3 _ (List.mem_of_getElem? (i := 17) rfl)
theorem wd_3_18 : Cond.fieldLink RX6 9 "TideSeatsModel" "sorts" "[I" ∈ wsL_law := wdm_3 _ (List.mem_of_getElem? (i := 18) rfl)
theorem wd_3_19 : Cond.fieldLink RX6 13 "TideSeatsModel" "sheetLong" "[I" ∈ wsL_law := wdm_3 _ (List.mem_of_getElem? (i := 19) rfl)
theorem wd_3_20 : Cond.fieldLink RX6 16 "TideSeatsModel" "cells" "[I" ∈ wsL_law := wdm_3 _ (List.mem_of_getElem? (i := 20) rfl)
theorem wd_3_21 : Cond.fieldLink RX6 19 "TideSeatsModel" "height" "[I" ∈ wsL_law := wdm_3 _ (List.mem_of_getElem? (i := 21) rfl)
theorem wd_3_22 : Cond.fieldLink RX6 22 "TideSeatsModel" "depth" "[I" ∈ wsL_law := wdm_3 _ (List.mem_of_getElem? (i := 22) rfl)
theorem wd_3_23 : Cond.fieldLink RX6 25 "TideSeatsModel" "kind" "[I" ∈ wsL_law := wdm_3 _ (List.mem_of_getElem? (i := 23) rfl)
theorem wdm_4 : ∀ w ∈ wsL_law_r4, w ∈ wsL_law := fun _ h => List.mem_append_left _ (List.mem_append_left _ (List.mem_append_left _ (List.mem_append_left _ (List.mem_append_left _ (List.mem_append_left _ (List.mem_append_left _ (List.mem_append_left _ (List.mem_append_right _ (List.mem_append_right _ (List.mem_append_right _ (List.mem_append_left _ (h))))))))))))
theorem wd_4_0 : Cond.fieldLink RX6 28 "TideSeatsModel" "poolOf" "[I" ∈ wsL_law := wdm_4 _ (List.mem_of_getElem? (i := 0) rfl)
theorem wd_4_1 : Cond.fieldLink RX6 31 "TideSeatsModel" "view" "[I" ∈ wsL_law := wdm_4 _ (List.mem_of_getElem? (i := 1) rfl)
theorem wd_4_2 : Cond.fieldLink RX6 34 "TideSeatsModel" "readHeight" "[I" ∈ wsL_law := wdm_4 _ (List.mem_of_getElem? (i := 2) rfl)
theorem wd_4_3 : Cond.fieldLink RX6 37 "TideSeatsModel" "readDepth" "[I" ∈ wsL_law := wdm_4 _ (List.mem_of_getElem? (i := 3) rfl)
theorem wd_4_4 : Cond.fieldLink RX6 40 "TideSeatsModel" "readKind" "[I" ∈ wsL_law := wdm_4 _ (List.mem_of_getElem? (i := 4) rfl)
theorem wd_4_5 : Cond.fieldLink RX6 43 "TideSeatsModel" "readPoolOf" "[I" ∈ wsL_law := wdm_4 _ (List.mem_of_getElem? (i := 5) rfl)
theorem wd_4_6 : Cond.fieldLink RX6 46 "TideSeatsModel" "readView" "[I" ∈ wsL_law := wdm_4 _ (List.mem_of_getElem? (i := 6) rfl)
theorem wd_4_7 : Cond.fieldLink RX6 49 "TideSeatsModel" "kept" "[I" ∈ wsL_law := wdm_4 _ (List.mem_of_getElem? (i := 7) rfl)
theorem wd_4_8 : Cond.fieldLink RX6 52 "TideSeatsModel" "left" "[I" ∈ wsL_law := wdm_4 _ (List.mem_of_getElem? (i := 8) rfl)
theorem wd_4_9 : Cond.fieldLink RX6 55 "TideSeatsModel" "readWho" "[I" ∈ wsL_law := wdm_4 _ (List.mem_of_getElem? (i := 9) rfl)
theorem wd_4_10 : Cond.fieldLink RX6 58 "TideSeatsModel" "readTide" "[I" ∈ wsL_law := wdm_4 _ (List.mem_of_getElem? (i := 10) rfl)
theorem wd_4_11 : Cond.fieldLink RX6 61 "TideSeatsModel" "readTo" "[I" ∈ wsL_law := wdm_4 _ (List.mem_of_getElem? (i := 11) rfl)
theorem wd_4_12 : Cond.methodLink RL 13 yX5_shore ∈ wsL_law := wdm_4 _ (List.mem_of_getElem? (i := 12) rfl)
theorem wd_4_13 : Cond.instanceMethod yX5_shore ∈ wsL_law := wdm_4 _ (List.mem_of_getElem? (i := 13) rfl)
theorem wd_4_14 : Cond.selects RX5 yX5_shore yX5_shore ∈ wsL_law := wdm_4 _ (List.mem_of_getElem? (i := 14) rfl)
theorem wd_4_15 : Cond.code yX5_shore cX5_shore 6 (some .int) ∈ wsL_law := wdm_4 _ (List.mem_of_getElem? (i := 15) rfl)
theorem wd_4_16 : Cond.fieldLink RX5 49 "TideSeats" "latestFault" "I" ∈ wsL_law := wdm_4 _ (List.mem_of_getElem? (i := 16) rfl)
theorem wd_4_17 : Cond.fieldLink RX5 83 "TideSeats$Readings" "count" "I" ∈ wsL_law := wdm_4 _ (List.mem_of_getElem? (i := 17) rfl)
theorem wd_4_18 : Cond.fieldLink RX5 86 "TideSeats$Shore" "members" "I" ∈ wsL_law := wdm_4 _ (List.mem_of_getElem? (i := 18) rfl)
theorem wd_4_19 : Cond.methodLink RX5 53 yX5_isSheet ∈ wsL_law := wdm_4 _ (List.mem_of_getElem? (i := 19) rfl)
theorem wd_4_20 : Cond.static yX5_isSheet ∈ wsL_law := wdm_4 _ (List.mem_of_getElem? (i := 20) rfl)
theorem wd_4_21 : Cond.code yX5_isSheet cX5_isSheet 1 (some .boolean) ∈ wsL_law := wdm_4 _ (List.mem_of_getElem? (i := 21) rfl)
theorem wd_4_22 : Cond.methodLink RX5 120 yX5_isWithin ∈ wsL_law := wdm_4 _ (List.mem_of_getElem? (i := 22) rfl)
theorem wd_4_23 : Cond.static yX5_isWithin ∈ wsL_law := wdm_4 _ (List.mem_of_getElem? (i := 23) rfl)
theorem wdm_5 : ∀ w ∈ wsL_law_r5, w ∈ wsL_law := fun _ h => List.mem_append_left _ (List.mem_append_left _ (List.mem_append_left _ (List.mem_append_left _ (List.mem_append_left _ (List.mem_append_left _ (List.mem_append_left _ (List.mem_append_left _ (List.mem_append_right _ (List.mem_append_right _ (List.mem_append_right _ (List.mem_append_right _ (List.mem_append_left _ (h)))))))))))))
theorem wd_5_0 : Cond.code yX5_isWithin cX5_isWithin 3 (some .boolean) ∈ wsL_law := wdm_5 _ (List.mem_of_getElem? (i := 0) rfl)
theorem wd_5_1 : Cond.methodLink RX5 57 yX5_isLane ∈ wsL_law := wdm_5 _ (List.mem_of_getElem? (i := 1) rfl)
theorem wd_5_2 : Cond.static yX5_isLane ∈ wsL_law := wdm_5 _ (List.mem_of_getElem? (i := 2) rfl)
theorem wd_5_3 : Cond.code yX5_isLane cX5_isLane 1 (some .boolean) ∈ wsL_law := wdm_5 _ (List.mem_of_getElem? (i := 3) rfl)
theorem wd_5_4 : Cond.methodLink RX5 60 yX5_rowFault ∈ wsL_law := wdm_5 _ (List.mem_of_getElem? (i := 4) rfl)
theorem wd_5_5 : Cond.static yX5_rowFault ∈ wsL_law := wdm_5 _ (List.mem_of_getElem? (i := 5) rfl)
theorem wd_5_6 : Cond.code yX5_rowFault cX5_rowFault 4 (some .int) ∈ wsL_law := wdm_5 _ (List.mem_of_getElem? (i := 6) rfl)
theorem wd_5_7 : Cond.fieldLink RX5 269 "TideSeats$Sheet" "isThere" "Z" ∈ wsL_law := wdm_5 _ (List.mem_of_getElem? (i := 7) rfl)
theorem wd_5_8 : Cond.fieldLink RX5 279 "TideSeats$Sheet" "lane" "I" ∈ wsL_law := wdm_5 _ (List.mem_of_getElem? (i := 8) rfl)
theorem wd_5_9 : Cond.methodLink RX5 273 yX3_has ∈ wsL_law := wdm_5 _ (List.mem_of_getElem? (i := 9) rfl)
theorem wd_5_10 : Cond.instanceMethod yX3_has ∈ wsL_law := wdm_5 _ (List.mem_of_getElem? (i := 10) rfl)
theorem wd_5_11 : Cond.selects RX3 yX3_has yX3_has ∈ wsL_law := wdm_5 _ (List.mem_of_getElem? (i := 11) rfl)
theorem wd_5_12 : Cond.code yX3_has cX3_has 3 (some .boolean) ∈ wsL_law := wdm_5 _ (List.mem_of_getElem? (i := 12) rfl)
theorem wd_5_13 : Cond.fieldLink RX3 23 "TideSeats$Sheet" "size" "I" ∈ wsL_law := wdm_5 _ (List.mem_of_getElem? (i := 13) rfl)
theorem wd_5_14 : Cond.methodLink RX5 64 yX5_faulted ∈ wsL_law := wdm_5 _ (List.mem_of_getElem? (i := 14) rfl)
theorem wd_5_15 : Cond.instanceMethod yX5_faulted ∈ wsL_law := wdm_5 _ (List.mem_of_getElem? (i := 15) rfl)
theorem wd_5_16 : Cond.selects RX5 yX5_faulted yX5_faulted ∈ wsL_law := wdm_5 _ (List.mem_of_getElem? (i := 16) rfl)
theorem wd_5_17 : Cond.code yX5_faulted cX5_faulted 2 (some .int) ∈ wsL_law := wdm_5 _ (List.mem_of_getElem? (i := 17) rfl)
theorem wd_5_18 : Cond.methodLink RX5 68 yX0_begin ∈ wsL_law := wdm_5 _ (List.mem_of_getElem? (i := 18) rfl)
theorem wd_5_19 : Cond.instanceMethod yX0_begin ∈ wsL_law := wdm_5 _ (List.mem_of_getElem? (i := 19) rfl)
theorem wd_5_20 : Cond.selects RX0 yX0_begin yX0_begin ∈ wsL_law := wdm_5 _ (List.mem_of_getElem? (i := 20) rfl)
theorem wd_5_21 : Cond.code yX0_begin cX0_begin 4 none ∈ wsL_law := wdm_5 _ (List.mem_of_getElem? (i := 21) rfl)
theorem wd_5_22 : Cond.fieldLink RX0 9 "TideSeats$Reader" "sheet" "LTideSeats$Sheet;" ∈ wsL_law := wdm_5 _ (List.mem_of_getElem? (i := 22) rfl)
theorem wd_5_23 : Cond.fieldLink RX0 15 "TideSeats$Reader" "start" "I" ∈ wsL_law := wdm_5 _ (List.mem_of_getElem? (i := 23) rfl)
theorem wdm_6 : ∀ w ∈ wsL_law_r6, w ∈ wsL_law := fun _ h => List.mem_append_left _ (List.mem_append_left _ (List.mem_append_left _ (List.mem_append_left _ (List.mem_append_left _ (List.mem_append_left _ (List.mem_append_left _ (List.mem_append_left _ (List.mem_append_right _ (List.mem_append_right _ (List.mem_append_right _ (List.mem_append_right _ (List.mem_append_right _ (List.mem_append_left _ (h))))))))))))))
theorem wd_6_0 : Cond.fieldLink RX0 19 "TideSeats$Reader" "end" "I" ∈ wsL_law := wdm_6 _ (List.mem_of_getElem? (i := 0) rfl)
theorem wd_6_1 : Cond.fieldLink RX0 22 "TideSeats$Reader" "at" "I" ∈ wsL_law := wdm_6 _ (List.mem_of_getElem? (i := 1) rfl)
theorem wd_6_2 : Cond.methodLink RX5 72 yX4_readsAll ∈ wsL_law := wdm_6 _ (List.mem_of_getElem? (i := 2) rfl)
theorem wd_6_3 : Cond.instanceMethod yX4_readsAll ∈ wsL_law := wdm_6 _ (List.mem_of_getElem? (i := 3) rfl)
theorem wd_6_4 : Cond.selects RX4 yX4_readsAll yX4_readsAll ∈ wsL_law := wdm_6 _ (List.mem_of_getElem? (i := 4) rfl)
theorem wd_6_5 : Cond.code yX4_readsAll cX4_readsAll 2 (some .boolean) ∈ wsL_law := wdm_6 _ (List.mem_of_getElem? (i := 5) rfl)
theorem wd_6_6 : Cond.methodLink RX4 43 yX4_readsHead ∈ wsL_law := wdm_6 _ (List.mem_of_getElem? (i := 6) rfl)
theorem wd_6_7 : Cond.instanceMethod yX4_readsHead ∈ wsL_law := wdm_6 _ (List.mem_of_getElem? (i := 7) rfl)
theorem wd_6_8 : Cond.selects RX4 yX4_readsHead yX4_readsHead ∈ wsL_law := wdm_6 _ (List.mem_of_getElem? (i := 8) rfl)
theorem wd_6_9 : Cond.code yX4_readsHead cX4_readsHead 2 (some .boolean) ∈ wsL_law := wdm_6 _ (List.mem_of_getElem? (i := 9) rfl)
theorem wd_6_10 : Cond.fieldLink RX4 27 "TideSeats$Shore" "stream" "I" ∈ wsL_law := wdm_6 _ (List.mem_of_getElem? (i := 10) rfl)
theorem wd_6_11 : Cond.fieldLink RX4 31 "TideSeats$Shore" "mild" "I" ∈ wsL_law := wdm_6 _ (List.mem_of_getElem? (i := 11) rfl)
theorem wd_6_12 : Cond.fieldLink RX4 34 "TideSeats$Shore" "reach" "I" ∈ wsL_law := wdm_6 _ (List.mem_of_getElem? (i := 12) rfl)
theorem wd_6_13 : Cond.methodLink RX4 59 yX0_takes ∈ wsL_law := wdm_6 _ (List.mem_of_getElem? (i := 13) rfl)
theorem wd_6_14 : Cond.instanceMethod yX0_takes ∈ wsL_law := wdm_6 _ (List.mem_of_getElem? (i := 14) rfl)
theorem wd_6_15 : Cond.selects RX0 yX0_takes yX0_takes ∈ wsL_law := wdm_6 _ (List.mem_of_getElem? (i := 15) rfl)
theorem wd_6_16 : Cond.code yX0_takes cX0_takes 2 (some .boolean) ∈ wsL_law := wdm_6 _ (List.mem_of_getElem? (i := 16) rfl)
theorem wd_6_17 : Cond.fieldLink RX0 29 "TideSeats$Sheet" "cells" "[I" ∈ wsL_law := wdm_6 _ (List.mem_of_getElem? (i := 17) rfl)
theorem wd_6_18 : Cond.methodLink RX0 25 yX0_isAtEnd ∈ wsL_law := wdm_6 _ (List.mem_of_getElem? (i := 18) rfl)
theorem wd_6_19 : Cond.instanceMethod yX0_isAtEnd ∈ wsL_law := wdm_6 _ (List.mem_of_getElem? (i := 19) rfl)
theorem wd_6_20 : Cond.selects RX0 yX0_isAtEnd yX0_isAtEnd ∈ wsL_law := wdm_6 _ (List.mem_of_getElem? (i := 20) rfl)
theorem wd_6_21 : Cond.code yX0_isAtEnd cX0_isAtEnd 1 (some .boolean) ∈ wsL_law := wdm_6 _ (List.mem_of_getElem? (i := 21) rfl)
theorem wd_6_22 : Cond.methodLink RX4 63 yX0_digit ∈ wsL_law := wdm_6 _ (List.mem_of_getElem? (i := 22) rfl)
theorem wd_6_23 : Cond.instanceMethod yX0_digit ∈ wsL_law := wdm_6 _ (List.mem_of_getElem? (i := 23) rfl)
theorem wdm_7 : ∀ w ∈ wsL_law_r7, w ∈ wsL_law := fun _ h => List.mem_append_left _ (List.mem_append_left _ (List.mem_append_left _ (List.mem_append_left _ (List.mem_append_left _ (List.mem_append_left _ (List.mem_append_left _ (List.mem_append_left _ (List.mem_append_right _ (List.mem_append_right _ (List.mem_append_right _ (List.mem_append_right _ (List.mem_append_right _ (List.mem_append_right _ (List.mem_append_left _ (h)))))))))))))))
theorem wd_7_0 : Cond.selects RX0 yX0_digit yX0_digit ∈ wsL_law := wdm_7 _ (List.mem_of_getElem? (i := 0) rfl)
theorem wd_7_1 : Cond.code yX0_digit cX0_digit 4 (some .int) ∈ wsL_law := wdm_7 _ (List.mem_of_getElem? (i := 1) rfl)
theorem wd_7_2 : Cond.methodLink RX4 47 yX4_readsPools ∈ wsL_law := wdm_7 _ (List.mem_of_getElem? (i := 2) rfl)
theorem wd_7_3 : Cond.instanceMethod yX4_readsPools ∈ wsL_law := wdm_7 _ (List.mem_of_getElem? (i := 3) rfl)
theorem wd_7_4 : Cond.selects RX4 yX4_readsPools yX4_readsPools ∈ wsL_law := wdm_7 _ (List.mem_of_getElem? (i := 4) rfl)
theorem wd_7_5 : Cond.code yX4_readsPools cX4_readsPools 2 (some .boolean) ∈ wsL_law := wdm_7 _ (List.mem_of_getElem? (i := 5) rfl)
theorem wd_7_6 : Cond.fieldLink RX4 37 "TideSeats$Shore" "pools" "I" ∈ wsL_law := wdm_7 _ (List.mem_of_getElem? (i := 6) rfl)
theorem wd_7_7 : Cond.methodLink RX4 67 yX4_readsPool ∈ wsL_law := wdm_7 _ (List.mem_of_getElem? (i := 7) rfl)
theorem wd_7_8 : Cond.instanceMethod yX4_readsPool ∈ wsL_law := wdm_7 _ (List.mem_of_getElem? (i := 8) rfl)
theorem wd_7_9 : Cond.selects RX4 yX4_readsPool yX4_readsPool ∈ wsL_law := wdm_7 _ (List.mem_of_getElem? (i := 9) rfl)
theorem wd_7_10 : Cond.code yX4_readsPool cX4_readsPool 2 (some .boolean) ∈ wsL_law := wdm_7 _ (List.mem_of_getElem? (i := 10) rfl)
theorem wd_7_11 : Cond.methodLink RX4 50 yX4_readsMembers ∈ wsL_law := wdm_7 _ (List.mem_of_getElem? (i := 11) rfl)
theorem wd_7_12 : Cond.instanceMethod yX4_readsMembers ∈ wsL_law := wdm_7 _ (List.mem_of_getElem? (i := 12) rfl)
theorem wd_7_13 : Cond.selects RX4 yX4_readsMembers yX4_readsMembers ∈ wsL_law := wdm_7 _ (List.mem_of_getElem? (i := 13) rfl)
theorem wd_7_14 : Cond.code yX4_readsMembers cX4_readsMembers 2 (some .boolean) ∈ wsL_law := wdm_7 _ (List.mem_of_getElem? (i := 14) rfl)
theorem wd_7_15 : Cond.fieldLink RX4 40 "TideSeats$Shore" "members" "I" ∈ wsL_law := wdm_7 _ (List.mem_of_getElem? (i := 15) rfl)
theorem wd_7_16 : Cond.methodLink RX4 70 yX4_readsMember ∈ wsL_law := wdm_7 _ (List.mem_of_getElem? (i := 16) rfl)
theorem wd_7_17 : Cond.instanceMethod yX4_readsMember ∈ wsL_law := wdm_7 _ (List.mem_of_getElem? (i := 17) rfl)
theorem wd_7_18 : Cond.selects RX4 yX4_readsMember yX4_readsMember ∈ wsL_law := wdm_7 _ (List.mem_of_getElem? (i := 18) rfl)
theorem wd_7_19 : Cond.code yX4_readsMember cX4_readsMember 2 (some .boolean) ∈ wsL_law := wdm_7 _ (List.mem_of_getElem? (i := 19) rfl)
theorem wd_7_20 : Cond.methodLink RX4 73 yX0_kind ∈ wsL_law := wdm_7 _ (List.mem_of_getElem? (i := 20) rfl)
theorem wd_7_21 : Cond.instanceMethod yX0_kind ∈ wsL_law := wdm_7 _ (List.mem_of_getElem? (i := 21) rfl)
theorem wd_7_22 : Cond.selects RX0 yX0_kind yX0_kind ∈ wsL_law := wdm_7 _ (List.mem_of_getElem? (i := 22) rfl)
theorem wd_7_23 : Cond.code yX0_kind cX0_kind 1 (some .int) ∈ wsL_law := wdm_7 _ (List.mem_of_getElem? (i := 23) rfl)
theorem wdm_8 : ∀ w ∈ wsL_law_r8, w ∈ wsL_law := fun _ h => List.mem_append_left _ (List.mem_append_left _ (List.mem_append_left _ (List.mem_append_left _ (List.mem_append_left _ (List.mem_append_left _ (List.mem_append_left _ (List.mem_append_left _ (List.mem_append_right _ (List.mem_append_right _ (List.mem_append_right _ (List.mem_append_right _ (List.mem_append_right _ (List.mem_append_right _ (List.mem_append_right _ (List.mem_append_left _ (h))))))))))))))))
theorem wd_8_0 : Cond.methodLink RX0 39 yX0_takes ∈ wsL_law := wdm_8 _ (List.mem_of_getElem? (i := 0) rfl)
theorem wd_8_1 : Cond.methodLink RX4 53 yX0_isAtEnd ∈ wsL_law := wdm_8 _ (List.mem_of_getElem? (i := 1) rfl)
theorem wd_8_2 : Cond.methodLink RX5 76 yX0_place ∈ wsL_law := wdm_8 _ (List.mem_of_getElem? (i := 2) rfl)
theorem wd_8_3 : Cond.instanceMethod yX0_place ∈ wsL_law := wdm_8 _ (List.mem_of_getElem? (i := 3) rfl)
theorem wd_8_4 : Cond.selects RX0 yX0_place yX0_place ∈ wsL_law := wdm_8 _ (List.mem_of_getElem? (i := 4) rfl)
theorem wd_8_5 : Cond.code yX0_place cX0_place 1 (some .int) ∈ wsL_law := wdm_8 _ (List.mem_of_getElem? (i := 5) rfl)
theorem wd_8_6 : Cond.methodLink RX5 80 yX5_swapShores ∈ wsL_law := wdm_8 _ (List.mem_of_getElem? (i := 6) rfl)
theorem wd_8_7 : Cond.instanceMethod yX5_swapShores ∈ wsL_law := wdm_8 _ (List.mem_of_getElem? (i := 7) rfl)
theorem wd_8_8 : Cond.selects RX5 yX5_swapShores yX5_swapShores ∈ wsL_law := wdm_8 _ (List.mem_of_getElem? (i := 8) rfl)
theorem wd_8_9 : Cond.code yX5_swapShores cX5_swapShores 2 none ∈ wsL_law := wdm_8 _ (List.mem_of_getElem? (i := 9) rfl)
theorem wd_8_10 : Cond.methodLink RL 17 yX6_shore ∈ wsL_law := wdm_8 _ (List.mem_of_getElem? (i := 10) rfl)
theorem wd_8_11 : Cond.instanceMethod yX6_shore ∈ wsL_law := wdm_8 _ (List.mem_of_getElem? (i := 11) rfl)
theorem wd_8_12 : Cond.selects RX6 yX6_shore yX6_shore ∈ wsL_law := wdm_8 _ (List.mem_of_getElem? (i := 12) rfl)
theorem wd_8_13 : Cond.code yX6_shore cX6_shore 7 (some .int) ∈ wsL_law := wdm_8 _ (List.mem_of_getElem? (i := 13) rfl)
theorem wd_8_14 : Cond.fieldLink RX6 64 "TideSeatsModel" "fault" "I" ∈ wsL_law := wdm_8 _ (List.mem_of_getElem? (i := 14) rfl)
theorem wd_8_15 : Cond.fieldLink RX6 80 "TideSeatsModel" "at" "I" ∈ wsL_law := wdm_8 _ (List.mem_of_getElem? (i := 15) rfl)
theorem wd_8_16 : Cond.fieldLink RX6 77 "TideSeatsModel" "members" "I" ∈ wsL_law := wdm_8 _ (List.mem_of_getElem? (i := 16) rfl)
theorem wd_8_17 : Cond.methodLink RX6 83 yX6_isSheet ∈ wsL_law := wdm_8 _ (List.mem_of_getElem? (i := 17) rfl)
theorem wd_8_18 : Cond.static yX6_isSheet ∈ wsL_law := wdm_8 _ (List.mem_of_getElem? (i := 18) rfl)
theorem wd_8_19 : Cond.code yX6_isSheet cX6_isSheet 1 (some .boolean) ∈ wsL_law := wdm_8 _ (List.mem_of_getElem? (i := 19) rfl)
theorem wd_8_20 : Cond.methodLink RX6 70 yX6_within ∈ wsL_law := wdm_8 _ (List.mem_of_getElem? (i := 20) rfl)
theorem wd_8_21 : Cond.static yX6_within ∈ wsL_law := wdm_8 _ (List.mem_of_getElem? (i := 21) rfl)
theorem wd_8_22 : Cond.code yX6_within cX6_within 3 (some .boolean) ∈ wsL_law := wdm_8 _ (List.mem_of_getElem? (i := 22) rfl)
theorem wd_8_23 : Cond.methodLink RX6 87 yX6_isSort ∈ wsL_law := wdm_8 _ (List.mem_of_getElem? (i := 23) rfl)
theorem wdm_9 : ∀ w ∈ wsL_law_r9, w ∈ wsL_law := fun _ h => List.mem_append_left _ (List.mem_append_left _ (List.mem_append_left _ (List.mem_append_left _ (List.mem_append_left _ (List.mem_append_left _ (List.mem_append_left _ (List.mem_append_left _ (List.mem_append_right _ (List.mem_append_right _ (List.mem_append_right _ (List.mem_append_right _ (List.mem_append_right _ (List.mem_append_right _ (List.mem_append_right _ (List.mem_append_right _ (List.mem_append_left _ (h)))))))))))))))))
theorem wd_9_0 : Cond.static yX6_isSort ∈ wsL_law := wdm_9 _ (List.mem_of_getElem? (i := 0) rfl)
theorem wd_9_1 : Cond.code yX6_isSort cX6_isSort 1 (some .boolean) ∈ wsL_law := wdm_9 _ (List.mem_of_getElem? (i := 1) rfl)
theorem wd_9_2 : Cond.methodLink RX6 90 yX6_against ∈ wsL_law := wdm_9 _ (List.mem_of_getElem? (i := 2) rfl)
theorem wd_9_3 : Cond.instanceMethod yX6_against ∈ wsL_law := wdm_9 _ (List.mem_of_getElem? (i := 3) rfl)
theorem wd_9_4 : Cond.selects RX6 yX6_against yX6_against ∈ wsL_law := wdm_9 _ (List.mem_of_getElem? (i := 4) rfl)
theorem wd_9_5 : Cond.code yX6_against cX6_against 5 (some .int) ∈ wsL_law := wdm_9 _ (List.mem_of_getElem? (i := 5) rfl)
theorem wd_9_6 : Cond.methodLink RX6 94 yX6_fails ∈ wsL_law := wdm_9 _ (List.mem_of_getElem? (i := 6) rfl)
theorem wd_9_7 : Cond.instanceMethod yX6_fails ∈ wsL_law := wdm_9 _ (List.mem_of_getElem? (i := 7) rfl)
theorem wd_9_8 : Cond.selects RX6 yX6_fails yX6_fails ∈ wsL_law := wdm_9 _ (List.mem_of_getElem? (i := 8) rfl)
theorem wd_9_9 : Cond.code yX6_fails cX6_fails 2 (some .int) ∈ wsL_law := wdm_9 _ (List.mem_of_getElem? (i := 9) rfl)
theorem wd_9_10 : Cond.methodLink RX6 98 yX6_readShore ∈ wsL_law := wdm_9 _ (List.mem_of_getElem? (i := 10) rfl)
theorem wd_9_11 : Cond.instanceMethod yX6_readShore ∈ wsL_law := wdm_9 _ (List.mem_of_getElem? (i := 11) rfl)
theorem wd_9_12 : Cond.selects RX6 yX6_readShore yX6_readShore ∈ wsL_law := wdm_9 _ (List.mem_of_getElem? (i := 12) rfl)
theorem wd_9_13 : Cond.code yX6_readShore cX6_readShore 2 (some .boolean) ∈ wsL_law := wdm_9 _ (List.mem_of_getElem? (i := 13) rfl)
theorem wd_9_14 : Cond.fieldLink RX6 122 "TideSeatsModel" "readPools" "I" ∈ wsL_law := wdm_9 _ (List.mem_of_getElem? (i := 14) rfl)
theorem wd_9_15 : Cond.fieldLink RX6 125 "TideSeatsModel" "readMembers" "I" ∈ wsL_law := wdm_9 _ (List.mem_of_getElem? (i := 15) rfl)
theorem wd_9_16 : Cond.fieldLink RX6 104 "TideSeatsModel" "readStream" "I" ∈ wsL_law := wdm_9 _ (List.mem_of_getElem? (i := 16) rfl)
theorem wd_9_17 : Cond.fieldLink RX6 110 "TideSeatsModel" "readMild" "I" ∈ wsL_law := wdm_9 _ (List.mem_of_getElem? (i := 17) rfl)
theorem wd_9_18 : Cond.fieldLink RX6 116 "TideSeatsModel" "readLeap" "I" ∈ wsL_law := wdm_9 _ (List.mem_of_getElem? (i := 18) rfl)
theorem wd_9_19 : Cond.methodLink RX6 131 yX6_isSign ∈ wsL_law := wdm_9 _ (List.mem_of_getElem? (i := 19) rfl)
theorem wd_9_20 : Cond.instanceMethod yX6_isSign ∈ wsL_law := wdm_9 _ (List.mem_of_getElem? (i := 20) rfl)
theorem wd_9_21 : Cond.selects RX6 yX6_isSign yX6_isSign ∈ wsL_law := wdm_9 _ (List.mem_of_getElem? (i := 21) rfl)
theorem wd_9_22 : Cond.code yX6_isSign cX6_isSign 3 (some .boolean) ∈ wsL_law := wdm_9 _ (List.mem_of_getElem? (i := 22) rfl)
theorem wd_9_23 : Cond.methodLink RX6 135 yX6_digit ∈ wsL_law := wdm_9 _ (List.mem_of_getElem? (i := 23) rfl)
theorem wdm_10 : ∀ w ∈ wsL_law_r10, w ∈ wsL_law := fun _ h => List.mem_append_left _ (List.mem_append_left _ (List.mem_append_left _ (List.mem_append_left _ (List.mem_append_left _ (List.mem_append_left _ (List.mem_append_left _ (List.mem_append_left _ (List.mem_append_right _ (List.mem_append_right _ (List.mem_append_right _ (List.mem_append_right _ (List.mem_append_right _ (List.mem_append_right _ (List.mem_append_right _ (List.mem_append_right _ (List.mem_append_right _ (List.mem_append_left _ (h))))))))))))))))))
theorem wd_10_0 : Cond.instanceMethod yX6_digit ∈ wsL_law := wdm_10 _ (List.mem_of_getElem? (i := 0) rfl)
theorem wd_10_1 : Cond.selects RX6 yX6_digit yX6_digit ∈ wsL_law := wdm_10 _ (List.mem_of_getElem? (i := 1) rfl)
theorem wd_10_2 : Cond.code yX6_digit cX6_digit 4 (some .int) ∈ wsL_law := wdm_10 _ (List.mem_of_getElem? (i := 2) rfl)
theorem wd_10_3 : Cond.methodLink RX6 139 yX6_readPool ∈ wsL_law := wdm_10 _ (List.mem_of_getElem? (i := 3) rfl)
theorem wd_10_4 : Cond.instanceMethod yX6_readPool ∈ wsL_law := wdm_10 _ (List.mem_of_getElem? (i := 4) rfl)
theorem wd_10_5 : Cond.selects RX6 yX6_readPool yX6_readPool ∈ wsL_law := wdm_10 _ (List.mem_of_getElem? (i := 5) rfl)
theorem wd_10_6 : Cond.code yX6_readPool cX6_readPool 2 (some .boolean) ∈ wsL_law := wdm_10 _ (List.mem_of_getElem? (i := 6) rfl)
theorem wd_10_7 : Cond.methodLink RX6 142 yX6_readMember ∈ wsL_law := wdm_10 _ (List.mem_of_getElem? (i := 7) rfl)
theorem wd_10_8 : Cond.instanceMethod yX6_readMember ∈ wsL_law := wdm_10 _ (List.mem_of_getElem? (i := 8) rfl)
theorem wd_10_9 : Cond.selects RX6 yX6_readMember yX6_readMember ∈ wsL_law := wdm_10 _ (List.mem_of_getElem? (i := 9) rfl)
theorem wd_10_10 : Cond.code yX6_readMember cX6_readMember 3 (some .boolean) ∈ wsL_law := wdm_10 _ (List.mem_of_getElem? (i := 10) rfl)
theorem wd_10_11 : Cond.methodLink RX6 101 yX6_takeShore ∈ wsL_law := wdm_10 _ (List.mem_of_getElem? (i := 11) rfl)
theorem wd_10_12 : Cond.instanceMethod yX6_takeShore ∈ wsL_law := wdm_10 _ (List.mem_of_getElem? (i := 12) rfl)
theorem wd_10_13 : Cond.selects RX6 yX6_takeShore yX6_takeShore ∈ wsL_law := wdm_10 _ (List.mem_of_getElem? (i := 13) rfl)
theorem wd_10_14 : Cond.code yX6_takeShore cX6_takeShore 2 none ∈ wsL_law := wdm_10 _ (List.mem_of_getElem? (i := 14) rfl)
theorem wd_10_15 : Cond.fieldLink RX6 107 "TideSeatsModel" "stream" "I" ∈ wsL_law := wdm_10 _ (List.mem_of_getElem? (i := 15) rfl)
theorem wd_10_16 : Cond.fieldLink RX6 113 "TideSeatsModel" "mild" "I" ∈ wsL_law := wdm_10 _ (List.mem_of_getElem? (i := 16) rfl)
theorem wd_10_17 : Cond.fieldLink RX6 119 "TideSeatsModel" "leapNow" "I" ∈ wsL_law := wdm_10 _ (List.mem_of_getElem? (i := 17) rfl)
theorem wd_10_18 : Cond.fieldLink RX6 74 "TideSeatsModel" "pools" "I" ∈ wsL_law := wdm_10 _ (List.mem_of_getElem? (i := 18) rfl)
theorem wd_10_19 : Cond.fieldLink RX6 128 "TideSeatsModel" "readings" "I" ∈ wsL_law := wdm_10 _ (List.mem_of_getElem? (i := 19) rfl)
theorem wd_10_20 : Cond.methodLink RL 18 yX5_ofPool ∈ wsL_law := wdm_10 _ (List.mem_of_getElem? (i := 20) rfl)
theorem wd_10_21 : Cond.instanceMethod yX5_ofPool ∈ wsL_law := wdm_10 _ (List.mem_of_getElem? (i := 21) rfl)
theorem wd_10_22 : Cond.selects RX5 yX5_ofPool yX5_ofPool ∈ wsL_law := wdm_10 _ (List.mem_of_getElem? (i := 22) rfl)
theorem wd_10_23 : Cond.code yX5_ofPool cX5_ofPool 3 (some .int) ∈ wsL_law := wdm_10 _ (List.mem_of_getElem? (i := 23) rfl)
theorem wdm_11 : ∀ w ∈ wsL_law_r11, w ∈ wsL_law := fun _ h => List.mem_append_left _ (List.mem_append_left _ (List.mem_append_left _ (List.mem_append_left _ (List.mem_append_left _ (List.mem_append_left _ (List.mem_append_left _ (List.mem_append_left _ (List.mem_append_right _ (List.mem_append_right _ (List.mem_append_right _ (List.mem_append_right _ (List.mem_append_right _ (List.mem_append_right _ (List.mem_append_right _ (List.mem_append_right _ (List.mem_append_right _ (List.mem_append_right _ (List.mem_append_left _ (h)))))))))))))))))))
theorem wd_11_0 : Cond.fieldLink RX5 92 "TideSeats$Shore" "heights" "[I" ∈ wsL_law := wdm_11 _ (List.mem_of_getElem? (i := 0) rfl)
theorem wd_11_1 : Cond.fieldLink RX5 96 "TideSeats$Shore" "depths" "[I" ∈ wsL_law := wdm_11 _ (List.mem_of_getElem? (i := 1) rfl)
theorem wd_11_2 : Cond.methodLink RX5 89 yX5_isPool ∈ wsL_law := wdm_11 _ (List.mem_of_getElem? (i := 2) rfl)
theorem wd_11_3 : Cond.instanceMethod yX5_isPool ∈ wsL_law := wdm_11 _ (List.mem_of_getElem? (i := 3) rfl)
theorem wd_11_4 : Cond.selects RX5 yX5_isPool yX5_isPool ∈ wsL_law := wdm_11 _ (List.mem_of_getElem? (i := 4) rfl)
theorem wd_11_5 : Cond.code yX5_isPool cX5_isPool 2 (some .boolean) ∈ wsL_law := wdm_11 _ (List.mem_of_getElem? (i := 5) rfl)
theorem wd_11_6 : Cond.fieldLink RX5 203 "TideSeats$Shore" "pools" "I" ∈ wsL_law := wdm_11 _ (List.mem_of_getElem? (i := 6) rfl)
theorem wd_11_7 : Cond.methodLink RX5 99 yX4_sittersOf ∈ wsL_law := wdm_11 _ (List.mem_of_getElem? (i := 7) rfl)
theorem wd_11_8 : Cond.instanceMethod yX4_sittersOf ∈ wsL_law := wdm_11 _ (List.mem_of_getElem? (i := 8) rfl)
theorem wd_11_9 : Cond.selects RX4 yX4_sittersOf yX4_sittersOf ∈ wsL_law := wdm_11 _ (List.mem_of_getElem? (i := 9) rfl)
theorem wd_11_10 : Cond.code yX4_sittersOf cX4_sittersOf 4 (some .int) ∈ wsL_law := wdm_11 _ (List.mem_of_getElem? (i := 10) rfl)
theorem wd_11_11 : Cond.methodLink RX5 102 yX4_spanOf ∈ wsL_law := wdm_11 _ (List.mem_of_getElem? (i := 11) rfl)
theorem wd_11_12 : Cond.instanceMethod yX4_spanOf ∈ wsL_law := wdm_11 _ (List.mem_of_getElem? (i := 12) rfl)
theorem wd_11_13 : Cond.selects RX4 yX4_spanOf yX4_spanOf ∈ wsL_law := wdm_11 _ (List.mem_of_getElem? (i := 13) rfl)
theorem wd_11_14 : Cond.code yX4_spanOf cX4_spanOf 2 (some .int) ∈ wsL_law := wdm_11 _ (List.mem_of_getElem? (i := 14) rfl)
theorem wd_11_15 : Cond.methodLink RX4 86 yX4_sittersIn ∈ wsL_law := wdm_11 _ (List.mem_of_getElem? (i := 15) rfl)
theorem wd_11_16 : Cond.instanceMethod yX4_sittersIn ∈ wsL_law := wdm_11 _ (List.mem_of_getElem? (i := 16) rfl)
theorem wd_11_17 : Cond.selects RX4 yX4_sittersIn yX4_sittersIn ∈ wsL_law := wdm_11 _ (List.mem_of_getElem? (i := 17) rfl)
theorem wd_11_18 : Cond.code yX4_sittersIn cX4_sittersIn 2 (some .int) ∈ wsL_law := wdm_11 _ (List.mem_of_getElem? (i := 18) rfl)
theorem wd_11_19 : Cond.methodLink RX4 77 yX4_sittersOf ∈ wsL_law := wdm_11 _ (List.mem_of_getElem? (i := 19) rfl)
theorem wd_11_20 : Cond.methodLink RX4 81 yJ6_bitCount_0f7a4 ∈ wsL_law := wdm_11 _ (List.mem_of_getElem? (i := 20) rfl)
theorem wd_11_21 : Cond.static yJ6_bitCount_0f7a4 ∈ wsL_law := wdm_11 _ (List.mem_of_getElem? (i := 21) rfl)
theorem wd_11_22 : Cond.initialized RJ6 ∈ wsL_law := wdm_11 _ (List.mem_of_getElem? (i := 22) rfl)
theorem wd_11_23 : Cond.code yJ6_bitCount_0f7a4 cJ6_bitCount_0f7a4 1 (some .int) ∈ wsL_law := wdm_11 _ (List.mem_of_getElem? (i := 23) rfl)
theorem wdm_12 : ∀ w ∈ wsL_law_r12, w ∈ wsL_law := fun _ h => List.mem_append_left _ (List.mem_append_left _ (List.mem_append_left _ (List.mem_append_left _ (List.mem_append_left _ (List.mem_append_left _ (List.mem_append_left _ (List.mem_append_left _ (List.mem_append_right _ (List.mem_append_right _ (List.mem_append_right _ (List.mem_append_right _ (List.mem_append_right _ (List.mem_append_right _ (List.mem_append_right _ (List.mem_append_right _ (List.mem_append_right _ (List.mem_append_right _ (List.mem_append_right _ (List.mem_append_left _ (h))))))))))))))))))))
theorem wd_12_0 : Cond.constant RJ6 265 (1431655765) ∈ wsL_law := wdm_12 _ (List.mem_of_getElem? (i := 0) rfl)
theorem wd_12_1 : Cond.constant RJ6 266 (858993459) ∈ wsL_law := wdm_12 _ (List.mem_of_getElem? (i := 1) rfl)
theorem wd_12_2 : Cond.constant RJ6 267 (252645135) ∈ wsL_law := wdm_12 _ (List.mem_of_getElem? (i := 2) rfl)
theorem wd_12_3 : Cond.methodLink RL 22 yX6_ofPool ∈ wsL_law := wdm_12 _ (List.mem_of_getElem? (i := 3) rfl)
theorem wd_12_4 : Cond.instanceMethod yX6_ofPool ∈ wsL_law := wdm_12 _ (List.mem_of_getElem? (i := 4) rfl)
theorem wd_12_5 : Cond.selects RX6 yX6_ofPool yX6_ofPool ∈ wsL_law := wdm_12 _ (List.mem_of_getElem? (i := 5) rfl)
theorem wd_12_6 : Cond.code yX6_ofPool cX6_ofPool 3 (some .int) ∈ wsL_law := wdm_12 _ (List.mem_of_getElem? (i := 6) rfl)
theorem wd_12_7 : Cond.methodLink RX6 145 yX6_isPool ∈ wsL_law := wdm_12 _ (List.mem_of_getElem? (i := 7) rfl)
theorem wd_12_8 : Cond.instanceMethod yX6_isPool ∈ wsL_law := wdm_12 _ (List.mem_of_getElem? (i := 8) rfl)
theorem wd_12_9 : Cond.selects RX6 yX6_isPool yX6_isPool ∈ wsL_law := wdm_12 _ (List.mem_of_getElem? (i := 9) rfl)
theorem wd_12_10 : Cond.code yX6_isPool cX6_isPool 2 (some .boolean) ∈ wsL_law := wdm_12 _ (List.mem_of_getElem? (i := 10) rfl)
theorem wd_12_11 : Cond.methodLink RX6 148 yX6_sitters ∈ wsL_law := wdm_12 _ (List.mem_of_getElem? (i := 11) rfl)
theorem wd_12_12 : Cond.instanceMethod yX6_sitters ∈ wsL_law := wdm_12 _ (List.mem_of_getElem? (i := 12) rfl)
theorem wd_12_13 : Cond.selects RX6 yX6_sitters yX6_sitters ∈ wsL_law := wdm_12 _ (List.mem_of_getElem? (i := 13) rfl)
theorem wd_12_14 : Cond.code yX6_sitters cX6_sitters 4 (some .int) ∈ wsL_law := wdm_12 _ (List.mem_of_getElem? (i := 14) rfl)
theorem wd_12_15 : Cond.methodLink RX6 151 yX6_size ∈ wsL_law := wdm_12 _ (List.mem_of_getElem? (i := 15) rfl)
theorem wd_12_16 : Cond.static yX6_size ∈ wsL_law := wdm_12 _ (List.mem_of_getElem? (i := 16) rfl)
theorem wd_12_17 : Cond.code yX6_size cX6_size 3 (some .int) ∈ wsL_law := wdm_12 _ (List.mem_of_getElem? (i := 17) rfl)
theorem wd_12_18 : Cond.methodLink RL 23 yX5_ofMember ∈ wsL_law := wdm_12 _ (List.mem_of_getElem? (i := 18) rfl)
theorem wd_12_19 : Cond.instanceMethod yX5_ofMember ∈ wsL_law := wdm_12 _ (List.mem_of_getElem? (i := 19) rfl)
theorem wd_12_20 : Cond.selects RX5 yX5_ofMember yX5_ofMember ∈ wsL_law := wdm_12 _ (List.mem_of_getElem? (i := 20) rfl)
theorem wd_12_21 : Cond.code yX5_ofMember cX5_ofMember 3 (some .int) ∈ wsL_law := wdm_12 _ (List.mem_of_getElem? (i := 21) rfl)
theorem wd_12_22 : Cond.fieldLink RX5 108 "TideSeats$Shore" "kindOf" "[I" ∈ wsL_law := wdm_12 _ (List.mem_of_getElem? (i := 22) rfl)
theorem wd_12_23 : Cond.fieldLink RX5 111 "TideSeats$Shore" "seats" "[I" ∈ wsL_law := wdm_12 _ (List.mem_of_getElem? (i := 23) rfl)
theorem wdm_13 : ∀ w ∈ wsL_law_r13, w ∈ wsL_law := fun _ h => List.mem_append_left _ (List.mem_append_left _ (List.mem_append_left _ (List.mem_append_left _ (List.mem_append_left _ (List.mem_append_left _ (List.mem_append_left _ (List.mem_append_left _ (List.mem_append_right _ (List.mem_append_right _ (List.mem_append_right _ (List.mem_append_right _ (List.mem_append_right _ (List.mem_append_right _ (List.mem_append_right _ (List.mem_append_right _ (List.mem_append_right _ (List.mem_append_right _ (List.mem_append_right _ (List.mem_append_right _ (List.mem_append_left _ (h)))))))))))))))))))))
theorem wd_13_0 : Cond.fieldLink RX5 114 "TideSeats$Shore" "views" "[I" ∈ wsL_law := wdm_13 _ (List.mem_of_getElem? (i := 0) rfl)
theorem wd_13_1 : Cond.methodLink RX5 105 yX5_isMember ∈ wsL_law := wdm_13 _ (List.mem_of_getElem? (i := 1) rfl)
theorem wd_13_2 : Cond.instanceMethod yX5_isMember ∈ wsL_law := wdm_13 _ (List.mem_of_getElem? (i := 2) rfl)
theorem wd_13_3 : Cond.selects RX5 yX5_isMember yX5_isMember ∈ wsL_law := wdm_13 _ (List.mem_of_getElem? (i := 3) rfl)
theorem wd_13_4 : Cond.code yX5_isMember cX5_isMember 2 (some .boolean) ∈ wsL_law := wdm_13 _ (List.mem_of_getElem? (i := 4) rfl)
theorem wd_13_5 : Cond.methodLink RX5 117 yX4_stepsOf ∈ wsL_law := wdm_13 _ (List.mem_of_getElem? (i := 5) rfl)
theorem wd_13_6 : Cond.instanceMethod yX4_stepsOf ∈ wsL_law := wdm_13 _ (List.mem_of_getElem? (i := 6) rfl)
theorem wd_13_7 : Cond.selects RX4 yX4_stepsOf yX4_stepsOf ∈ wsL_law := wdm_13 _ (List.mem_of_getElem? (i := 7) rfl)
theorem wd_13_8 : Cond.code yX4_stepsOf cX4_stepsOf 2 (some .int) ∈ wsL_law := wdm_13 _ (List.mem_of_getElem? (i := 8) rfl)
theorem wd_13_9 : Cond.methodLink RL 26 yX6_ofMember ∈ wsL_law := wdm_13 _ (List.mem_of_getElem? (i := 9) rfl)
theorem wd_13_10 : Cond.instanceMethod yX6_ofMember ∈ wsL_law := wdm_13 _ (List.mem_of_getElem? (i := 10) rfl)
theorem wd_13_11 : Cond.selects RX6 yX6_ofMember yX6_ofMember ∈ wsL_law := wdm_13 _ (List.mem_of_getElem? (i := 11) rfl)
theorem wd_13_12 : Cond.code yX6_ofMember cX6_ofMember 3 (some .int) ∈ wsL_law := wdm_13 _ (List.mem_of_getElem? (i := 12) rfl)
theorem wd_13_13 : Cond.methodLink RX6 154 yX6_isMember ∈ wsL_law := wdm_13 _ (List.mem_of_getElem? (i := 13) rfl)
theorem wd_13_14 : Cond.instanceMethod yX6_isMember ∈ wsL_law := wdm_13 _ (List.mem_of_getElem? (i := 14) rfl)
theorem wd_13_15 : Cond.selects RX6 yX6_isMember yX6_isMember ∈ wsL_law := wdm_13 _ (List.mem_of_getElem? (i := 15) rfl)
theorem wd_13_16 : Cond.code yX6_isMember cX6_isMember 2 (some .boolean) ∈ wsL_law := wdm_13 _ (List.mem_of_getElem? (i := 16) rfl)
theorem wd_13_17 : Cond.methodLink RX6 157 yX6_farOf ∈ wsL_law := wdm_13 _ (List.mem_of_getElem? (i := 17) rfl)
theorem wd_13_18 : Cond.instanceMethod yX6_farOf ∈ wsL_law := wdm_13 _ (List.mem_of_getElem? (i := 18) rfl)
theorem wd_13_19 : Cond.selects RX6 yX6_farOf yX6_farOf ∈ wsL_law := wdm_13 _ (List.mem_of_getElem? (i := 19) rfl)
theorem wd_13_20 : Cond.code yX6_farOf cX6_farOf 2 (some .int) ∈ wsL_law := wdm_13 _ (List.mem_of_getElem? (i := 20) rfl)
theorem wd_13_21 : Cond.methodLink RL 27 yX5_raise ∈ wsL_law := wdm_13 _ (List.mem_of_getElem? (i := 21) rfl)
theorem wd_13_22 : Cond.instanceMethod yX5_raise ∈ wsL_law := wdm_13 _ (List.mem_of_getElem? (i := 22) rfl)
theorem wd_13_23 : Cond.selects RX5 yX5_raise yX5_raise ∈ wsL_law := wdm_13 _ (List.mem_of_getElem? (i := 23) rfl)
theorem wdm_14 : ∀ w ∈ wsL_law_r14, w ∈ wsL_law := fun _ h => List.mem_append_left _ (List.mem_append_left _ (List.mem_append_left _ (List.mem_append_left _ (List.mem_append_left _ (List.mem_append_left _ (List.mem_append_left _ (List.mem_append_left _ (List.mem_append_right _ (List.mem_append_right _ (List.mem_append_right _ (List.mem_append_right _ (List.mem_append_right _ (List.mem_append_right _ (List.mem_append_right _ (List.mem_append_right _ (List.mem_append_right _ (List.mem_append_right _ (List.mem_append_right _ (List.mem_append_right _ (List.mem_append_right _ (List.mem_append_left _ (h))))))))))))))))))))))
theorem wd_14_0 : Cond.code yX5_raise cX5_raise 4 (some .int) ∈ wsL_law := wdm_14 _ (List.mem_of_getElem? (i := 0) rfl)
theorem wd_14_1 : Cond.methodLink RL 30 yX6_raise ∈ wsL_law := wdm_14 _ (List.mem_of_getElem? (i := 1) rfl)
theorem wd_14_2 : Cond.instanceMethod yX6_raise ∈ wsL_law := wdm_14 _ (List.mem_of_getElem? (i := 2) rfl)
theorem wd_14_3 : Cond.selects RX6 yX6_raise yX6_raise ∈ wsL_law := wdm_14 _ (List.mem_of_getElem? (i := 3) rfl)
theorem wd_14_4 : Cond.code yX6_raise cX6_raise 4 (some .int) ∈ wsL_law := wdm_14 _ (List.mem_of_getElem? (i := 4) rfl)
theorem wd_14_5 : Cond.methodLink RL 31 yX5_sway ∈ wsL_law := wdm_14 _ (List.mem_of_getElem? (i := 5) rfl)
theorem wd_14_6 : Cond.instanceMethod yX5_sway ∈ wsL_law := wdm_14 _ (List.mem_of_getElem? (i := 6) rfl)
theorem wd_14_7 : Cond.selects RX5 yX5_sway yX5_sway ∈ wsL_law := wdm_14 _ (List.mem_of_getElem? (i := 7) rfl)
theorem wd_14_8 : Cond.code yX5_sway cX5_sway 4 (some .int) ∈ wsL_law := wdm_14 _ (List.mem_of_getElem? (i := 8) rfl)
theorem wd_14_9 : Cond.methodLink RX5 124 yX5_isDigit ∈ wsL_law := wdm_14 _ (List.mem_of_getElem? (i := 9) rfl)
theorem wd_14_10 : Cond.static yX5_isDigit ∈ wsL_law := wdm_14 _ (List.mem_of_getElem? (i := 10) rfl)
theorem wd_14_11 : Cond.code yX5_isDigit cX5_isDigit 1 (some .boolean) ∈ wsL_law := wdm_14 _ (List.mem_of_getElem? (i := 11) rfl)
theorem wd_14_12 : Cond.methodLink RL 34 yX6_sway ∈ wsL_law := wdm_14 _ (List.mem_of_getElem? (i := 12) rfl)
theorem wd_14_13 : Cond.instanceMethod yX6_sway ∈ wsL_law := wdm_14 _ (List.mem_of_getElem? (i := 13) rfl)
theorem wd_14_14 : Cond.selects RX6 yX6_sway yX6_sway ∈ wsL_law := wdm_14 _ (List.mem_of_getElem? (i := 14) rfl)
theorem wd_14_15 : Cond.code yX6_sway cX6_sway 4 (some .int) ∈ wsL_law := wdm_14 _ (List.mem_of_getElem? (i := 15) rfl)
theorem wd_14_16 : Cond.methodLink RX6 160 yX6_isDigit ∈ wsL_law := wdm_14 _ (List.mem_of_getElem? (i := 16) rfl)
theorem wd_14_17 : Cond.static yX6_isDigit ∈ wsL_law := wdm_14 _ (List.mem_of_getElem? (i := 17) rfl)
theorem wd_14_18 : Cond.code yX6_isDigit cX6_isDigit 1 (some .boolean) ∈ wsL_law := wdm_14 _ (List.mem_of_getElem? (i := 18) rfl)
theorem wd_14_19 : Cond.methodLink RL 35 yX5_seat ∈ wsL_law := wdm_14 _ (List.mem_of_getElem? (i := 19) rfl)
theorem wd_14_20 : Cond.instanceMethod yX5_seat ∈ wsL_law := wdm_14 _ (List.mem_of_getElem? (i := 20) rfl)
theorem wd_14_21 : Cond.selects RX5 yX5_seat yX5_seat ∈ wsL_law := wdm_14 _ (List.mem_of_getElem? (i := 21) rfl)
theorem wd_14_22 : Cond.code yX5_seat cX5_seat 4 (some .int) ∈ wsL_law := wdm_14 _ (List.mem_of_getElem? (i := 22) rfl)
theorem wd_14_23 : Cond.methodLink RL 38 yX6_seat ∈ wsL_law := wdm_14 _ (List.mem_of_getElem? (i := 23) rfl)
theorem wdm_15 : ∀ w ∈ wsL_law_r15, w ∈ wsL_law := fun _ h => List.mem_append_left _ (List.mem_append_left _ (List.mem_append_left _ (List.mem_append_left _ (List.mem_append_left _ (List.mem_append_left _ (List.mem_append_left _ (List.mem_append_left _ (List.mem_append_right _ (List.mem_append_right _ (List.mem_append_right _ (List.mem_append_right _ (List.mem_append_right _ (List.mem_append_right _ (List.mem_append_right _ (List.mem_append_right _ (List.mem_append_right _ (List.mem_append_right _ (List.mem_append_right _ (List.mem_append_right _ (List.mem_append_right _ (List.mem_append_right _ (List.mem_append_left _ (h)))))))))))))))))))))))
theorem wd_15_0 : Cond.instanceMethod yX6_seat ∈ wsL_law := wdm_15 _ (List.mem_of_getElem? (i := 0) rfl)
theorem wd_15_1 : Cond.selects RX6 yX6_seat yX6_seat ∈ wsL_law := wdm_15 _ (List.mem_of_getElem? (i := 1) rfl)
theorem wd_15_2 : Cond.code yX6_seat cX6_seat 4 (some .int) ∈ wsL_law := wdm_15 _ (List.mem_of_getElem? (i := 2) rfl)
theorem wd_15_3 : Cond.methodLink RL 39 yX5_flow ∈ wsL_law := wdm_15 _ (List.mem_of_getElem? (i := 3) rfl)
theorem wd_15_4 : Cond.instanceMethod yX5_flow ∈ wsL_law := wdm_15 _ (List.mem_of_getElem? (i := 4) rfl)
theorem wd_15_5 : Cond.selects RX5 yX5_flow yX5_flow ∈ wsL_law := wdm_15 _ (List.mem_of_getElem? (i := 5) rfl)
theorem wd_15_6 : Cond.code yX5_flow cX5_flow 4 (some .int) ∈ wsL_law := wdm_15 _ (List.mem_of_getElem? (i := 6) rfl)
theorem wd_15_7 : Cond.fieldLink RX5 131 "TideSeats$Shore" "stream" "I" ∈ wsL_law := wdm_15 _ (List.mem_of_getElem? (i := 7) rfl)
theorem wd_15_8 : Cond.methodLink RX5 127 yX5_refusalUnless ∈ wsL_law := wdm_15 _ (List.mem_of_getElem? (i := 8) rfl)
theorem wd_15_9 : Cond.instanceMethod yX5_refusalUnless ∈ wsL_law := wdm_15 _ (List.mem_of_getElem? (i := 9) rfl)
theorem wd_15_10 : Cond.selects RX5 yX5_refusalUnless yX5_refusalUnless ∈ wsL_law := wdm_15 _ (List.mem_of_getElem? (i := 10) rfl)
theorem wd_15_11 : Cond.code yX5_refusalUnless cX5_refusalUnless 2 (some .int) ∈ wsL_law := wdm_15 _ (List.mem_of_getElem? (i := 11) rfl)
theorem wd_15_12 : Cond.methodLink RX5 254 yX5_hasShore ∈ wsL_law := wdm_15 _ (List.mem_of_getElem? (i := 12) rfl)
theorem wd_15_13 : Cond.instanceMethod yX5_hasShore ∈ wsL_law := wdm_15 _ (List.mem_of_getElem? (i := 13) rfl)
theorem wd_15_14 : Cond.selects RX5 yX5_hasShore yX5_hasShore ∈ wsL_law := wdm_15 _ (List.mem_of_getElem? (i := 14) rfl)
theorem wd_15_15 : Cond.code yX5_hasShore cX5_hasShore 1 (some .boolean) ∈ wsL_law := wdm_15 _ (List.mem_of_getElem? (i := 15) rfl)
theorem wd_15_16 : Cond.methodLink RL 43 yX6_flow ∈ wsL_law := wdm_15 _ (List.mem_of_getElem? (i := 16) rfl)
theorem wd_15_17 : Cond.instanceMethod yX6_flow ∈ wsL_law := wdm_15 _ (List.mem_of_getElem? (i := 17) rfl)
theorem wd_15_18 : Cond.selects RX6 yX6_flow yX6_flow ∈ wsL_law := wdm_15 _ (List.mem_of_getElem? (i := 18) rfl)
theorem wd_15_19 : Cond.code yX6_flow cX6_flow 3 (some .int) ∈ wsL_law := wdm_15 _ (List.mem_of_getElem? (i := 19) rfl)
theorem wd_15_20 : Cond.methodLink RL 44 yX5_calm ∈ wsL_law := wdm_15 _ (List.mem_of_getElem? (i := 20) rfl)
theorem wd_15_21 : Cond.instanceMethod yX5_calm ∈ wsL_law := wdm_15 _ (List.mem_of_getElem? (i := 21) rfl)
theorem wd_15_22 : Cond.selects RX5 yX5_calm yX5_calm ∈ wsL_law := wdm_15 _ (List.mem_of_getElem? (i := 22) rfl)
theorem wd_15_23 : Cond.code yX5_calm cX5_calm 4 (some .int) ∈ wsL_law := wdm_15 _ (List.mem_of_getElem? (i := 23) rfl)
theorem wdm_16 : ∀ w ∈ wsL_law_r16, w ∈ wsL_law := fun _ h => List.mem_append_left _ (List.mem_append_left _ (List.mem_append_left _ (List.mem_append_left _ (List.mem_append_left _ (List.mem_append_left _ (List.mem_append_left _ (List.mem_append_left _ (List.mem_append_right _ (List.mem_append_right _ (List.mem_append_right _ (List.mem_append_right _ (List.mem_append_right _ (List.mem_append_right _ (List.mem_append_right _ (List.mem_append_right _ (List.mem_append_right _ (List.mem_append_right _ (List.mem_append_right _ (List.mem_append_right _ (List.mem_append_right _ (List.mem_append_right _ (List.mem_append_right _ (List.mem_append_left _ (h))))))))))))))))))))))))
theorem wd_16_0 : Cond.fieldLink RX5 134 "TideSeats$Shore" "mild" "I" ∈ wsL_law := wdm_16 _ (List.mem_of_getElem? (i := 0) rfl)
theorem wd_16_1 : Cond.methodLink RL 47 yX6_calm ∈ wsL_law := wdm_16 _ (List.mem_of_getElem? (i := 1) rfl)
theorem wd_16_2 : Cond.instanceMethod yX6_calm ∈ wsL_law := wdm_16 _ (List.mem_of_getElem? (i := 2) rfl)
theorem wd_16_3 : Cond.selects RX6 yX6_calm yX6_calm ∈ wsL_law := wdm_16 _ (List.mem_of_getElem? (i := 3) rfl)
theorem wd_16_4 : Cond.code yX6_calm cX6_calm 3 (some .int) ∈ wsL_law := wdm_16 _ (List.mem_of_getElem? (i := 4) rfl)
theorem wd_16_5 : Cond.methodLink RL 48 yX5_leap ∈ wsL_law := wdm_16 _ (List.mem_of_getElem? (i := 5) rfl)
theorem wd_16_6 : Cond.instanceMethod yX5_leap ∈ wsL_law := wdm_16 _ (List.mem_of_getElem? (i := 6) rfl)
theorem wd_16_7 : Cond.selects RX5 yX5_leap yX5_leap ∈ wsL_law := wdm_16 _ (List.mem_of_getElem? (i := 7) rfl)
theorem wd_16_8 : Cond.code yX5_leap cX5_leap 4 (some .int) ∈ wsL_law := wdm_16 _ (List.mem_of_getElem? (i := 8) rfl)
theorem wd_16_9 : Cond.fieldLink RX5 137 "TideSeats$Shore" "reach" "I" ∈ wsL_law := wdm_16 _ (List.mem_of_getElem? (i := 9) rfl)
theorem wd_16_10 : Cond.methodLink RL 51 yX6_leap ∈ wsL_law := wdm_16 _ (List.mem_of_getElem? (i := 10) rfl)
theorem wd_16_11 : Cond.instanceMethod yX6_leap ∈ wsL_law := wdm_16 _ (List.mem_of_getElem? (i := 11) rfl)
theorem wd_16_12 : Cond.selects RX6 yX6_leap yX6_leap ∈ wsL_law := wdm_16 _ (List.mem_of_getElem? (i := 12) rfl)
theorem wd_16_13 : Cond.code yX6_leap cX6_leap 3 (some .int) ∈ wsL_law := wdm_16 _ (List.mem_of_getElem? (i := 13) rfl)
theorem wd_16_14 : Cond.methodLink RL 52 yX5_washed ∈ wsL_law := wdm_16 _ (List.mem_of_getElem? (i := 14) rfl)
theorem wd_16_15 : Cond.instanceMethod yX5_washed ∈ wsL_law := wdm_16 _ (List.mem_of_getElem? (i := 15) rfl)
theorem wd_16_16 : Cond.selects RX5 yX5_washed yX5_washed ∈ wsL_law := wdm_16 _ (List.mem_of_getElem? (i := 16) rfl)
theorem wd_16_17 : Cond.code yX5_washed cX5_washed 3 (some .int) ∈ wsL_law := wdm_16 _ (List.mem_of_getElem? (i := 17) rfl)
theorem wd_16_18 : Cond.methodLink RX5 140 yX4_washedBy ∈ wsL_law := wdm_16 _ (List.mem_of_getElem? (i := 18) rfl)
theorem wd_16_19 : Cond.instanceMethod yX4_washedBy ∈ wsL_law := wdm_16 _ (List.mem_of_getElem? (i := 19) rfl)
theorem wd_16_20 : Cond.selects RX4 yX4_washedBy yX4_washedBy ∈ wsL_law := wdm_16 _ (List.mem_of_getElem? (i := 20) rfl)
theorem wd_16_21 : Cond.code yX4_washedBy cX4_washedBy 4 (some .int) ∈ wsL_law := wdm_16 _ (List.mem_of_getElem? (i := 21) rfl)
theorem wd_16_22 : Cond.methodLink RX4 93 yX4_isWashed ∈ wsL_law := wdm_16 _ (List.mem_of_getElem? (i := 22) rfl)
theorem wd_16_23 : Cond.instanceMethod yX4_isWashed ∈ wsL_law := wdm_16 _ (List.mem_of_getElem? (i := 23) rfl)
theorem wdm_17 : ∀ w ∈ wsL_law_r17, w ∈ wsL_law := fun _ h => List.mem_append_left _ (List.mem_append_left _ (List.mem_append_left _ (List.mem_append_left _ (List.mem_append_left _ (List.mem_append_left _ (List.mem_append_left _ (List.mem_append_left _ (List.mem_append_right _ (List.mem_append_right _ (List.mem_append_right _ (List.mem_append_right _ (List.mem_append_right _ (List.mem_append_right _ (List.mem_append_right _ (List.mem_append_right _ (List.mem_append_right _ (List.mem_append_right _ (List.mem_append_right _ (List.mem_append_right _ (List.mem_append_right _ (List.mem_append_right _ (List.mem_append_right _ (List.mem_append_right _ (List.mem_append_left _ (h)))))))))))))))))))))))))
theorem wd_17_0 : Cond.selects RX4 yX4_isWashed yX4_isWashed ∈ wsL_law := wdm_17 _ (List.mem_of_getElem? (i := 0) rfl)
theorem wd_17_1 : Cond.code yX4_isWashed cX4_isWashed 3 (some .boolean) ∈ wsL_law := wdm_17 _ (List.mem_of_getElem? (i := 1) rfl)
theorem wd_17_2 : Cond.methodLink RL 55 yX6_washed ∈ wsL_law := wdm_17 _ (List.mem_of_getElem? (i := 2) rfl)
theorem wd_17_3 : Cond.instanceMethod yX6_washed ∈ wsL_law := wdm_17 _ (List.mem_of_getElem? (i := 3) rfl)
theorem wd_17_4 : Cond.selects RX6 yX6_washed yX6_washed ∈ wsL_law := wdm_17 _ (List.mem_of_getElem? (i := 4) rfl)
theorem wd_17_5 : Cond.code yX6_washed cX6_washed 2 (some .int) ∈ wsL_law := wdm_17 _ (List.mem_of_getElem? (i := 5) rfl)
theorem wd_17_6 : Cond.methodLink RX6 163 yX6_washedBy ∈ wsL_law := wdm_17 _ (List.mem_of_getElem? (i := 6) rfl)
theorem wd_17_7 : Cond.instanceMethod yX6_washedBy ∈ wsL_law := wdm_17 _ (List.mem_of_getElem? (i := 7) rfl)
theorem wd_17_8 : Cond.selects RX6 yX6_washedBy yX6_washedBy ∈ wsL_law := wdm_17 _ (List.mem_of_getElem? (i := 8) rfl)
theorem wd_17_9 : Cond.code yX6_washedBy cX6_washedBy 4 (some .int) ∈ wsL_law := wdm_17 _ (List.mem_of_getElem? (i := 9) rfl)
theorem wd_17_10 : Cond.methodLink RL 56 yX5_carried ∈ wsL_law := wdm_17 _ (List.mem_of_getElem? (i := 10) rfl)
theorem wd_17_11 : Cond.instanceMethod yX5_carried ∈ wsL_law := wdm_17 _ (List.mem_of_getElem? (i := 11) rfl)
theorem wd_17_12 : Cond.selects RX5 yX5_carried yX5_carried ∈ wsL_law := wdm_17 _ (List.mem_of_getElem? (i := 12) rfl)
theorem wd_17_13 : Cond.code yX5_carried cX5_carried 3 (some .int) ∈ wsL_law := wdm_17 _ (List.mem_of_getElem? (i := 13) rfl)
theorem wd_17_14 : Cond.methodLink RX5 143 yX4_seatBehind ∈ wsL_law := wdm_17 _ (List.mem_of_getElem? (i := 14) rfl)
theorem wd_17_15 : Cond.instanceMethod yX4_seatBehind ∈ wsL_law := wdm_17 _ (List.mem_of_getElem? (i := 15) rfl)
theorem wd_17_16 : Cond.selects RX4 yX4_seatBehind yX4_seatBehind ∈ wsL_law := wdm_17 _ (List.mem_of_getElem? (i := 16) rfl)
theorem wd_17_17 : Cond.code yX4_seatBehind cX4_seatBehind 3 (some .int) ∈ wsL_law := wdm_17 _ (List.mem_of_getElem? (i := 17) rfl)
theorem wd_17_18 : Cond.methodLink RX4 103 yX4_poolBehind ∈ wsL_law := wdm_17 _ (List.mem_of_getElem? (i := 18) rfl)
theorem wd_17_19 : Cond.instanceMethod yX4_poolBehind ∈ wsL_law := wdm_17 _ (List.mem_of_getElem? (i := 19) rfl)
theorem wd_17_20 : Cond.selects RX4 yX4_poolBehind yX4_poolBehind ∈ wsL_law := wdm_17 _ (List.mem_of_getElem? (i := 20) rfl)
theorem wd_17_21 : Cond.code yX4_poolBehind cX4_poolBehind 6 (some .int) ∈ wsL_law := wdm_17 _ (List.mem_of_getElem? (i := 21) rfl)
theorem wd_17_22 : Cond.methodLink RX4 97 yX4_stepsOf ∈ wsL_law := wdm_17 _ (List.mem_of_getElem? (i := 22) rfl)
theorem wd_17_23 : Cond.methodLink RX4 100 yX4_nextWashed ∈ wsL_law := wdm_17 _ (List.mem_of_getElem? (i := 23) rfl)
theorem wdm_18 : ∀ w ∈ wsL_law_r18, w ∈ wsL_law := fun _ h => List.mem_append_left _ (List.mem_append_left _ (List.mem_append_left _ (List.mem_append_left _ (List.mem_append_left _ (List.mem_append_left _ (List.mem_append_left _ (List.mem_append_left _ (List.mem_append_right _ (List.mem_append_right _ (List.mem_append_right _ (List.mem_append_right _ (List.mem_append_right _ (List.mem_append_right _ (List.mem_append_right _ (List.mem_append_right _ (List.mem_append_right _ (List.mem_append_right _ (List.mem_append_right _ (List.mem_append_right _ (List.mem_append_right _ (List.mem_append_right _ (List.mem_append_right _ (List.mem_append_right _ (List.mem_append_right _ (List.mem_append_left _ (h))))))))))))))))))))))))))
theorem wd_18_0 : Cond.instanceMethod yX4_nextWashed ∈ wsL_law := wdm_18 _ (List.mem_of_getElem? (i := 0) rfl)
theorem wd_18_1 : Cond.selects RX4 yX4_nextWashed yX4_nextWashed ∈ wsL_law := wdm_18 _ (List.mem_of_getElem? (i := 1) rfl)
theorem wd_18_2 : Cond.code yX4_nextWashed cX4_nextWashed 5 (some .int) ∈ wsL_law := wdm_18 _ (List.mem_of_getElem? (i := 2) rfl)
theorem wd_18_3 : Cond.methodLink RL 59 yX6_carried ∈ wsL_law := wdm_18 _ (List.mem_of_getElem? (i := 3) rfl)
theorem wd_18_4 : Cond.instanceMethod yX6_carried ∈ wsL_law := wdm_18 _ (List.mem_of_getElem? (i := 4) rfl)
theorem wd_18_5 : Cond.selects RX6 yX6_carried yX6_carried ∈ wsL_law := wdm_18 _ (List.mem_of_getElem? (i := 5) rfl)
theorem wd_18_6 : Cond.code yX6_carried cX6_carried 3 (some .int) ∈ wsL_law := wdm_18 _ (List.mem_of_getElem? (i := 6) rfl)
theorem wd_18_7 : Cond.methodLink RX6 166 yX6_carriedFrom ∈ wsL_law := wdm_18 _ (List.mem_of_getElem? (i := 7) rfl)
theorem wd_18_8 : Cond.instanceMethod yX6_carriedFrom ∈ wsL_law := wdm_18 _ (List.mem_of_getElem? (i := 8) rfl)
theorem wd_18_9 : Cond.selects RX6 yX6_carriedFrom yX6_carriedFrom ∈ wsL_law := wdm_18 _ (List.mem_of_getElem? (i := 9) rfl)
theorem wd_18_10 : Cond.code yX6_carriedFrom cX6_carriedFrom 6 (some .int) ∈ wsL_law := wdm_18 _ (List.mem_of_getElem? (i := 10) rfl)
theorem wd_18_11 : Cond.methodLink RL 60 yX5_tide ∈ wsL_law := wdm_18 _ (List.mem_of_getElem? (i := 11) rfl)
theorem wd_18_12 : Cond.instanceMethod yX5_tide ∈ wsL_law := wdm_18 _ (List.mem_of_getElem? (i := 12) rfl)
theorem wd_18_13 : Cond.selects RX5 yX5_tide yX5_tide ∈ wsL_law := wdm_18 _ (List.mem_of_getElem? (i := 13) rfl)
theorem wd_18_14 : Cond.code yX5_tide cX5_tide 3 (some .int) ∈ wsL_law := wdm_18 _ (List.mem_of_getElem? (i := 14) rfl)
theorem wd_18_15 : Cond.methodLink RX5 147 yX4_carryAll ∈ wsL_law := wdm_18 _ (List.mem_of_getElem? (i := 15) rfl)
theorem wd_18_16 : Cond.instanceMethod yX4_carryAll ∈ wsL_law := wdm_18 _ (List.mem_of_getElem? (i := 16) rfl)
theorem wd_18_17 : Cond.selects RX4 yX4_carryAll yX4_carryAll ∈ wsL_law := wdm_18 _ (List.mem_of_getElem? (i := 17) rfl)
theorem wd_18_18 : Cond.code yX4_carryAll cX4_carryAll 5 (some .int) ∈ wsL_law := wdm_18 _ (List.mem_of_getElem? (i := 18) rfl)
theorem wd_18_19 : Cond.methodLink RX4 107 yX4_seatBehind ∈ wsL_law := wdm_18 _ (List.mem_of_getElem? (i := 19) rfl)
theorem wd_18_20 : Cond.static yX5_oneIf ∈ wsL_law := wdm_18 _ (List.mem_of_getElem? (i := 20) rfl)
theorem wd_18_21 : Cond.code yX5_oneIf cX5_oneIf 1 (some .int) ∈ wsL_law := wdm_18 _ (List.mem_of_getElem? (i := 21) rfl)
theorem wd_18_22 : Cond.methodLink RL 63 yX6_tide ∈ wsL_law := wdm_18 _ (List.mem_of_getElem? (i := 22) rfl)
theorem wd_18_23 : Cond.instanceMethod yX6_tide ∈ wsL_law := wdm_18 _ (List.mem_of_getElem? (i := 23) rfl)
theorem wdm_19 : ∀ w ∈ wsL_law_r19, w ∈ wsL_law := fun _ h => List.mem_append_left _ (List.mem_append_left _ (List.mem_append_left _ (List.mem_append_left _ (List.mem_append_left _ (List.mem_append_left _ (List.mem_append_left _ (List.mem_append_left _ (List.mem_append_right _ (List.mem_append_right _ (List.mem_append_right _ (List.mem_append_right _ (List.mem_append_right _ (List.mem_append_right _ (List.mem_append_right _ (List.mem_append_right _ (List.mem_append_right _ (List.mem_append_right _ (List.mem_append_right _ (List.mem_append_right _ (List.mem_append_right _ (List.mem_append_right _ (List.mem_append_right _ (List.mem_append_right _ (List.mem_append_right _ (List.mem_append_right _ (List.mem_append_left _ (h)))))))))))))))))))))))))))
theorem wd_19_0 : Cond.selects RX6 yX6_tide yX6_tide ∈ wsL_law := wdm_19 _ (List.mem_of_getElem? (i := 0) rfl)
theorem wd_19_1 : Cond.code yX6_tide cX6_tide 2 (some .int) ∈ wsL_law := wdm_19 _ (List.mem_of_getElem? (i := 1) rfl)
theorem wd_19_2 : Cond.methodLink RX6 169 yX6_carryAll ∈ wsL_law := wdm_19 _ (List.mem_of_getElem? (i := 2) rfl)
theorem wd_19_3 : Cond.instanceMethod yX6_carryAll ∈ wsL_law := wdm_19 _ (List.mem_of_getElem? (i := 3) rfl)
theorem wd_19_4 : Cond.selects RX6 yX6_carryAll yX6_carryAll ∈ wsL_law := wdm_19 _ (List.mem_of_getElem? (i := 4) rfl)
theorem wd_19_5 : Cond.code yX6_carryAll cX6_carryAll 5 (some .int) ∈ wsL_law := wdm_19 _ (List.mem_of_getElem? (i := 5) rfl)
theorem wd_19_6 : Cond.methodLink RL 64 yX5_ayes ∈ wsL_law := wdm_19 _ (List.mem_of_getElem? (i := 6) rfl)
theorem wd_19_7 : Cond.instanceMethod yX5_ayes ∈ wsL_law := wdm_19 _ (List.mem_of_getElem? (i := 7) rfl)
theorem wd_19_8 : Cond.selects RX5 yX5_ayes yX5_ayes ∈ wsL_law := wdm_19 _ (List.mem_of_getElem? (i := 8) rfl)
theorem wd_19_9 : Cond.code yX5_ayes cX5_ayes 3 (some .int) ∈ wsL_law := wdm_19 _ (List.mem_of_getElem? (i := 9) rfl)
theorem wd_19_10 : Cond.methodLink RX5 150 yX4_friendsOf ∈ wsL_law := wdm_19 _ (List.mem_of_getElem? (i := 10) rfl)
theorem wd_19_11 : Cond.instanceMethod yX4_friendsOf ∈ wsL_law := wdm_19 _ (List.mem_of_getElem? (i := 11) rfl)
theorem wd_19_12 : Cond.selects RX4 yX4_friendsOf yX4_friendsOf ∈ wsL_law := wdm_19 _ (List.mem_of_getElem? (i := 12) rfl)
theorem wd_19_13 : Cond.code yX4_friendsOf cX4_friendsOf 4 (some .int) ∈ wsL_law := wdm_19 _ (List.mem_of_getElem? (i := 13) rfl)
theorem wd_19_14 : Cond.methodLink RX4 110 Lib.Math.abs.name ∈ wsL_law := wdm_19 _ (List.mem_of_getElem? (i := 14) rfl)
theorem wd_19_15 : Cond.static Lib.Math.abs.name ∈ wsL_law := wdm_19 _ (List.mem_of_getElem? (i := 15) rfl)
theorem wd_19_16 : Cond.initialized "java/lang/Math" ∈ wsL_law := wdm_19 _ (List.mem_of_getElem? (i := 16) rfl)
theorem wd_19_17 : Cond.code Lib.Math.abs.name Lib.Math.abs.code 1 (some .int) ∈ wsL_law := wdm_19 _ (List.mem_of_getElem? (i := 17) rfl)
theorem wd_19_18 : Cond.methodLink RL 67 yX6_ayes ∈ wsL_law := wdm_19 _ (List.mem_of_getElem? (i := 18) rfl)
theorem wd_19_19 : Cond.instanceMethod yX6_ayes ∈ wsL_law := wdm_19 _ (List.mem_of_getElem? (i := 19) rfl)
theorem wd_19_20 : Cond.selects RX6 yX6_ayes yX6_ayes ∈ wsL_law := wdm_19 _ (List.mem_of_getElem? (i := 20) rfl)
theorem wd_19_21 : Cond.code yX6_ayes cX6_ayes 2 (some .int) ∈ wsL_law := wdm_19 _ (List.mem_of_getElem? (i := 21) rfl)
theorem wd_19_22 : Cond.methodLink RX6 179 yX6_ayesOf ∈ wsL_law := wdm_19 _ (List.mem_of_getElem? (i := 22) rfl)
theorem wd_19_23 : Cond.instanceMethod yX6_ayesOf ∈ wsL_law := wdm_19 _ (List.mem_of_getElem? (i := 23) rfl)
theorem wdm_20 : ∀ w ∈ wsL_law_r20, w ∈ wsL_law := fun _ h => List.mem_append_left _ (List.mem_append_left _ (List.mem_append_left _ (List.mem_append_left _ (List.mem_append_left _ (List.mem_append_left _ (List.mem_append_left _ (List.mem_append_left _ (List.mem_append_right _ (List.mem_append_right _ (List.mem_append_right _ (List.mem_append_right _ (List.mem_append_right _ (List.mem_append_right _ (List.mem_append_right _ (List.mem_append_right _ (List.mem_append_right _ (List.mem_append_right _ (List.mem_append_right _ (List.mem_append_right _ (List.mem_append_right _ (List.mem_append_right _ (List.mem_append_right _ (List.mem_append_right _ (List.mem_append_right _ (List.mem_append_right _ (List.mem_append_right _ (List.mem_append_left _ (h))))))))))))))))))))))))))))
theorem wd_20_0 : Cond.selects RX6 yX6_ayesOf yX6_ayesOf ∈ wsL_law := wdm_20 _ (List.mem_of_getElem? (i := 0) rfl)
theorem wd_20_1 : Cond.code yX6_ayesOf cX6_ayesOf 5 (some .int) ∈ wsL_law := wdm_20 _ (List.mem_of_getElem? (i := 1) rfl)
theorem wd_20_2 : Cond.methodLink RL 68 yX5_passes ∈ wsL_law := wdm_20 _ (List.mem_of_getElem? (i := 2) rfl)
theorem wd_20_3 : Cond.instanceMethod yX5_passes ∈ wsL_law := wdm_20 _ (List.mem_of_getElem? (i := 3) rfl)
theorem wd_20_4 : Cond.selects RX5 yX5_passes yX5_passes ∈ wsL_law := wdm_20 _ (List.mem_of_getElem? (i := 4) rfl)
theorem wd_20_5 : Cond.code yX5_passes cX5_passes 3 (some .int) ∈ wsL_law := wdm_20 _ (List.mem_of_getElem? (i := 5) rfl)
theorem wd_20_6 : Cond.methodLink RX5 153 yX4_poolsWon ∈ wsL_law := wdm_20 _ (List.mem_of_getElem? (i := 6) rfl)
theorem wd_20_7 : Cond.instanceMethod yX4_poolsWon ∈ wsL_law := wdm_20 _ (List.mem_of_getElem? (i := 7) rfl)
theorem wd_20_8 : Cond.selects RX4 yX4_poolsWon yX4_poolsWon ∈ wsL_law := wdm_20 _ (List.mem_of_getElem? (i := 8) rfl)
theorem wd_20_9 : Cond.code yX4_poolsWon cX4_poolsWon 5 (some .int) ∈ wsL_law := wdm_20 _ (List.mem_of_getElem? (i := 9) rfl)
theorem wd_20_10 : Cond.methodLink RL 71 yX6_passes ∈ wsL_law := wdm_20 _ (List.mem_of_getElem? (i := 10) rfl)
theorem wd_20_11 : Cond.instanceMethod yX6_passes ∈ wsL_law := wdm_20 _ (List.mem_of_getElem? (i := 11) rfl)
theorem wd_20_12 : Cond.selects RX6 yX6_passes yX6_passes ∈ wsL_law := wdm_20 _ (List.mem_of_getElem? (i := 12) rfl)
theorem wd_20_13 : Cond.code yX6_passes cX6_passes 2 (some .int) ∈ wsL_law := wdm_20 _ (List.mem_of_getElem? (i := 13) rfl)
theorem wd_20_14 : Cond.methodLink RX6 172 yX6_passesBy ∈ wsL_law := wdm_20 _ (List.mem_of_getElem? (i := 14) rfl)
theorem wd_20_15 : Cond.instanceMethod yX6_passesBy ∈ wsL_law := wdm_20 _ (List.mem_of_getElem? (i := 15) rfl)
theorem wd_20_16 : Cond.selects RX6 yX6_passesBy yX6_passesBy ∈ wsL_law := wdm_20 _ (List.mem_of_getElem? (i := 16) rfl)
theorem wd_20_17 : Cond.code yX6_passesBy cX6_passesBy 5 (some .int) ∈ wsL_law := wdm_20 _ (List.mem_of_getElem? (i := 17) rfl)
theorem wd_20_18 : Cond.methodLink RL 72 yX5_law ∈ wsL_law := wdm_20 _ (List.mem_of_getElem? (i := 18) rfl)
theorem wd_20_19 : Cond.instanceMethod yX5_law ∈ wsL_law := wdm_20 _ (List.mem_of_getElem? (i := 19) rfl)
theorem wd_20_20 : Cond.selects RX5 yX5_law yX5_law ∈ wsL_law := wdm_20 _ (List.mem_of_getElem? (i := 20) rfl)
theorem wd_20_21 : Cond.code yX5_law cX5_law 3 (some .int) ∈ wsL_law := wdm_20 _ (List.mem_of_getElem? (i := 21) rfl)
theorem wd_20_22 : Cond.methodLink RX5 156 yX4_isLawBy ∈ wsL_law := wdm_20 _ (List.mem_of_getElem? (i := 22) rfl)
theorem wd_20_23 : Cond.instanceMethod yX4_isLawBy ∈ wsL_law := wdm_20 _ (List.mem_of_getElem? (i := 23) rfl)
theorem wdm_21 : ∀ w ∈ wsL_law_r21, w ∈ wsL_law := fun _ h => List.mem_append_left _ (List.mem_append_left _ (List.mem_append_left _ (List.mem_append_left _ (List.mem_append_left _ (List.mem_append_left _ (List.mem_append_left _ (List.mem_append_left _ (List.mem_append_right _ (List.mem_append_right _ (List.mem_append_right _ (List.mem_append_right _ (List.mem_append_right _ (List.mem_append_right _ (List.mem_append_right _ (List.mem_append_right _ (List.mem_append_right _ (List.mem_append_right _ (List.mem_append_right _ (List.mem_append_right _ (List.mem_append_right _ (List.mem_append_right _ (List.mem_append_right _ (List.mem_append_right _ (List.mem_append_right _ (List.mem_append_right _ (List.mem_append_right _ (List.mem_append_right _ (List.mem_append_left _ (h)))))))))))))))))))))))))))))
theorem wd_21_0 : Cond.selects RX4 yX4_isLawBy yX4_isLawBy ∈ wsL_law := wdm_21 _ (List.mem_of_getElem? (i := 0) rfl)
theorem wd_21_1 : Cond.code yX4_isLawBy cX4_isLawBy 2 (some .boolean) ∈ wsL_law := wdm_21 _ (List.mem_of_getElem? (i := 1) rfl)
theorem wd_21_2 : Cond.methodLink RX4 115 yX4_poolsWon ∈ wsL_law := wdm_21 _ (List.mem_of_getElem? (i := 2) rfl)
theorem wd_21_3 : Cond.methodLink RX4 118 yX4_poolsSatIn ∈ wsL_law := wdm_21 _ (List.mem_of_getElem? (i := 3) rfl)
theorem wd_21_4 : Cond.instanceMethod yX4_poolsSatIn ∈ wsL_law := wdm_21 _ (List.mem_of_getElem? (i := 4) rfl)
theorem wd_21_5 : Cond.selects RX4 yX4_poolsSatIn yX4_poolsSatIn ∈ wsL_law := wdm_21 _ (List.mem_of_getElem? (i := 5) rfl)
theorem wd_21_6 : Cond.code yX4_poolsSatIn cX4_poolsSatIn 3 (some .int) ∈ wsL_law := wdm_21 _ (List.mem_of_getElem? (i := 6) rfl)
theorem wd_21_7 : Cond.methodLink RX5 159 yX5_oneIf ∈ wsL_law := wdm_21 _ (List.mem_of_getElem? (i := 7) rfl)
theorem wd_21_8 : Cond.methodLink RL 75 yX6_law ∈ wsL_law := wdm_21 _ (List.mem_of_getElem? (i := 8) rfl)
theorem wd_21_9 : Cond.instanceMethod yX6_law ∈ wsL_law := wdm_21 _ (List.mem_of_getElem? (i := 9) rfl)
theorem wd_21_10 : Cond.selects RX6 yX6_law yX6_law ∈ wsL_law := wdm_21 _ (List.mem_of_getElem? (i := 10) rfl)
theorem wd_21_11 : Cond.code yX6_law cX6_law 2 (some .int) ∈ wsL_law := wdm_21 _ (List.mem_of_getElem? (i := 11) rfl)
theorem wd_21_12 : Cond.methodLink RX6 182 yX6_isLawBy ∈ wsL_law := wdm_21 _ (List.mem_of_getElem? (i := 12) rfl)
theorem wd_21_13 : Cond.instanceMethod yX6_isLawBy ∈ wsL_law := wdm_21 _ (List.mem_of_getElem? (i := 13) rfl)
theorem wd_21_14 : Cond.selects RX6 yX6_isLawBy yX6_isLawBy ∈ wsL_law := wdm_21 _ (List.mem_of_getElem? (i := 14) rfl)
theorem wd_21_15 : Cond.code yX6_isLawBy cX6_isLawBy 2 (some .boolean) ∈ wsL_law := wdm_21 _ (List.mem_of_getElem? (i := 15) rfl)
theorem wd_21_16 : Cond.methodLink RX6 175 yX6_occupied ∈ wsL_law := wdm_21 _ (List.mem_of_getElem? (i := 16) rfl)
theorem wd_21_17 : Cond.instanceMethod yX6_occupied ∈ wsL_law := wdm_21 _ (List.mem_of_getElem? (i := 17) rfl)
theorem wd_21_18 : Cond.selects RX6 yX6_occupied yX6_occupied ∈ wsL_law := wdm_21 _ (List.mem_of_getElem? (i := 18) rfl)
theorem wd_21_19 : Cond.code yX6_occupied cX6_occupied 3 (some .int) ∈ wsL_law := wdm_21 _ (List.mem_of_getElem? (i := 19) rfl)
theorem wd_21_20 : Cond.methodLink RL 76 yX5_year ∈ wsL_law := wdm_21 _ (List.mem_of_getElem? (i := 20) rfl)
theorem wd_21_21 : Cond.instanceMethod yX5_year ∈ wsL_law := wdm_21 _ (List.mem_of_getElem? (i := 21) rfl)
theorem wd_21_22 : Cond.selects RX5 yX5_year yX5_year ∈ wsL_law := wdm_21 _ (List.mem_of_getElem? (i := 22) rfl)
theorem wd_21_23 : Cond.code yX5_year cX5_year 7 (some .int) ∈ wsL_law := wdm_21 _ (List.mem_of_getElem? (i := 23) rfl)
theorem wdm_22 : ∀ w ∈ wsL_law_r22, w ∈ wsL_law := fun _ h => List.mem_append_left _ (List.mem_append_left _ (List.mem_append_left _ (List.mem_append_left _ (List.mem_append_left _ (List.mem_append_left _ (List.mem_append_left _ (List.mem_append_left _ (List.mem_append_right _ (List.mem_append_right _ (List.mem_append_right _ (List.mem_append_right _ (List.mem_append_right _ (List.mem_append_right _ (List.mem_append_right _ (List.mem_append_right _ (List.mem_append_right _ (List.mem_append_right _ (List.mem_append_right _ (List.mem_append_right _ (List.mem_append_right _ (List.mem_append_right _ (List.mem_append_right _ (List.mem_append_right _ (List.mem_append_right _ (List.mem_append_right _ (List.mem_append_right _ (List.mem_append_right _ (List.mem_append_right _ (List.mem_append_left _ (h))))))))))))))))))))))))))))))
theorem wd_22_0 : Cond.methodLink RX5 162 yX5_isToldOfYears ∈ wsL_law := wdm_22 _ (List.mem_of_getElem? (i := 0) rfl)
theorem wd_22_1 : Cond.static yX5_isToldOfYears ∈ wsL_law := wdm_22 _ (List.mem_of_getElem? (i := 1) rfl)
theorem wd_22_2 : Cond.code yX5_isToldOfYears cX5_isToldOfYears 1 (some .boolean) ∈ wsL_law := wdm_22 _ (List.mem_of_getElem? (i := 2) rfl)
theorem wd_22_3 : Cond.methodLink RX5 165 yX5_refusalOfRow ∈ wsL_law := wdm_22 _ (List.mem_of_getElem? (i := 3) rfl)
theorem wd_22_4 : Cond.instanceMethod yX5_refusalOfRow ∈ wsL_law := wdm_22 _ (List.mem_of_getElem? (i := 4) rfl)
theorem wd_22_5 : Cond.selects RX5 yX5_refusalOfRow yX5_refusalOfRow ∈ wsL_law := wdm_22 _ (List.mem_of_getElem? (i := 5) rfl)
theorem wd_22_6 : Cond.code yX5_refusalOfRow cX5_refusalOfRow 7 (some .int) ∈ wsL_law := wdm_22 _ (List.mem_of_getElem? (i := 6) rfl)
theorem wd_22_7 : Cond.methodLink RX5 169 yX3_areWithin ∈ wsL_law := wdm_22 _ (List.mem_of_getElem? (i := 7) rfl)
theorem wd_22_8 : Cond.instanceMethod yX3_areWithin ∈ wsL_law := wdm_22 _ (List.mem_of_getElem? (i := 8) rfl)
theorem wd_22_9 : Cond.selects RX3 yX3_areWithin yX3_areWithin ∈ wsL_law := wdm_22 _ (List.mem_of_getElem? (i := 9) rfl)
theorem wd_22_10 : Cond.code yX3_areWithin cX3_areWithin 5 (some .boolean) ∈ wsL_law := wdm_22 _ (List.mem_of_getElem? (i := 10) rfl)
theorem wd_22_11 : Cond.methodLink RX5 172 yX5_yearTold ∈ wsL_law := wdm_22 _ (List.mem_of_getElem? (i := 11) rfl)
theorem wd_22_12 : Cond.instanceMethod yX5_yearTold ∈ wsL_law := wdm_22 _ (List.mem_of_getElem? (i := 12) rfl)
theorem wd_22_13 : Cond.selects RX5 yX5_yearTold yX5_yearTold ∈ wsL_law := wdm_22 _ (List.mem_of_getElem? (i := 13) rfl)
theorem wd_22_14 : Cond.code yX5_yearTold cX5_yearTold 8 (some .int) ∈ wsL_law := wdm_22 _ (List.mem_of_getElem? (i := 14) rfl)
theorem wd_22_15 : Cond.fieldLink RX5 183 "TideSeats$Sheet" "cells" "[I" ∈ wsL_law := wdm_22 _ (List.mem_of_getElem? (i := 15) rfl)
theorem wd_22_16 : Cond.methodLink RX5 175 yX5_firstWrong ∈ wsL_law := wdm_22 _ (List.mem_of_getElem? (i := 16) rfl)
theorem wd_22_17 : Cond.instanceMethod yX5_firstWrong ∈ wsL_law := wdm_22 _ (List.mem_of_getElem? (i := 17) rfl)
theorem wd_22_18 : Cond.selects RX5 yX5_firstWrong yX5_firstWrong ∈ wsL_law := wdm_22 _ (List.mem_of_getElem? (i := 18) rfl)
theorem wd_22_19 : Cond.code yX5_firstWrong cX5_firstWrong 5 (some .int) ∈ wsL_law := wdm_22 _ (List.mem_of_getElem? (i := 19) rfl)
theorem wd_22_20 : Cond.methodLink RX5 179 yX4_become ∈ wsL_law := wdm_22 _ (List.mem_of_getElem? (i := 20) rfl)
theorem wd_22_21 : Cond.instanceMethod yX4_become ∈ wsL_law := wdm_22 _ (List.mem_of_getElem? (i := 21) rfl)
theorem wd_22_22 : Cond.selects RX4 yX4_become yX4_become ∈ wsL_law := wdm_22 _ (List.mem_of_getElem? (i := 22) rfl)
theorem wd_22_23 : Cond.code yX4_become cX4_become 3 none ∈ wsL_law := wdm_22 _ (List.mem_of_getElem? (i := 23) rfl)
theorem wdm_23 : ∀ w ∈ wsL_law_r23, w ∈ wsL_law := fun _ h => List.mem_append_left _ (List.mem_append_left _ (List.mem_append_left _ (List.mem_append_left _ (List.mem_append_left _ (List.mem_append_left _ (List.mem_append_left _ (List.mem_append_left _ (List.mem_append_right _ (List.mem_append_right _ (List.mem_append_right _ (List.mem_append_right _ (List.mem_append_right _ (List.mem_append_right _ (List.mem_append_right _ (List.mem_append_right _ (List.mem_append_right _ (List.mem_append_right _ (List.mem_append_right _ (List.mem_append_right _ (List.mem_append_right _ (List.mem_append_right _ (List.mem_append_right _ (List.mem_append_right _ (List.mem_append_right _ (List.mem_append_right _ (List.mem_append_right _ (List.mem_append_right _ (List.mem_append_right _ (List.mem_append_right _ (List.mem_append_left _ (h)))))))))))))))))))))))))))))))
theorem wd_23_0 : Cond.methodLink RX5 186 yX5_endOfYear ∈ wsL_law := wdm_23 _ (List.mem_of_getElem? (i := 0) rfl)
theorem wd_23_1 : Cond.instanceMethod yX5_endOfYear ∈ wsL_law := wdm_23 _ (List.mem_of_getElem? (i := 1) rfl)
theorem wd_23_2 : Cond.selects RX5 yX5_endOfYear yX5_endOfYear ∈ wsL_law := wdm_23 _ (List.mem_of_getElem? (i := 2) rfl)
theorem wd_23_3 : Cond.code yX5_endOfYear cX5_endOfYear 3 (some .int) ∈ wsL_law := wdm_23 _ (List.mem_of_getElem? (i := 3) rfl)
theorem wd_23_4 : Cond.methodLink RX5 189 yX4_poolsSatIn ∈ wsL_law := wdm_23 _ (List.mem_of_getElem? (i := 4) rfl)
theorem wd_23_5 : Cond.methodLink RX5 192 yX4_fullestPool ∈ wsL_law := wdm_23 _ (List.mem_of_getElem? (i := 5) rfl)
theorem wd_23_6 : Cond.instanceMethod yX4_fullestPool ∈ wsL_law := wdm_23 _ (List.mem_of_getElem? (i := 6) rfl)
theorem wd_23_7 : Cond.selects RX4 yX4_fullestPool yX4_fullestPool ∈ wsL_law := wdm_23 _ (List.mem_of_getElem? (i := 7) rfl)
theorem wd_23_8 : Cond.code yX4_fullestPool cX4_fullestPool 3 (some .int) ∈ wsL_law := wdm_23 _ (List.mem_of_getElem? (i := 8) rfl)
theorem wd_23_9 : Cond.methodLink RL 80 yX6_year ∈ wsL_law := wdm_23 _ (List.mem_of_getElem? (i := 9) rfl)
theorem wd_23_10 : Cond.instanceMethod yX6_year ∈ wsL_law := wdm_23 _ (List.mem_of_getElem? (i := 10) rfl)
theorem wd_23_11 : Cond.selects RX6 yX6_year yX6_year ∈ wsL_law := wdm_23 _ (List.mem_of_getElem? (i := 11) rfl)
theorem wd_23_12 : Cond.code yX6_year cX6_year 11 (some .int) ∈ wsL_law := wdm_23 _ (List.mem_of_getElem? (i := 12) rfl)
theorem wd_23_13 : Cond.methodLink RX6 188 yX6_goYear ∈ wsL_law := wdm_23 _ (List.mem_of_getElem? (i := 13) rfl)
theorem wd_23_14 : Cond.instanceMethod yX6_goYear ∈ wsL_law := wdm_23 _ (List.mem_of_getElem? (i := 14) rfl)
theorem wd_23_15 : Cond.selects RX6 yX6_goYear yX6_goYear ∈ wsL_law := wdm_23 _ (List.mem_of_getElem? (i := 15) rfl)
theorem wd_23_16 : Cond.code yX6_goYear cX6_goYear 4 (some .int) ∈ wsL_law := wdm_23 _ (List.mem_of_getElem? (i := 16) rfl)
theorem wd_23_17 : Cond.fieldLink RX6 185 "TideSeatsModel" "moved" "I" ∈ wsL_law := wdm_23 _ (List.mem_of_getElem? (i := 17) rfl)
theorem wd_23_18 : Cond.methodLink RX6 192 yX6_tellYear ∈ wsL_law := wdm_23 _ (List.mem_of_getElem? (i := 18) rfl)
theorem wd_23_19 : Cond.instanceMethod yX6_tellYear ∈ wsL_law := wdm_23 _ (List.mem_of_getElem? (i := 19) rfl)
theorem wd_23_20 : Cond.selects RX6 yX6_tellYear yX6_tellYear ∈ wsL_law := wdm_23 _ (List.mem_of_getElem? (i := 20) rfl)
theorem wd_23_21 : Cond.code yX6_tellYear cX6_tellYear 4 (some .int) ∈ wsL_law := wdm_23 _ (List.mem_of_getElem? (i := 21) rfl)
theorem wd_23_22 : Cond.methodLink RL 81 yX5_best ∈ wsL_law := wdm_23 _ (List.mem_of_getElem? (i := 22) rfl)
theorem wd_23_23 : Cond.instanceMethod yX5_best ∈ wsL_law := wdm_23 _ (List.mem_of_getElem? (i := 23) rfl)
theorem wdm_24 : ∀ w ∈ wsL_law_r24, w ∈ wsL_law := fun _ h => List.mem_append_left _ (List.mem_append_left _ (List.mem_append_left _ (List.mem_append_left _ (List.mem_append_left _ (List.mem_append_left _ (List.mem_append_left _ (List.mem_append_left _ (List.mem_append_right _ (List.mem_append_right _ (List.mem_append_right _ (List.mem_append_right _ (List.mem_append_right _ (List.mem_append_right _ (List.mem_append_right _ (List.mem_append_right _ (List.mem_append_right _ (List.mem_append_right _ (List.mem_append_right _ (List.mem_append_right _ (List.mem_append_right _ (List.mem_append_right _ (List.mem_append_right _ (List.mem_append_right _ (List.mem_append_right _ (List.mem_append_right _ (List.mem_append_right _ (List.mem_append_right _ (List.mem_append_right _ (List.mem_append_right _ (List.mem_append_right _ (List.mem_append_left _ (h))))))))))))))))))))))))))))))))
theorem wd_24_0 : Cond.selects RX5 yX5_best yX5_best ∈ wsL_law := wdm_24 _ (List.mem_of_getElem? (i := 0) rfl)
theorem wd_24_1 : Cond.code yX5_best cX5_best 7 (some .int) ∈ wsL_law := wdm_24 _ (List.mem_of_getElem? (i := 1) rfl)
theorem wd_24_2 : Cond.methodLink RX5 195 yJ6_bitCount_0f7a4 ∈ wsL_law := wdm_24 _ (List.mem_of_getElem? (i := 2) rfl)
theorem wd_24_3 : Cond.methodLink RL 84 yX6_best ∈ wsL_law := wdm_24 _ (List.mem_of_getElem? (i := 3) rfl)
theorem wd_24_4 : Cond.instanceMethod yX6_best ∈ wsL_law := wdm_24 _ (List.mem_of_getElem? (i := 4) rfl)
theorem wd_24_5 : Cond.selects RX6 yX6_best yX6_best ∈ wsL_law := wdm_24 _ (List.mem_of_getElem? (i := 5) rfl)
theorem wd_24_6 : Cond.code yX6_best cX6_best 6 (some .int) ∈ wsL_law := wdm_24 _ (List.mem_of_getElem? (i := 6) rfl)
theorem wd_24_7 : Cond.methodLink RL 85 yX5_turn ∈ wsL_law := wdm_24 _ (List.mem_of_getElem? (i := 7) rfl)
theorem wd_24_8 : Cond.instanceMethod yX5_turn ∈ wsL_law := wdm_24 _ (List.mem_of_getElem? (i := 8) rfl)
theorem wd_24_9 : Cond.selects RX5 yX5_turn yX5_turn ∈ wsL_law := wdm_24 _ (List.mem_of_getElem? (i := 9) rfl)
theorem wd_24_10 : Cond.code yX5_turn cX5_turn 3 (some .int) ∈ wsL_law := wdm_24 _ (List.mem_of_getElem? (i := 10) rfl)
theorem wd_24_11 : Cond.methodLink RX5 200 yX5_fewestToTurn ∈ wsL_law := wdm_24 _ (List.mem_of_getElem? (i := 11) rfl)
theorem wd_24_12 : Cond.instanceMethod yX5_fewestToTurn ∈ wsL_law := wdm_24 _ (List.mem_of_getElem? (i := 12) rfl)
theorem wd_24_13 : Cond.selects RX5 yX5_fewestToTurn yX5_fewestToTurn ∈ wsL_law := wdm_24 _ (List.mem_of_getElem? (i := 13) rfl)
theorem wd_24_14 : Cond.code yX5_fewestToTurn cX5_fewestToTurn 4 (some .int) ∈ wsL_law := wdm_24 _ (List.mem_of_getElem? (i := 14) rfl)
theorem wd_24_15 : Cond.methodLink RL 88 yX6_turn ∈ wsL_law := wdm_24 _ (List.mem_of_getElem? (i := 15) rfl)
theorem wd_24_16 : Cond.instanceMethod yX6_turn ∈ wsL_law := wdm_24 _ (List.mem_of_getElem? (i := 16) rfl)
theorem wd_24_17 : Cond.selects RX6 yX6_turn yX6_turn ∈ wsL_law := wdm_24 _ (List.mem_of_getElem? (i := 17) rfl)
theorem wd_24_18 : Cond.code yX6_turn cX6_turn 5 (some .int) ∈ wsL_law := wdm_24 _ (List.mem_of_getElem? (i := 18) rfl)
theorem wd_24_19 : Cond.methodLink RL 89 yX5_drift ∈ wsL_law := wdm_24 _ (List.mem_of_getElem? (i := 19) rfl)
theorem wd_24_20 : Cond.instanceMethod yX5_drift ∈ wsL_law := wdm_24 _ (List.mem_of_getElem? (i := 20) rfl)
theorem wd_24_21 : Cond.selects RX5 yX5_drift yX5_drift ∈ wsL_law := wdm_24 _ (List.mem_of_getElem? (i := 21) rfl)
theorem wd_24_22 : Cond.code yX5_drift cX5_drift 8 (some .int) ∈ wsL_law := wdm_24 _ (List.mem_of_getElem? (i := 22) rfl)
theorem wd_24_23 : Cond.methodLink RX5 206 yX5_driftOf ∈ wsL_law := wdm_24 _ (List.mem_of_getElem? (i := 23) rfl)
theorem wdm_25 : ∀ w ∈ wsL_law_r25, w ∈ wsL_law := fun _ h => List.mem_append_left _ (List.mem_append_left _ (List.mem_append_left _ (List.mem_append_left _ (List.mem_append_left _ (List.mem_append_left _ (List.mem_append_left _ (List.mem_append_left _ (List.mem_append_right _ (List.mem_append_right _ (List.mem_append_right _ (List.mem_append_right _ (List.mem_append_right _ (List.mem_append_right _ (List.mem_append_right _ (List.mem_append_right _ (List.mem_append_right _ (List.mem_append_right _ (List.mem_append_right _ (List.mem_append_right _ (List.mem_append_right _ (List.mem_append_right _ (List.mem_append_right _ (List.mem_append_right _ (List.mem_append_right _ (List.mem_append_right _ (List.mem_append_right _ (List.mem_append_right _ (List.mem_append_right _ (List.mem_append_right _ (List.mem_append_right _ (List.mem_append_right _ (List.mem_append_left _ (h)))))))))))))))))))))))))))))))))
theorem wd_25_0 : Cond.instanceMethod yX5_driftOf ∈ wsL_law := wdm_25 _ (List.mem_of_getElem? (i := 0) rfl)
theorem wd_25_1 : Cond.selects RX5 yX5_driftOf yX5_driftOf ∈ wsL_law := wdm_25 _ (List.mem_of_getElem? (i := 1) rfl)
theorem wd_25_2 : Cond.code yX5_driftOf cX5_driftOf 7 (some .int) ∈ wsL_law := wdm_25 _ (List.mem_of_getElem? (i := 2) rfl)
theorem wd_25_3 : Cond.methodLink RX5 213 yX4_driftIn ∈ wsL_law := wdm_25 _ (List.mem_of_getElem? (i := 3) rfl)
theorem wd_25_4 : Cond.instanceMethod yX4_driftIn ∈ wsL_law := wdm_25 _ (List.mem_of_getElem? (i := 4) rfl)
theorem wd_25_5 : Cond.selects RX4 yX4_driftIn yX4_driftIn ∈ wsL_law := wdm_25 _ (List.mem_of_getElem? (i := 5) rfl)
theorem wd_25_6 : Cond.code yX4_driftIn cX4_driftIn 5 (some .int) ∈ wsL_law := wdm_25 _ (List.mem_of_getElem? (i := 6) rfl)
theorem wd_25_7 : Cond.methodLink RX5 210 yX5_originsOf ∈ wsL_law := wdm_25 _ (List.mem_of_getElem? (i := 7) rfl)
theorem wd_25_8 : Cond.instanceMethod yX5_originsOf ∈ wsL_law := wdm_25 _ (List.mem_of_getElem? (i := 8) rfl)
theorem wd_25_9 : Cond.selects RX5 yX5_originsOf yX5_originsOf ∈ wsL_law := wdm_25 _ (List.mem_of_getElem? (i := 9) rfl)
theorem wd_25_10 : Cond.code yX5_originsOf cX5_originsOf 7 (some .int) ∈ wsL_law := wdm_25 _ (List.mem_of_getElem? (i := 10) rfl)
theorem wd_25_11 : Cond.methodLink RL 93 yX6_drift ∈ wsL_law := wdm_25 _ (List.mem_of_getElem? (i := 11) rfl)
theorem wd_25_12 : Cond.instanceMethod yX6_drift ∈ wsL_law := wdm_25 _ (List.mem_of_getElem? (i := 12) rfl)
theorem wd_25_13 : Cond.selects RX6 yX6_drift yX6_drift ∈ wsL_law := wdm_25 _ (List.mem_of_getElem? (i := 13) rfl)
theorem wd_25_14 : Cond.code yX6_drift cX6_drift 11 (some .int) ∈ wsL_law := wdm_25 _ (List.mem_of_getElem? (i := 14) rfl)
theorem wd_25_15 : Cond.methodLink RX6 195 yX6_driftOf ∈ wsL_law := wdm_25 _ (List.mem_of_getElem? (i := 15) rfl)
theorem wd_25_16 : Cond.instanceMethod yX6_driftOf ∈ wsL_law := wdm_25 _ (List.mem_of_getElem? (i := 16) rfl)
theorem wd_25_17 : Cond.selects RX6 yX6_driftOf yX6_driftOf ∈ wsL_law := wdm_25 _ (List.mem_of_getElem? (i := 17) rfl)
theorem wd_25_18 : Cond.code yX6_driftOf cX6_driftOf 9 (some .int) ∈ wsL_law := wdm_25 _ (List.mem_of_getElem? (i := 18) rfl)
theorem wd_25_19 : Cond.methodLink RL 94 yX5_leaps ∈ wsL_law := wdm_25 _ (List.mem_of_getElem? (i := 19) rfl)
theorem wd_25_20 : Cond.instanceMethod yX5_leaps ∈ wsL_law := wdm_25 _ (List.mem_of_getElem? (i := 20) rfl)
theorem wd_25_21 : Cond.selects RX5 yX5_leaps yX5_leaps ∈ wsL_law := wdm_25 _ (List.mem_of_getElem? (i := 21) rfl)
theorem wd_25_22 : Cond.code yX5_leaps cX5_leaps 4 (some .int) ∈ wsL_law := wdm_25 _ (List.mem_of_getElem? (i := 22) rfl)
theorem wd_25_23 : Cond.fieldLink RX5 223 "TideSeats$Route" "length" "I" ∈ wsL_law := wdm_25 _ (List.mem_of_getElem? (i := 23) rfl)
theorem wdm_26 : ∀ w ∈ wsL_law_r26, w ∈ wsL_law := fun _ h => List.mem_append_left _ (List.mem_append_left _ (List.mem_append_left _ (List.mem_append_left _ (List.mem_append_left _ (List.mem_append_left _ (List.mem_append_left _ (List.mem_append_left _ (List.mem_append_right _ (List.mem_append_right _ (List.mem_append_right _ (List.mem_append_right _ (List.mem_append_right _ (List.mem_append_right _ (List.mem_append_right _ (List.mem_append_right _ (List.mem_append_right _ (List.mem_append_right _ (List.mem_append_right _ (List.mem_append_right _ (List.mem_append_right _ (List.mem_append_right _ (List.mem_append_right _ (List.mem_append_right _ (List.mem_append_right _ (List.mem_append_right _ (List.mem_append_right _ (List.mem_append_right _ (List.mem_append_right _ (List.mem_append_right _ (List.mem_append_right _ (List.mem_append_right _ (List.mem_append_right _ (List.mem_append_left _ (h))))))))))))))))))))))))))))))))))
theorem wd_26_0 : Cond.methodLink RX5 216 yX5_layLeaps ∈ wsL_law := wdm_26 _ (List.mem_of_getElem? (i := 0) rfl)
theorem wd_26_1 : Cond.instanceMethod yX5_layLeaps ∈ wsL_law := wdm_26 _ (List.mem_of_getElem? (i := 1) rfl)
theorem wd_26_2 : Cond.selects RX5 yX5_layLeaps yX5_layLeaps ∈ wsL_law := wdm_26 _ (List.mem_of_getElem? (i := 2) rfl)
theorem wd_26_3 : Cond.code yX5_layLeaps cX5_layLeaps 3 none ∈ wsL_law := wdm_26 _ (List.mem_of_getElem? (i := 3) rfl)
theorem wd_26_4 : Cond.methodLink RX5 229 yX2_begin ∈ wsL_law := wdm_26 _ (List.mem_of_getElem? (i := 4) rfl)
theorem wd_26_5 : Cond.instanceMethod yX2_begin ∈ wsL_law := wdm_26 _ (List.mem_of_getElem? (i := 5) rfl)
theorem wd_26_6 : Cond.selects RX2 yX2_begin yX2_begin ∈ wsL_law := wdm_26 _ (List.mem_of_getElem? (i := 6) rfl)
theorem wd_26_7 : Cond.code yX2_begin cX2_begin 3 none ∈ wsL_law := wdm_26 _ (List.mem_of_getElem? (i := 7) rfl)
theorem wd_26_8 : Cond.fieldLink RX2 23 "TideSeats$Route" "pools" "I" ∈ wsL_law := wdm_26 _ (List.mem_of_getElem? (i := 8) rfl)
theorem wd_26_9 : Cond.fieldLink RX2 27 "TideSeats$Route" "moves" "I" ∈ wsL_law := wdm_26 _ (List.mem_of_getElem? (i := 9) rfl)
theorem wd_26_10 : Cond.methodLink RX5 231 yX4_isInReach ∈ wsL_law := wdm_26 _ (List.mem_of_getElem? (i := 10) rfl)
theorem wd_26_11 : Cond.instanceMethod yX4_isInReach ∈ wsL_law := wdm_26 _ (List.mem_of_getElem? (i := 11) rfl)
theorem wd_26_12 : Cond.selects RX4 yX4_isInReach yX4_isInReach ∈ wsL_law := wdm_26 _ (List.mem_of_getElem? (i := 12) rfl)
theorem wd_26_13 : Cond.code yX4_isInReach cX4_isInReach 3 (some .boolean) ∈ wsL_law := wdm_26 _ (List.mem_of_getElem? (i := 13) rfl)
theorem wd_26_14 : Cond.methodLink RX5 235 yX2_lay ∈ wsL_law := wdm_26 _ (List.mem_of_getElem? (i := 14) rfl)
theorem wd_26_15 : Cond.instanceMethod yX2_lay ∈ wsL_law := wdm_26 _ (List.mem_of_getElem? (i := 15) rfl)
theorem wd_26_16 : Cond.selects RX2 yX2_lay yX2_lay ∈ wsL_law := wdm_26 _ (List.mem_of_getElem? (i := 16) rfl)
theorem wd_26_17 : Cond.code yX2_lay cX2_lay 4 none ∈ wsL_law := wdm_26 _ (List.mem_of_getElem? (i := 17) rfl)
theorem wd_26_18 : Cond.methodLink RX5 219 yX2_find ∈ wsL_law := wdm_26 _ (List.mem_of_getElem? (i := 18) rfl)
theorem wd_26_19 : Cond.instanceMethod yX2_find ∈ wsL_law := wdm_26 _ (List.mem_of_getElem? (i := 19) rfl)
theorem wd_26_20 : Cond.selects RX2 yX2_find yX2_find ∈ wsL_law := wdm_26 _ (List.mem_of_getElem? (i := 20) rfl)
theorem wd_26_21 : Cond.code yX2_find cX2_find 6 none ∈ wsL_law := wdm_26 _ (List.mem_of_getElem? (i := 21) rfl)
theorem wd_26_22 : Cond.fieldLink RX2 34 "TideSeats$Route" "length" "I" ∈ wsL_law := wdm_26 _ (List.mem_of_getElem? (i := 22) rfl)
theorem wd_26_23 : Cond.methodLink RX2 30 yX2_measure ∈ wsL_law := wdm_26 _ (List.mem_of_getElem? (i := 23) rfl)
theorem wdm_27 : ∀ w ∈ wsL_law_r27, w ∈ wsL_law := fun _ h => List.mem_append_left _ (List.mem_append_left _ (List.mem_append_left _ (List.mem_append_left _ (List.mem_append_left _ (List.mem_append_left _ (List.mem_append_left _ (List.mem_append_left _ (List.mem_append_right _ (List.mem_append_right _ (List.mem_append_right _ (List.mem_append_right _ (List.mem_append_right _ (List.mem_append_right _ (List.mem_append_right _ (List.mem_append_right _ (List.mem_append_right _ (List.mem_append_right _ (List.mem_append_right _ (List.mem_append_right _ (List.mem_append_right _ (List.mem_append_right _ (List.mem_append_right _ (List.mem_append_right _ (List.mem_append_right _ (List.mem_append_right _ (List.mem_append_right _ (List.mem_append_right _ (List.mem_append_right _ (List.mem_append_right _ (List.mem_append_right _ (List.mem_append_right _ (List.mem_append_right _ (List.mem_append_right _ (List.mem_append_left _ (h)))))))))))))))))))))))))))))))))))
theorem wd_27_0 : Cond.instanceMethod yX2_measure ∈ wsL_law := wdm_27 _ (List.mem_of_getElem? (i := 0) rfl)
theorem wd_27_1 : Cond.selects RX2 yX2_measure yX2_measure ∈ wsL_law := wdm_27 _ (List.mem_of_getElem? (i := 1) rfl)
theorem wd_27_2 : Cond.code yX2_measure cX2_measure 4 none ∈ wsL_law := wdm_27 _ (List.mem_of_getElem? (i := 2) rfl)
theorem wd_27_3 : Cond.methodLink RX2 37 yX2_moveTo ∈ wsL_law := wdm_27 _ (List.mem_of_getElem? (i := 3) rfl)
theorem wd_27_4 : Cond.instanceMethod yX2_moveTo ∈ wsL_law := wdm_27 _ (List.mem_of_getElem? (i := 4) rfl)
theorem wd_27_5 : Cond.selects RX2 yX2_moveTo yX2_moveTo ∈ wsL_law := wdm_27 _ (List.mem_of_getElem? (i := 5) rfl)
theorem wd_27_6 : Cond.code yX2_moveTo cX2_moveTo 4 (some .int) ∈ wsL_law := wdm_27 _ (List.mem_of_getElem? (i := 6) rfl)
theorem wd_27_7 : Cond.methodLink RX5 226 yX2_moveAt ∈ wsL_law := wdm_27 _ (List.mem_of_getElem? (i := 7) rfl)
theorem wd_27_8 : Cond.instanceMethod yX2_moveAt ∈ wsL_law := wdm_27 _ (List.mem_of_getElem? (i := 8) rfl)
theorem wd_27_9 : Cond.selects RX2 yX2_moveAt yX2_moveAt ∈ wsL_law := wdm_27 _ (List.mem_of_getElem? (i := 9) rfl)
theorem wd_27_10 : Cond.code yX2_moveAt cX2_moveAt 2 (some .int) ∈ wsL_law := wdm_27 _ (List.mem_of_getElem? (i := 10) rfl)
theorem wd_27_11 : Cond.methodLink RL 98 yX6_leaps ∈ wsL_law := wdm_27 _ (List.mem_of_getElem? (i := 11) rfl)
theorem wd_27_12 : Cond.instanceMethod yX6_leaps ∈ wsL_law := wdm_27 _ (List.mem_of_getElem? (i := 12) rfl)
theorem wd_27_13 : Cond.selects RX6 yX6_leaps yX6_leaps ∈ wsL_law := wdm_27 _ (List.mem_of_getElem? (i := 13) rfl)
theorem wd_27_14 : Cond.code yX6_leaps cX6_leaps 6 (some .int) ∈ wsL_law := wdm_27 _ (List.mem_of_getElem? (i := 14) rfl)
theorem wd_27_15 : Cond.methodLink RX6 201 yX6_findLeaps ∈ wsL_law := wdm_27 _ (List.mem_of_getElem? (i := 15) rfl)
theorem wd_27_16 : Cond.instanceMethod yX6_findLeaps ∈ wsL_law := wdm_27 _ (List.mem_of_getElem? (i := 16) rfl)
theorem wd_27_17 : Cond.selects RX6 yX6_findLeaps yX6_findLeaps ∈ wsL_law := wdm_27 _ (List.mem_of_getElem? (i := 17) rfl)
theorem wd_27_18 : Cond.code yX6_findLeaps cX6_findLeaps 5 none ∈ wsL_law := wdm_27 _ (List.mem_of_getElem? (i := 18) rfl)
theorem wd_27_19 : Cond.methodLink RX6 198 yX6_isLeap ∈ wsL_law := wdm_27 _ (List.mem_of_getElem? (i := 19) rfl)
theorem wd_27_20 : Cond.instanceMethod yX6_isLeap ∈ wsL_law := wdm_27 _ (List.mem_of_getElem? (i := 20) rfl)
theorem wd_27_21 : Cond.selects RX6 yX6_isLeap yX6_isLeap ∈ wsL_law := wdm_27 _ (List.mem_of_getElem? (i := 21) rfl)
theorem wd_27_22 : Cond.code yX6_isLeap cX6_isLeap 4 (some .boolean) ∈ wsL_law := wdm_27 _ (List.mem_of_getElem? (i := 22) rfl)
theorem wd_27_23 : Cond.methodLink RX6 205 yX6_nextLeap ∈ wsL_law := wdm_27 _ (List.mem_of_getElem? (i := 23) rfl)
theorem wdm_28 : ∀ w ∈ wsL_law_r28, w ∈ wsL_law := fun _ h => List.mem_append_left _ (List.mem_append_left _ (List.mem_append_left _ (List.mem_append_left _ (List.mem_append_left _ (List.mem_append_left _ (List.mem_append_left _ (List.mem_append_left _ (List.mem_append_right _ (List.mem_append_right _ (List.mem_append_right _ (List.mem_append_right _ (List.mem_append_right _ (List.mem_append_right _ (List.mem_append_right _ (List.mem_append_right _ (List.mem_append_right _ (List.mem_append_right _ (List.mem_append_right _ (List.mem_append_right _ (List.mem_append_right _ (List.mem_append_right _ (List.mem_append_right _ (List.mem_append_right _ (List.mem_append_right _ (List.mem_append_right _ (List.mem_append_right _ (List.mem_append_right _ (List.mem_append_right _ (List.mem_append_right _ (List.mem_append_right _ (List.mem_append_right _ (List.mem_append_right _ (List.mem_append_right _ (List.mem_append_right _ (List.mem_append_left _ (h))))))))))))))))))))))))))))))))))))
theorem wd_28_0 : Cond.instanceMethod yX6_nextLeap ∈ wsL_law := wdm_28 _ (List.mem_of_getElem? (i := 0) rfl)
theorem wd_28_1 : Cond.selects RX6 yX6_nextLeap yX6_nextLeap ∈ wsL_law := wdm_28 _ (List.mem_of_getElem? (i := 1) rfl)
theorem wd_28_2 : Cond.code yX6_nextLeap cX6_nextLeap 3 (some .int) ∈ wsL_law := wdm_28 _ (List.mem_of_getElem? (i := 2) rfl)
theorem wd_28_3 : Cond.methodLink RL 99 yX5_elect ∈ wsL_law := wdm_28 _ (List.mem_of_getElem? (i := 3) rfl)
theorem wd_28_4 : Cond.instanceMethod yX5_elect ∈ wsL_law := wdm_28 _ (List.mem_of_getElem? (i := 4) rfl)
theorem wd_28_5 : Cond.selects RX5 yX5_elect yX5_elect ∈ wsL_law := wdm_28 _ (List.mem_of_getElem? (i := 5) rfl)
theorem wd_28_6 : Cond.code yX5_elect cX5_elect 4 (some .int) ∈ wsL_law := wdm_28 _ (List.mem_of_getElem? (i := 6) rfl)
theorem wd_28_7 : Cond.methodLink RX5 239 yX5_layTides ∈ wsL_law := wdm_28 _ (List.mem_of_getElem? (i := 7) rfl)
theorem wd_28_8 : Cond.instanceMethod yX5_layTides ∈ wsL_law := wdm_28 _ (List.mem_of_getElem? (i := 8) rfl)
theorem wd_28_9 : Cond.selects RX5 yX5_layTides yX5_layTides ∈ wsL_law := wdm_28 _ (List.mem_of_getElem? (i := 9) rfl)
theorem wd_28_10 : Cond.code yX5_layTides cX5_layTides 4 none ∈ wsL_law := wdm_28 _ (List.mem_of_getElem? (i := 10) rfl)
theorem wd_28_11 : Cond.methodLink RX5 243 yX4_poolBehind ∈ wsL_law := wdm_28 _ (List.mem_of_getElem? (i := 11) rfl)
theorem wd_28_12 : Cond.methodLink RL 102 yX6_elect ∈ wsL_law := wdm_28 _ (List.mem_of_getElem? (i := 12) rfl)
theorem wd_28_13 : Cond.instanceMethod yX6_elect ∈ wsL_law := wdm_28 _ (List.mem_of_getElem? (i := 13) rfl)
theorem wd_28_14 : Cond.selects RX6 yX6_elect yX6_elect ∈ wsL_law := wdm_28 _ (List.mem_of_getElem? (i := 14) rfl)
theorem wd_28_15 : Cond.code yX6_elect cX6_elect 8 (some .int) ∈ wsL_law := wdm_28 _ (List.mem_of_getElem? (i := 15) rfl)
theorem wd_28_16 : Cond.methodLink RX6 208 yX6_findTides ∈ wsL_law := wdm_28 _ (List.mem_of_getElem? (i := 16) rfl)
theorem wd_28_17 : Cond.instanceMethod yX6_findTides ∈ wsL_law := wdm_28 _ (List.mem_of_getElem? (i := 17) rfl)
theorem wd_28_18 : Cond.selects RX6 yX6_findTides yX6_findTides ∈ wsL_law := wdm_28 _ (List.mem_of_getElem? (i := 18) rfl)
theorem wd_28_19 : Cond.code yX6_findTides cX6_findTides 6 none ∈ wsL_law := wdm_28 _ (List.mem_of_getElem? (i := 19) rfl)
theorem wd_28_20 : Cond.methodLink RX6 212 yX6_nextTide ∈ wsL_law := wdm_28 _ (List.mem_of_getElem? (i := 20) rfl)
theorem wd_28_21 : Cond.instanceMethod yX6_nextTide ∈ wsL_law := wdm_28 _ (List.mem_of_getElem? (i := 21) rfl)
theorem wd_28_22 : Cond.selects RX6 yX6_nextTide yX6_nextTide ∈ wsL_law := wdm_28 _ (List.mem_of_getElem? (i := 22) rfl)
theorem wd_28_23 : Cond.code yX6_nextTide cX6_nextTide 4 (some .int) ∈ wsL_law := wdm_28 _ (List.mem_of_getElem? (i := 23) rfl)
theorem wdm_29 : ∀ w ∈ wsL_law_r29, w ∈ wsL_law := fun _ h => List.mem_append_left _ (List.mem_append_left _ (List.mem_append_left _ (List.mem_append_left _ (List.mem_append_left _ (List.mem_append_left _ (List.mem_append_left _ (List.mem_append_left _ (List.mem_append_right _ (List.mem_append_right _ (List.mem_append_right _ (List.mem_append_right _ (List.mem_append_right _ (List.mem_append_right _ (List.mem_append_right _ (List.mem_append_right _ (List.mem_append_right _ (List.mem_append_right _ (List.mem_append_right _ (List.mem_append_right _ (List.mem_append_right _ (List.mem_append_right _ (List.mem_append_right _ (List.mem_append_right _ (List.mem_append_right _ (List.mem_append_right _ (List.mem_append_right _ (List.mem_append_right _ (List.mem_append_right _ (List.mem_append_right _ (List.mem_append_right _ (List.mem_append_right _ (List.mem_append_right _ (List.mem_append_right _ (List.mem_append_right _ (List.mem_append_right _ (List.mem_append_left _ (h)))))))))))))))))))))))))))))))))))))
theorem wd_29_0 : Cond.methodLink RL 103 yX5_reading ∈ wsL_law := wdm_29 _ (List.mem_of_getElem? (i := 0) rfl)
theorem wd_29_1 : Cond.instanceMethod yX5_reading ∈ wsL_law := wdm_29 _ (List.mem_of_getElem? (i := 1) rfl)
theorem wd_29_2 : Cond.selects RX5 yX5_reading yX5_reading ∈ wsL_law := wdm_29 _ (List.mem_of_getElem? (i := 2) rfl)
theorem wd_29_3 : Cond.code yX5_reading cX5_reading 4 (some .int) ∈ wsL_law := wdm_29 _ (List.mem_of_getElem? (i := 3) rfl)
theorem wd_29_4 : Cond.methodLink RX5 247 yX1_take ∈ wsL_law := wdm_29 _ (List.mem_of_getElem? (i := 4) rfl)
theorem wd_29_5 : Cond.instanceMethod yX1_take ∈ wsL_law := wdm_29 _ (List.mem_of_getElem? (i := 5) rfl)
theorem wd_29_6 : Cond.selects RX1 yX1_take yX1_take ∈ wsL_law := wdm_29 _ (List.mem_of_getElem? (i := 6) rfl)
theorem wd_29_7 : Cond.code yX1_take cX1_take 4 (some .int) ∈ wsL_law := wdm_29 _ (List.mem_of_getElem? (i := 7) rfl)
theorem wd_29_8 : Cond.fieldLink RX1 21 "TideSeats$Readings" "count" "I" ∈ wsL_law := wdm_29 _ (List.mem_of_getElem? (i := 8) rfl)
theorem wd_29_9 : Cond.methodLink RL 106 yX6_reading ∈ wsL_law := wdm_29 _ (List.mem_of_getElem? (i := 9) rfl)
theorem wd_29_10 : Cond.instanceMethod yX6_reading ∈ wsL_law := wdm_29 _ (List.mem_of_getElem? (i := 10) rfl)
theorem wd_29_11 : Cond.selects RX6 yX6_reading yX6_reading ∈ wsL_law := wdm_29 _ (List.mem_of_getElem? (i := 11) rfl)
theorem wd_29_12 : Cond.code yX6_reading cX6_reading 4 (some .int) ∈ wsL_law := wdm_29 _ (List.mem_of_getElem? (i := 12) rfl)
theorem wd_29_13 : Cond.methodLink RL 107 yX5_back ∈ wsL_law := wdm_29 _ (List.mem_of_getElem? (i := 13) rfl)
theorem wd_29_14 : Cond.instanceMethod yX5_back ∈ wsL_law := wdm_29 _ (List.mem_of_getElem? (i := 14) rfl)
theorem wd_29_15 : Cond.selects RX5 yX5_back yX5_back ∈ wsL_law := wdm_29 _ (List.mem_of_getElem? (i := 15) rfl)
theorem wd_29_16 : Cond.code yX5_back cX5_back 2 (some .int) ∈ wsL_law := wdm_29 _ (List.mem_of_getElem? (i := 16) rfl)
theorem wd_29_17 : Cond.methodLink RL 110 yX6_back ∈ wsL_law := wdm_29 _ (List.mem_of_getElem? (i := 17) rfl)
theorem wd_29_18 : Cond.instanceMethod yX6_back ∈ wsL_law := wdm_29 _ (List.mem_of_getElem? (i := 18) rfl)
theorem wd_29_19 : Cond.selects RX6 yX6_back yX6_back ∈ wsL_law := wdm_29 _ (List.mem_of_getElem? (i := 19) rfl)
theorem wd_29_20 : Cond.code yX6_back cX6_back 2 (some .int) ∈ wsL_law := wdm_29 _ (List.mem_of_getElem? (i := 20) rfl)
theorem wd_29_21 : Cond.methodLink RL 111 yX5_heights ∈ wsL_law := wdm_29 _ (List.mem_of_getElem? (i := 21) rfl)
theorem wd_29_22 : Cond.instanceMethod yX5_heights ∈ wsL_law := wdm_29 _ (List.mem_of_getElem? (i := 22) rfl)
theorem wd_29_23 : Cond.selects RX5 yX5_heights yX5_heights ∈ wsL_law := wdm_29 _ (List.mem_of_getElem? (i := 23) rfl)
theorem wdm_30 : ∀ w ∈ wsL_law_r30, w ∈ wsL_law := fun _ h => List.mem_append_left _ (List.mem_append_left _ (List.mem_append_left _ (List.mem_append_left _ (List.mem_append_left _ (List.mem_append_left _ (List.mem_append_left _ (List.mem_append_left _ (List.mem_append_right _ (List.mem_append_right _ (List.mem_append_right _ (List.mem_append_right _ (List.mem_append_right _ (List.mem_append_right _ (List.mem_append_right _ (List.mem_append_right _ (List.mem_append_right _ (List.mem_append_right _ (List.mem_append_right _ (List.mem_append_right _ (List.mem_append_right _ (List.mem_append_right _ (List.mem_append_right _ (List.mem_append_right _ (List.mem_append_right _ (List.mem_append_right _ (List.mem_append_right _ (List.mem_append_right _ (List.mem_append_right _ (List.mem_append_right _ (List.mem_append_right _ (List.mem_append_right _ (List.mem_append_right _ (List.mem_append_right _ (List.mem_append_right _ (List.mem_append_right _ (List.mem_append_right _ (List.mem_append_left _ (h))))))))))))))))))))))))))))))))))))))
theorem wd_30_0 : Cond.code yX5_heights cX5_heights 4 (some .int) ∈ wsL_law := wdm_30 _ (List.mem_of_getElem? (i := 0) rfl)
theorem wd_30_1 : Cond.methodLink RX5 250 yX1_areSoIn ∈ wsL_law := wdm_30 _ (List.mem_of_getElem? (i := 1) rfl)
theorem wd_30_2 : Cond.instanceMethod yX1_areSoIn ∈ wsL_law := wdm_30 _ (List.mem_of_getElem? (i := 2) rfl)
theorem wd_30_3 : Cond.selects RX1 yX1_areSoIn yX1_areSoIn ∈ wsL_law := wdm_30 _ (List.mem_of_getElem? (i := 3) rfl)
theorem wd_30_4 : Cond.code yX1_areSoIn cX1_areSoIn 3 (some .boolean) ∈ wsL_law := wdm_30 _ (List.mem_of_getElem? (i := 4) rfl)
theorem wd_30_5 : Cond.methodLink RX1 25 yX4_seatBehind ∈ wsL_law := wdm_30 _ (List.mem_of_getElem? (i := 5) rfl)
theorem wd_30_6 : Cond.methodLink RL 114 yX6_heights ∈ wsL_law := wdm_30 _ (List.mem_of_getElem? (i := 6) rfl)
theorem wd_30_7 : Cond.instanceMethod yX6_heights ∈ wsL_law := wdm_30 _ (List.mem_of_getElem? (i := 7) rfl)
theorem wd_30_8 : Cond.selects RX6 yX6_heights yX6_heights ∈ wsL_law := wdm_30 _ (List.mem_of_getElem? (i := 8) rfl)
theorem wd_30_9 : Cond.code yX6_heights cX6_heights 5 (some .int) ∈ wsL_law := wdm_30 _ (List.mem_of_getElem? (i := 9) rfl)
theorem wd_30_10 : Cond.methodLink RX6 215 yX6_areSo ∈ wsL_law := wdm_30 _ (List.mem_of_getElem? (i := 10) rfl)
theorem wd_30_11 : Cond.instanceMethod yX6_areSo ∈ wsL_law := wdm_30 _ (List.mem_of_getElem? (i := 11) rfl)
theorem wd_30_12 : Cond.selects RX6 yX6_areSo yX6_areSo ∈ wsL_law := wdm_30 _ (List.mem_of_getElem? (i := 12) rfl)
theorem wd_30_13 : Cond.code yX6_areSo cX6_areSo 3 (some .boolean) ∈ wsL_law := wdm_30 _ (List.mem_of_getElem? (i := 13) rfl)
theorem wd_30_14 : Cond.methodLink RL 115 yX5_kinds ∈ wsL_law := wdm_30 _ (List.mem_of_getElem? (i := 14) rfl)
theorem wd_30_15 : Cond.instanceMethod yX5_kinds ∈ wsL_law := wdm_30 _ (List.mem_of_getElem? (i := 15) rfl)
theorem wd_30_16 : Cond.selects RX5 yX5_kinds yX5_kinds ∈ wsL_law := wdm_30 _ (List.mem_of_getElem? (i := 16) rfl)
theorem wd_30_17 : Cond.code yX5_kinds cX5_kinds 4 (some .int) ∈ wsL_law := wdm_30 _ (List.mem_of_getElem? (i := 17) rfl)
theorem wd_30_18 : Cond.methodLink RL 118 yX6_kinds ∈ wsL_law := wdm_30 _ (List.mem_of_getElem? (i := 18) rfl)
theorem wd_30_19 : Cond.instanceMethod yX6_kinds ∈ wsL_law := wdm_30 _ (List.mem_of_getElem? (i := 19) rfl)
theorem wd_30_20 : Cond.selects RX6 yX6_kinds yX6_kinds ∈ wsL_law := wdm_30 _ (List.mem_of_getElem? (i := 20) rfl)
theorem wd_30_21 : Cond.code yX6_kinds cX6_kinds 5 (some .int) ∈ wsL_law := wdm_30 _ (List.mem_of_getElem? (i := 21) rfl)
theorem wd_30_22 : Cond.methodLink RL 119 yX5_streams ∈ wsL_law := wdm_30 _ (List.mem_of_getElem? (i := 22) rfl)
theorem wd_30_23 : Cond.instanceMethod yX5_streams ∈ wsL_law := wdm_30 _ (List.mem_of_getElem? (i := 23) rfl)
theorem wdm_31 : ∀ w ∈ wsL_law_r31, w ∈ wsL_law := fun _ h => List.mem_append_left _ (List.mem_append_left _ (List.mem_append_left _ (List.mem_append_left _ (List.mem_append_left _ (List.mem_append_left _ (List.mem_append_left _ (List.mem_append_left _ (List.mem_append_right _ (List.mem_append_right _ (List.mem_append_right _ (List.mem_append_right _ (List.mem_append_right _ (List.mem_append_right _ (List.mem_append_right _ (List.mem_append_right _ (List.mem_append_right _ (List.mem_append_right _ (List.mem_append_right _ (List.mem_append_right _ (List.mem_append_right _ (List.mem_append_right _ (List.mem_append_right _ (List.mem_append_right _ (List.mem_append_right _ (List.mem_append_right _ (List.mem_append_right _ (List.mem_append_right _ (List.mem_append_right _ (List.mem_append_right _ (List.mem_append_right _ (List.mem_append_right _ (List.mem_append_right _ (List.mem_append_right _ (List.mem_append_right _ (List.mem_append_right _ (List.mem_append_right _ (List.mem_append_right _ (List.mem_append_left _ (h)))))))))))))))))))))))))))))))))))))))
theorem wd_31_0 : Cond.selects RX5 yX5_streams yX5_streams ∈ wsL_law := wdm_31 _ (List.mem_of_getElem? (i := 0) rfl)
theorem wd_31_1 : Cond.code yX5_streams cX5_streams 3 (some .int) ∈ wsL_law := wdm_31 _ (List.mem_of_getElem? (i := 1) rfl)
theorem wd_31_2 : Cond.methodLink RL 123 yX6_streams ∈ wsL_law := wdm_31 _ (List.mem_of_getElem? (i := 2) rfl)
theorem wd_31_3 : Cond.instanceMethod yX6_streams ∈ wsL_law := wdm_31 _ (List.mem_of_getElem? (i := 3) rfl)
theorem wd_31_4 : Cond.selects RX6 yX6_streams yX6_streams ∈ wsL_law := wdm_31 _ (List.mem_of_getElem? (i := 4) rfl)
theorem wd_31_5 : Cond.code yX6_streams cX6_streams 4 (some .int) ∈ wsL_law := wdm_31 _ (List.mem_of_getElem? (i := 5) rfl)
theorem wd_31_6 : Cond.methodLink RL 124 yX5_odds ∈ wsL_law := wdm_31 _ (List.mem_of_getElem? (i := 6) rfl)
theorem wd_31_7 : Cond.instanceMethod yX5_odds ∈ wsL_law := wdm_31 _ (List.mem_of_getElem? (i := 7) rfl)
theorem wd_31_8 : Cond.selects RX5 yX5_odds yX5_odds ∈ wsL_law := wdm_31 _ (List.mem_of_getElem? (i := 8) rfl)
theorem wd_31_9 : Cond.code yX5_odds cX5_odds 7 (some .long) ∈ wsL_law := wdm_31 _ (List.mem_of_getElem? (i := 9) rfl)
theorem wd_31_10 : Cond.constantLong RX5 258 (-9223372036854775808) ∈ wsL_law := wdm_31 _ (List.mem_of_getElem? (i := 10) rfl)
theorem wd_31_11 : Cond.methodLink RX5 260 yX5_pairsOfTides ∈ wsL_law := wdm_31 _ (List.mem_of_getElem? (i := 11) rfl)
theorem wd_31_12 : Cond.instanceMethod yX5_pairsOfTides ∈ wsL_law := wdm_31 _ (List.mem_of_getElem? (i := 12) rfl)
theorem wd_31_13 : Cond.selects RX5 yX5_pairsOfTides yX5_pairsOfTides ∈ wsL_law := wdm_31 _ (List.mem_of_getElem? (i := 13) rfl)
theorem wd_31_14 : Cond.code yX5_pairsOfTides cX5_pairsOfTides 8 (some .int) ∈ wsL_law := wdm_31 _ (List.mem_of_getElem? (i := 14) rfl)
theorem wd_31_15 : Cond.methodLink RX5 263 yX5_commonDivisor ∈ wsL_law := wdm_31 _ (List.mem_of_getElem? (i := 15) rfl)
theorem wd_31_16 : Cond.static yX5_commonDivisor ∈ wsL_law := wdm_31 _ (List.mem_of_getElem? (i := 16) rfl)
theorem wd_31_17 : Cond.code yX5_commonDivisor cX5_commonDivisor 3 (some .int) ∈ wsL_law := wdm_31 _ (List.mem_of_getElem? (i := 17) rfl)
theorem wd_31_18 : Cond.methodLink RL 128 yX6_odds ∈ wsL_law := wdm_31 _ (List.mem_of_getElem? (i := 18) rfl)
theorem wd_31_19 : Cond.instanceMethod yX6_odds ∈ wsL_law := wdm_31 _ (List.mem_of_getElem? (i := 19) rfl)
theorem wd_31_20 : Cond.selects RX6 yX6_odds yX6_odds ∈ wsL_law := wdm_31 _ (List.mem_of_getElem? (i := 20) rfl)
theorem wd_31_21 : Cond.code yX6_odds cX6_odds 8 (some .long) ∈ wsL_law := wdm_31 _ (List.mem_of_getElem? (i := 21) rfl)
theorem wd_31_22 : Cond.constantLong RX6 68 (-9223372036854775808) ∈ wsL_law := wdm_31 _ (List.mem_of_getElem? (i := 22) rfl)
theorem wd_31_23 : Cond.constantLong RX6 219 (100) ∈ wsL_law := wdm_31 _ (List.mem_of_getElem? (i := 23) rfl)
theorem wdm_32 : ∀ w ∈ wsL_law_r32, w ∈ wsL_law := fun _ h => List.mem_append_left _ (List.mem_append_left _ (List.mem_append_left _ (List.mem_append_left _ (List.mem_append_left _ (List.mem_append_left _ (List.mem_append_left _ (List.mem_append_left _ (List.mem_append_right _ (List.mem_append_right _ (List.mem_append_right _ (List.mem_append_right _ (List.mem_append_right _ (List.mem_append_right _ (List.mem_append_right _ (List.mem_append_right _ (List.mem_append_right _ (List.mem_append_right _ (List.mem_append_right _ (List.mem_append_right _ (List.mem_append_right _ (List.mem_append_right _ (List.mem_append_right _ (List.mem_append_right _ (List.mem_append_right _ (List.mem_append_right _ (List.mem_append_right _ (List.mem_append_right _ (List.mem_append_right _ (List.mem_append_right _ (List.mem_append_right _ (List.mem_append_right _ (List.mem_append_right _ (List.mem_append_right _ (List.mem_append_right _ (List.mem_append_right _ (List.mem_append_right _ (List.mem_append_right _ (List.mem_append_right _ (List.mem_append_left _ (h))))))))))))))))))))))))))))))))))))))))
theorem wd_32_0 : Cond.methodLink RX6 221 yX6_inLeastTerms ∈ wsL_law := wdm_32 _ (List.mem_of_getElem? (i := 0) rfl)
theorem wd_32_1 : Cond.static yX6_inLeastTerms ∈ wsL_law := wdm_32 _ (List.mem_of_getElem? (i := 1) rfl)
theorem wd_32_2 : Cond.code yX6_inLeastTerms cX6_inLeastTerms 11 (some .long) ∈ wsL_law := wdm_32 _ (List.mem_of_getElem? (i := 2) rfl)
theorem wd_32_3 : Cond.methodLink RL 129 yX5_sheet ∈ wsL_law := wdm_32 _ (List.mem_of_getElem? (i := 3) rfl)
theorem wd_32_4 : Cond.instanceMethod yX5_sheet ∈ wsL_law := wdm_32 _ (List.mem_of_getElem? (i := 4) rfl)
theorem wd_32_5 : Cond.selects RX5 yX5_sheet yX5_sheet ∈ wsL_law := wdm_32 _ (List.mem_of_getElem? (i := 5) rfl)
theorem wd_32_6 : Cond.code yX5_sheet cX5_sheet 4 (some .int) ∈ wsL_law := wdm_32 _ (List.mem_of_getElem? (i := 6) rfl)
theorem wd_32_7 : Cond.methodLink RX5 266 yX3_renew ∈ wsL_law := wdm_32 _ (List.mem_of_getElem? (i := 7) rfl)
theorem wd_32_8 : Cond.instanceMethod yX3_renew ∈ wsL_law := wdm_32 _ (List.mem_of_getElem? (i := 8) rfl)
theorem wd_32_9 : Cond.selects RX3 yX3_renew yX3_renew ∈ wsL_law := wdm_32 _ (List.mem_of_getElem? (i := 9) rfl)
theorem wd_32_10 : Cond.code yX3_renew cX3_renew 4 none ∈ wsL_law := wdm_32 _ (List.mem_of_getElem? (i := 10) rfl)
theorem wd_32_11 : Cond.fieldLink RX3 15 "TideSeats$Sheet" "isThere" "Z" ∈ wsL_law := wdm_32 _ (List.mem_of_getElem? (i := 11) rfl)
theorem wd_32_12 : Cond.fieldLink RX3 19 "TideSeats$Sheet" "lane" "I" ∈ wsL_law := wdm_32 _ (List.mem_of_getElem? (i := 12) rfl)
theorem wd_32_13 : Cond.methodLink RL 132 yX6_sheet ∈ wsL_law := wdm_32 _ (List.mem_of_getElem? (i := 13) rfl)
theorem wd_32_14 : Cond.instanceMethod yX6_sheet ∈ wsL_law := wdm_32 _ (List.mem_of_getElem? (i := 14) rfl)
theorem wd_32_15 : Cond.selects RX6 yX6_sheet yX6_sheet ∈ wsL_law := wdm_32 _ (List.mem_of_getElem? (i := 15) rfl)
theorem wd_32_16 : Cond.code yX6_sheet cX6_sheet 5 (some .int) ∈ wsL_law := wdm_32 _ (List.mem_of_getElem? (i := 16) rfl)
theorem wd_32_17 : Cond.methodLink RL 133 yX5_lose ∈ wsL_law := wdm_32 _ (List.mem_of_getElem? (i := 17) rfl)
theorem wd_32_18 : Cond.instanceMethod yX5_lose ∈ wsL_law := wdm_32 _ (List.mem_of_getElem? (i := 18) rfl)
theorem wd_32_19 : Cond.selects RX5 yX5_lose yX5_lose ∈ wsL_law := wdm_32 _ (List.mem_of_getElem? (i := 19) rfl)
theorem wd_32_20 : Cond.code yX5_lose cX5_lose 3 (some .int) ∈ wsL_law := wdm_32 _ (List.mem_of_getElem? (i := 20) rfl)
theorem wd_32_21 : Cond.methodLink RL 136 yX6_lose ∈ wsL_law := wdm_32 _ (List.mem_of_getElem? (i := 21) rfl)
theorem wd_32_22 : Cond.instanceMethod yX6_lose ∈ wsL_law := wdm_32 _ (List.mem_of_getElem? (i := 22) rfl)
theorem wd_32_23 : Cond.selects RX6 yX6_lose yX6_lose ∈ wsL_law := wdm_32 _ (List.mem_of_getElem? (i := 23) rfl)
theorem wdm_33 : ∀ w ∈ wsL_law_r33, w ∈ wsL_law := fun _ h => List.mem_append_left _ (List.mem_append_left _ (List.mem_append_left _ (List.mem_append_left _ (List.mem_append_left _ (List.mem_append_left _ (List.mem_append_left _ (List.mem_append_left _ (List.mem_append_right _ (List.mem_append_right _ (List.mem_append_right _ (List.mem_append_right _ (List.mem_append_right _ (List.mem_append_right _ (List.mem_append_right _ (List.mem_append_right _ (List.mem_append_right _ (List.mem_append_right _ (List.mem_append_right _ (List.mem_append_right _ (List.mem_append_right _ (List.mem_append_right _ (List.mem_append_right _ (List.mem_append_right _ (List.mem_append_right _ (List.mem_append_right _ (List.mem_append_right _ (List.mem_append_right _ (List.mem_append_right _ (List.mem_append_right _ (List.mem_append_right _ (List.mem_append_right _ (List.mem_append_right _ (List.mem_append_right _ (List.mem_append_right _ (List.mem_append_right _ (List.mem_append_right _ (List.mem_append_right _ (List.mem_append_right _ (List.mem_append_right _ (List.mem_append_left _ (h)))))))))))))))))))))))))))))))))))))))))
theorem wd_33_0 : Cond.code yX6_lose cX6_lose 3 (some .int) ∈ wsL_law := wdm_33 _ (List.mem_of_getElem? (i := 0) rfl)
theorem wd_33_1 : Cond.methodLink RL 137 yX5_put ∈ wsL_law := wdm_33 _ (List.mem_of_getElem? (i := 1) rfl)
theorem wd_33_2 : Cond.instanceMethod yX5_put ∈ wsL_law := wdm_33 _ (List.mem_of_getElem? (i := 2) rfl)
theorem wd_33_3 : Cond.selects RX5 yX5_put yX5_put ∈ wsL_law := wdm_33 _ (List.mem_of_getElem? (i := 3) rfl)
theorem wd_33_4 : Cond.code yX5_put cX5_put 4 (some .int) ∈ wsL_law := wdm_33 _ (List.mem_of_getElem? (i := 4) rfl)
theorem wd_33_5 : Cond.methodLink RX5 276 yX3_cut ∈ wsL_law := wdm_33 _ (List.mem_of_getElem? (i := 5) rfl)
theorem wd_33_6 : Cond.instanceMethod yX3_cut ∈ wsL_law := wdm_33 _ (List.mem_of_getElem? (i := 6) rfl)
theorem wd_33_7 : Cond.selects RX3 yX3_cut yX3_cut ∈ wsL_law := wdm_33 _ (List.mem_of_getElem? (i := 7) rfl)
theorem wd_33_8 : Cond.code yX3_cut cX3_cut 2 (some .int) ∈ wsL_law := wdm_33 _ (List.mem_of_getElem? (i := 8) rfl)
theorem wd_33_9 : Cond.methodLink RL 140 yX6_put ∈ wsL_law := wdm_33 _ (List.mem_of_getElem? (i := 9) rfl)
theorem wd_33_10 : Cond.instanceMethod yX6_put ∈ wsL_law := wdm_33 _ (List.mem_of_getElem? (i := 10) rfl)
theorem wd_33_11 : Cond.selects RX6 yX6_put yX6_put ∈ wsL_law := wdm_33 _ (List.mem_of_getElem? (i := 11) rfl)
theorem wd_33_12 : Cond.code yX6_put cX6_put 4 (some .int) ∈ wsL_law := wdm_33 _ (List.mem_of_getElem? (i := 12) rfl)
theorem wd_33_13 : Cond.methodLink RL 141 yX5_cell ∈ wsL_law := wdm_33 _ (List.mem_of_getElem? (i := 13) rfl)
theorem wd_33_14 : Cond.instanceMethod yX5_cell ∈ wsL_law := wdm_33 _ (List.mem_of_getElem? (i := 14) rfl)
theorem wd_33_15 : Cond.selects RX5 yX5_cell yX5_cell ∈ wsL_law := wdm_33 _ (List.mem_of_getElem? (i := 15) rfl)
theorem wd_33_16 : Cond.code yX5_cell cX5_cell 5 (some .long) ∈ wsL_law := wdm_33 _ (List.mem_of_getElem? (i := 16) rfl)
theorem wd_33_17 : Cond.methodLink RL 144 yX6_cell ∈ wsL_law := wdm_33 _ (List.mem_of_getElem? (i := 17) rfl)
theorem wd_33_18 : Cond.instanceMethod yX6_cell ∈ wsL_law := wdm_33 _ (List.mem_of_getElem? (i := 18) rfl)
theorem wd_33_19 : Cond.selects RX6 yX6_cell yX6_cell ∈ wsL_law := wdm_33 _ (List.mem_of_getElem? (i := 19) rfl)
theorem wd_33_20 : Cond.code yX6_cell cX6_cell 4 (some .long) ∈ wsL_law := wdm_33 _ (List.mem_of_getElem? (i := 20) rfl)
theorem wd_33_21 : Cond.methodLink RX6 225 yX6_lost ∈ wsL_law := wdm_33 _ (List.mem_of_getElem? (i := 21) rfl)
theorem wd_33_22 : Cond.instanceMethod yX6_lost ∈ wsL_law := wdm_33 _ (List.mem_of_getElem? (i := 22) rfl)
theorem wd_33_23 : Cond.selects RX6 yX6_lost yX6_lost ∈ wsL_law := wdm_33 _ (List.mem_of_getElem? (i := 23) rfl)
theorem wdm_34 : ∀ w ∈ wsL_law_r34, w ∈ wsL_law := fun _ h => List.mem_append_left _ (List.mem_append_left _ (List.mem_append_left _ (List.mem_append_left _ (List.mem_append_left _ (List.mem_append_left _ (List.mem_append_left _ (List.mem_append_left _ (List.mem_append_right _ (List.mem_append_right _ (List.mem_append_right _ (List.mem_append_right _ (List.mem_append_right _ (List.mem_append_right _ (List.mem_append_right _ (List.mem_append_right _ (List.mem_append_right _ (List.mem_append_right _ (List.mem_append_right _ (List.mem_append_right _ (List.mem_append_right _ (List.mem_append_right _ (List.mem_append_right _ (List.mem_append_right _ (List.mem_append_right _ (List.mem_append_right _ (List.mem_append_right _ (List.mem_append_right _ (List.mem_append_right _ (List.mem_append_right _ (List.mem_append_right _ (List.mem_append_right _ (List.mem_append_right _ (List.mem_append_right _ (List.mem_append_right _ (List.mem_append_right _ (List.mem_append_right _ (List.mem_append_right _ (List.mem_append_right _ (List.mem_append_right _ (List.mem_append_right _ (List.mem_append_left _ (h))))))))))))))))))))))))))))))))))))))))))
theorem wd_34_0 : Cond.code yX6_lost cX6_lost 2 (some .long) ∈ wsL_law := wdm_34 _ (List.mem_of_getElem? (i := 0) rfl)
theorem wd_34_1 : Cond.methodLink RL 145 yX5_copy ∈ wsL_law := wdm_34 _ (List.mem_of_getElem? (i := 1) rfl)
theorem wd_34_2 : Cond.instanceMethod yX5_copy ∈ wsL_law := wdm_34 _ (List.mem_of_getElem? (i := 2) rfl)
theorem wd_34_3 : Cond.selects RX5 yX5_copy yX5_copy ∈ wsL_law := wdm_34 _ (List.mem_of_getElem? (i := 3) rfl)
theorem wd_34_4 : Cond.code yX5_copy cX5_copy 8 (some .int) ∈ wsL_law := wdm_34 _ (List.mem_of_getElem? (i := 4) rfl)
theorem wd_34_5 : Cond.methodLink RX5 282 arraycopyName ∈ wsL_law := wdm_34 _ (List.mem_of_getElem? (i := 5) rfl)
theorem wd_34_6 : Cond.native arraycopyName ∈ wsL_law := wdm_34 _ (List.mem_of_getElem? (i := 6) rfl)
theorem wd_34_7 : Cond.static arraycopyName ∈ wsL_law := wdm_34 _ (List.mem_of_getElem? (i := 7) rfl)
theorem wd_34_8 : Cond.initialized "java/lang/System" ∈ wsL_law := wdm_34 _ (List.mem_of_getElem? (i := 8) rfl)
theorem wd_34_9 : Cond.methodLink RL 148 yX6_copy ∈ wsL_law := wdm_34 _ (List.mem_of_getElem? (i := 9) rfl)
theorem wd_34_10 : Cond.instanceMethod yX6_copy ∈ wsL_law := wdm_34 _ (List.mem_of_getElem? (i := 10) rfl)
theorem wd_34_11 : Cond.selects RX6 yX6_copy yX6_copy ∈ wsL_law := wdm_34 _ (List.mem_of_getElem? (i := 11) rfl)
theorem wd_34_12 : Cond.code yX6_copy cX6_copy 10 (some .int) ∈ wsL_law := wdm_34 _ (List.mem_of_getElem? (i := 12) rfl)
theorem wd_34_13 : Cond.methodLink RL 149 yX5_tell ∈ wsL_law := wdm_34 _ (List.mem_of_getElem? (i := 13) rfl)
theorem wd_34_14 : Cond.instanceMethod yX5_tell ∈ wsL_law := wdm_34 _ (List.mem_of_getElem? (i := 14) rfl)
theorem wd_34_15 : Cond.selects RX5 yX5_tell yX5_tell ∈ wsL_law := wdm_34 _ (List.mem_of_getElem? (i := 15) rfl)
theorem wd_34_16 : Cond.code yX5_tell cX5_tell 2 (some .int) ∈ wsL_law := wdm_34 _ (List.mem_of_getElem? (i := 16) rfl)
theorem wd_34_17 : Cond.methodLink RX5 288 yX5_shrimpBody ∈ wsL_law := wdm_34 _ (List.mem_of_getElem? (i := 17) rfl)
theorem wd_34_18 : Cond.instanceMethod yX5_shrimpBody ∈ wsL_law := wdm_34 _ (List.mem_of_getElem? (i := 18) rfl)
theorem wd_34_19 : Cond.selects RX5 yX5_shrimpBody yX5_shrimpBody ∈ wsL_law := wdm_34 _ (List.mem_of_getElem? (i := 19) rfl)
theorem wd_34_20 : Cond.code yX5_shrimpBody cX5_shrimpBody 2 (some .int) ∈ wsL_law := wdm_34 _ (List.mem_of_getElem? (i := 20) rfl)
theorem wd_34_21 : Cond.methodLink RX5 297 yX5_leave ∈ wsL_law := wdm_34 _ (List.mem_of_getElem? (i := 21) rfl)
theorem wd_34_22 : Cond.instanceMethod yX5_leave ∈ wsL_law := wdm_34 _ (List.mem_of_getElem? (i := 22) rfl)
theorem wd_34_23 : Cond.selects RX5 yX5_leave yX5_leave ∈ wsL_law := wdm_34 _ (List.mem_of_getElem? (i := 23) rfl)
theorem wdm_35 : ∀ w ∈ wsL_law_r35, w ∈ wsL_law := fun _ h => List.mem_append_left _ (List.mem_append_left _ (List.mem_append_left _ (List.mem_append_left _ (List.mem_append_left _ (List.mem_append_left _ (List.mem_append_left _ (List.mem_append_left _ (List.mem_append_right _ (List.mem_append_right _ (List.mem_append_right _ (List.mem_append_right _ (List.mem_append_right _ (List.mem_append_right _ (List.mem_append_right _ (List.mem_append_right _ (List.mem_append_right _ (List.mem_append_right _ (List.mem_append_right _ (List.mem_append_right _ (List.mem_append_right _ (List.mem_append_right _ (List.mem_append_right _ (List.mem_append_right _ (List.mem_append_right _ (List.mem_append_right _ (List.mem_append_right _ (List.mem_append_right _ (List.mem_append_right _ (List.mem_append_right _ (List.mem_append_right _ (List.mem_append_right _ (List.mem_append_right _ (List.mem_append_right _ (List.mem_append_right _ (List.mem_append_right _ (List.mem_append_right _ (List.mem_append_right _ (List.mem_append_right _ (List.mem_append_right _ (List.mem_append_right _ (List.mem_append_right _ (List.mem_append_left _ (h)))))))))))))))))))))))))))))))))))))))))))
theorem wd_35_0 : Cond.code yX5_leave cX5_leave 2 none ∈ wsL_law := wdm_35 _ (List.mem_of_getElem? (i := 0) rfl)
theorem wd_35_1 : Cond.fieldLink RX5 300 "TideSeats" "traced" "I" ∈ wsL_law := wdm_35 _ (List.mem_of_getElem? (i := 1) rfl)
theorem wd_35_2 : Cond.methodLink RX5 291 yX5_crabBody ∈ wsL_law := wdm_35 _ (List.mem_of_getElem? (i := 2) rfl)
theorem wd_35_3 : Cond.instanceMethod yX5_crabBody ∈ wsL_law := wdm_35 _ (List.mem_of_getElem? (i := 3) rfl)
theorem wd_35_4 : Cond.selects RX5 yX5_crabBody yX5_crabBody ∈ wsL_law := wdm_35 _ (List.mem_of_getElem? (i := 4) rfl)
theorem wd_35_5 : Cond.code yX5_crabBody cX5_crabBody 2 (some .int) ∈ wsL_law := wdm_35 _ (List.mem_of_getElem? (i := 5) rfl)
theorem wd_35_6 : Cond.methodLink RX5 294 yX5_limpetBody ∈ wsL_law := wdm_35 _ (List.mem_of_getElem? (i := 6) rfl)
theorem wd_35_7 : Cond.instanceMethod yX5_limpetBody ∈ wsL_law := wdm_35 _ (List.mem_of_getElem? (i := 7) rfl)
theorem wd_35_8 : Cond.selects RX5 yX5_limpetBody yX5_limpetBody ∈ wsL_law := wdm_35 _ (List.mem_of_getElem? (i := 8) rfl)
theorem wd_35_9 : Cond.code yX5_limpetBody cX5_limpetBody 3 (some .int) ∈ wsL_law := wdm_35 _ (List.mem_of_getElem? (i := 9) rfl)
theorem wd_35_10 : Cond.methodLink RL 152 yX6_tell ∈ wsL_law := wdm_35 _ (List.mem_of_getElem? (i := 10) rfl)
theorem wd_35_11 : Cond.instanceMethod yX6_tell ∈ wsL_law := wdm_35 _ (List.mem_of_getElem? (i := 11) rfl)
theorem wd_35_12 : Cond.selects RX6 yX6_tell yX6_tell ∈ wsL_law := wdm_35 _ (List.mem_of_getElem? (i := 12) rfl)
theorem wd_35_13 : Cond.code yX6_tell cX6_tell 3 (some .int) ∈ wsL_law := wdm_35 _ (List.mem_of_getElem? (i := 13) rfl)
theorem wd_35_14 : Cond.methodLink RX6 232 yX6_begins ∈ wsL_law := wdm_35 _ (List.mem_of_getElem? (i := 14) rfl)
theorem wd_35_15 : Cond.instanceMethod yX6_begins ∈ wsL_law := wdm_35 _ (List.mem_of_getElem? (i := 15) rfl)
theorem wd_35_16 : Cond.selects RX6 yX6_begins yX6_begins ∈ wsL_law := wdm_35 _ (List.mem_of_getElem? (i := 16) rfl)
theorem wd_35_17 : Cond.code yX6_begins cX6_begins 2 none ∈ wsL_law := wdm_35 _ (List.mem_of_getElem? (i := 17) rfl)
theorem wd_35_18 : Cond.fieldLink RX6 229 "TideSeatsModel" "trace" "I" ∈ wsL_law := wdm_35 _ (List.mem_of_getElem? (i := 18) rfl)
theorem wd_35_19 : Cond.methodLink RL 153 yX5_name ∈ wsL_law := wdm_35 _ (List.mem_of_getElem? (i := 19) rfl)
theorem wd_35_20 : Cond.instanceMethod yX5_name ∈ wsL_law := wdm_35 _ (List.mem_of_getElem? (i := 20) rfl)
theorem wd_35_21 : Cond.selects RX5 yX5_name yX5_name ∈ wsL_law := wdm_35 _ (List.mem_of_getElem? (i := 21) rfl)
theorem wd_35_22 : Cond.code yX5_name cX5_name 3 (some .int) ∈ wsL_law := wdm_35 _ (List.mem_of_getElem? (i := 22) rfl)
theorem wd_35_23 : Cond.methodLink RL 156 yX6_name ∈ wsL_law := wdm_35 _ (List.mem_of_getElem? (i := 23) rfl)
theorem wdm_36 : ∀ w ∈ wsL_law_r36, w ∈ wsL_law := fun _ h => List.mem_append_left _ (List.mem_append_left _ (List.mem_append_left _ (List.mem_append_left _ (List.mem_append_left _ (List.mem_append_left _ (List.mem_append_left _ (List.mem_append_left _ (List.mem_append_right _ (List.mem_append_right _ (List.mem_append_right _ (List.mem_append_right _ (List.mem_append_right _ (List.mem_append_right _ (List.mem_append_right _ (List.mem_append_right _ (List.mem_append_right _ (List.mem_append_right _ (List.mem_append_right _ (List.mem_append_right _ (List.mem_append_right _ (List.mem_append_right _ (List.mem_append_right _ (List.mem_append_right _ (List.mem_append_right _ (List.mem_append_right _ (List.mem_append_right _ (List.mem_append_right _ (List.mem_append_right _ (List.mem_append_right _ (List.mem_append_right _ (List.mem_append_right _ (List.mem_append_right _ (List.mem_append_right _ (List.mem_append_right _ (List.mem_append_right _ (List.mem_append_right _ (List.mem_append_right _ (List.mem_append_right _ (List.mem_append_right _ (List.mem_append_right _ (List.mem_append_right _ (List.mem_append_right _ (List.mem_append_left _ (h))))))))))))))))))))))))))))))))))))))))))))
theorem wd_36_0 : Cond.instanceMethod yX6_name ∈ wsL_law := wdm_36 _ (List.mem_of_getElem? (i := 0) rfl)
theorem wd_36_1 : Cond.selects RX6 yX6_name yX6_name ∈ wsL_law := wdm_36 _ (List.mem_of_getElem? (i := 1) rfl)
theorem wd_36_2 : Cond.code yX6_name cX6_name 2 (some .int) ∈ wsL_law := wdm_36 _ (List.mem_of_getElem? (i := 2) rfl)
theorem wd_36_3 : Cond.methodLink RL 157 yX5_as ∈ wsL_law := wdm_36 _ (List.mem_of_getElem? (i := 3) rfl)
theorem wd_36_4 : Cond.instanceMethod yX5_as ∈ wsL_law := wdm_36 _ (List.mem_of_getElem? (i := 4) rfl)
theorem wd_36_5 : Cond.selects RX5 yX5_as yX5_as ∈ wsL_law := wdm_36 _ (List.mem_of_getElem? (i := 5) rfl)
theorem wd_36_6 : Cond.code yX5_as cX5_as 3 (some .int) ∈ wsL_law := wdm_36 _ (List.mem_of_getElem? (i := 6) rfl)
theorem wd_36_7 : Cond.methodLink RL 160 yX6_as ∈ wsL_law := wdm_36 _ (List.mem_of_getElem? (i := 7) rfl)
theorem wd_36_8 : Cond.instanceMethod yX6_as ∈ wsL_law := wdm_36 _ (List.mem_of_getElem? (i := 8) rfl)
theorem wd_36_9 : Cond.selects RX6 yX6_as yX6_as ∈ wsL_law := wdm_36 _ (List.mem_of_getElem? (i := 9) rfl)
theorem wd_36_10 : Cond.code yX6_as cX6_as 3 (some .int) ∈ wsL_law := wdm_36 _ (List.mem_of_getElem? (i := 10) rfl)
theorem wd_36_11 : Cond.methodLink RL 161 yX5_trace ∈ wsL_law := wdm_36 _ (List.mem_of_getElem? (i := 11) rfl)
theorem wd_36_12 : Cond.instanceMethod yX5_trace ∈ wsL_law := wdm_36 _ (List.mem_of_getElem? (i := 12) rfl)
theorem wd_36_13 : Cond.selects RX5 yX5_trace yX5_trace ∈ wsL_law := wdm_36 _ (List.mem_of_getElem? (i := 13) rfl)
theorem wd_36_14 : Cond.code yX5_trace cX5_trace 1 (some .int) ∈ wsL_law := wdm_36 _ (List.mem_of_getElem? (i := 14) rfl)
theorem wd_36_15 : Cond.methodLink RL 164 yX6_trace ∈ wsL_law := wdm_36 _ (List.mem_of_getElem? (i := 15) rfl)
theorem wd_36_16 : Cond.instanceMethod yX6_trace ∈ wsL_law := wdm_36 _ (List.mem_of_getElem? (i := 16) rfl)
theorem wd_36_17 : Cond.selects RX6 yX6_trace yX6_trace ∈ wsL_law := wdm_36 _ (List.mem_of_getElem? (i := 17) rfl)
theorem wd_36_18 : Cond.code yX6_trace cX6_trace 1 (some .int) ∈ wsL_law := wdm_36 _ (List.mem_of_getElem? (i := 18) rfl)
theorem wd_36_19 : Cond.methodLink RL 165 yX5_fault ∈ wsL_law := wdm_36 _ (List.mem_of_getElem? (i := 19) rfl)
theorem wd_36_20 : Cond.instanceMethod yX5_fault ∈ wsL_law := wdm_36 _ (List.mem_of_getElem? (i := 20) rfl)
theorem wd_36_21 : Cond.selects RX5 yX5_fault yX5_fault ∈ wsL_law := wdm_36 _ (List.mem_of_getElem? (i := 21) rfl)
theorem wd_36_22 : Cond.code yX5_fault cX5_fault 1 (some .int) ∈ wsL_law := wdm_36 _ (List.mem_of_getElem? (i := 22) rfl)
theorem wd_36_23 : Cond.methodLink RL 168 yX6_fault ∈ wsL_law := wdm_36 _ (List.mem_of_getElem? (i := 23) rfl)
theorem wdm_37 : ∀ w ∈ wsL_law_r37, w ∈ wsL_law := fun _ h => List.mem_append_left _ (List.mem_append_left _ (List.mem_append_left _ (List.mem_append_left _ (List.mem_append_left _ (List.mem_append_left _ (List.mem_append_left _ (List.mem_append_left _ (List.mem_append_right _ (List.mem_append_right _ (List.mem_append_right _ (List.mem_append_right _ (List.mem_append_right _ (List.mem_append_right _ (List.mem_append_right _ (List.mem_append_right _ (List.mem_append_right _ (List.mem_append_right _ (List.mem_append_right _ (List.mem_append_right _ (List.mem_append_right _ (List.mem_append_right _ (List.mem_append_right _ (List.mem_append_right _ (List.mem_append_right _ (List.mem_append_right _ (List.mem_append_right _ (List.mem_append_right _ (List.mem_append_right _ (List.mem_append_right _ (List.mem_append_right _ (List.mem_append_right _ (List.mem_append_right _ (List.mem_append_right _ (List.mem_append_right _ (List.mem_append_right _ (List.mem_append_right _ (List.mem_append_right _ (List.mem_append_right _ (List.mem_append_right _ (List.mem_append_right _ (List.mem_append_right _ (List.mem_append_right _ (List.mem_append_right _ (h))))))))))))))))))))))))))))))))))))))))))))
theorem wd_37_0 : Cond.instanceMethod yX6_fault ∈ wsL_law := wdm_37 _ (List.mem_of_getElem? (i := 0) rfl)
theorem wd_37_1 : Cond.selects RX6 yX6_fault yX6_fault ∈ wsL_law := wdm_37 _ (List.mem_of_getElem? (i := 1) rfl)
theorem wd_37_2 : Cond.code yX6_fault cX6_fault 1 (some .int) ∈ wsL_law := wdm_37 _ (List.mem_of_getElem? (i := 2) rfl)
theorem wd_37_3 : Cond.methodLink RL 169 yX5_many ∈ wsL_law := wdm_37 _ (List.mem_of_getElem? (i := 3) rfl)
theorem wd_37_4 : Cond.instanceMethod yX5_many ∈ wsL_law := wdm_37 _ (List.mem_of_getElem? (i := 4) rfl)
theorem wd_37_5 : Cond.selects RX5 yX5_many yX5_many ∈ wsL_law := wdm_37 _ (List.mem_of_getElem? (i := 5) rfl)
theorem wd_37_6 : Cond.code yX5_many cX5_many 2 (some .int) ∈ wsL_law := wdm_37 _ (List.mem_of_getElem? (i := 6) rfl)
theorem wd_37_7 : Cond.methodLink RL 172 yX6_many ∈ wsL_law := wdm_37 _ (List.mem_of_getElem? (i := 7) rfl)
theorem wd_37_8 : Cond.instanceMethod yX6_many ∈ wsL_law := wdm_37 _ (List.mem_of_getElem? (i := 8) rfl)
theorem wd_37_9 : Cond.selects RX6 yX6_many yX6_many ∈ wsL_law := wdm_37 _ (List.mem_of_getElem? (i := 9) rfl)
theorem wd_37_10 : Cond.code yX6_many cX6_many 2 (some .int) ∈ wsL_law := wdm_37 _ (List.mem_of_getElem? (i := 10) rfl)
theorem cy_yX0_init : Cond.initialized yX0_init.cls ∈ wsL_law ∧ Cond.code yX0_init cX0_init 1 none ∈ wsL_law ∧ yX0_init.cls ≠ "java/lang/invoke/MethodHandle" ∧ yX0_init.cls ≠ "java/lang/invoke/VarHandle" ∧ (parseMethodDescriptor yX0_init.desc).map (fun d => d.parameters.length) = some 0 := ⟨wd_1_18, wd_2_15, by decide +kernel, by decide +kernel, by decide +kernel⟩
theorem cy_yX0_begin : Cond.initialized yX0_begin.cls ∈ wsL_law ∧ Cond.code yX0_begin cX0_begin 4 none ∈ wsL_law ∧ yX0_begin.cls ≠ "java/lang/invoke/MethodHandle" ∧ yX0_begin.cls ≠ "java/lang/invoke/VarHandle" ∧ (parseMethodDescriptor yX0_begin.desc).map (fun d => d.parameters.length) = some 3 := ⟨wd_1_18, wd_5_21, by decide +kernel, by decide +kernel, by decide +kernel⟩
theorem cy_yX0_place : Cond.initialized yX0_place.cls ∈ wsL_law ∧ Cond.code yX0_place cX0_place 1 (some .int) ∈ wsL_law ∧ yX0_place.cls ≠ "java/lang/invoke/MethodHandle" ∧ yX0_place.cls ≠ "java/lang/invoke/VarHandle" ∧ (parseMethodDescriptor yX0_place.desc).map (fun d => d.parameters.length) = some 0 := ⟨wd_1_18, wd_8_5, by decide +kernel, by decide +kernel, by decide +kernel⟩
theorem cy_yX0_isAtEnd : Cond.initialized yX0_isAtEnd.cls ∈ wsL_law ∧ Cond.code yX0_isAtEnd cX0_isAtEnd 1 (some .boolean) ∈ wsL_law ∧ yX0_isAtEnd.cls ≠ "java/lang/invoke/MethodHandle" ∧ yX0_isAtEnd.cls ≠ "java/lang/invoke/VarHandle" ∧ (parseMethodDescriptor yX0_isAtEnd.desc).map (fun d => d.parameters.length) = some 0 := ⟨wd_1_18, wd_6_21, by decide +kernel, by decide +kernel, by decide +kernel⟩
theorem cy_yX0_takes : Cond.initialized yX0_takes.cls ∈ wsL_law ∧ Cond.code yX0_takes cX0_takes 2 (some .boolean) ∈ wsL_law ∧ yX0_takes.cls ≠ "java/lang/invoke/MethodHandle" ∧ yX0_takes.cls ≠ "java/lang/invoke/VarHandle" ∧ (parseMethodDescriptor yX0_takes.desc).map (fun d => d.parameters.length) = some 1 := ⟨wd_1_18, wd_6_16, by decide +kernel, by decide +kernel, by decide +kernel⟩
theorem cy_yX0_digit : Cond.initialized yX0_digit.cls ∈ wsL_law ∧ Cond.code yX0_digit cX0_digit 4 (some .int) ∈ wsL_law ∧ yX0_digit.cls ≠ "java/lang/invoke/MethodHandle" ∧ yX0_digit.cls ≠ "java/lang/invoke/VarHandle" ∧ (parseMethodDescriptor yX0_digit.desc).map (fun d => d.parameters.length) = some 2 := ⟨wd_1_18, wd_7_1, by decide +kernel, by decide +kernel, by decide +kernel⟩
theorem cy_yX0_kind : Cond.initialized yX0_kind.cls ∈ wsL_law ∧ Cond.code yX0_kind cX0_kind 1 (some .int) ∈ wsL_law ∧ yX0_kind.cls ≠ "java/lang/invoke/MethodHandle" ∧ yX0_kind.cls ≠ "java/lang/invoke/VarHandle" ∧ (parseMethodDescriptor yX0_kind.desc).map (fun d => d.parameters.length) = some 0 := ⟨wd_1_18, wd_7_23, by decide +kernel, by decide +kernel, by decide +kernel⟩
theorem cy_yX1_init : Cond.initialized yX1_init.cls ∈ wsL_law ∧ Cond.code yX1_init cX1_init 1 none ∈ wsL_law ∧ yX1_init.cls ≠ "java/lang/invoke/MethodHandle" ∧ yX1_init.cls ≠ "java/lang/invoke/VarHandle" ∧ (parseMethodDescriptor yX1_init.desc).map (fun d => d.parameters.length) = some 0 := ⟨wd_1_22, wd_2_18, by decide +kernel, by decide +kernel, by decide +kernel⟩
theorem cy_yX1_take : Cond.initialized yX1_take.cls ∈ wsL_law ∧ Cond.code yX1_take cX1_take 4 (some .int) ∈ wsL_law ∧ yX1_take.cls ≠ "java/lang/invoke/MethodHandle" ∧ yX1_take.cls ≠ "java/lang/invoke/VarHandle" ∧ (parseMethodDescriptor yX1_take.desc).map (fun d => d.parameters.length) = some 3 := ⟨wd_1_22, wd_29_7, by decide +kernel, by decide +kernel, by decide +kernel⟩
theorem cy_yX1_areSoIn : Cond.initialized yX1_areSoIn.cls ∈ wsL_law ∧ Cond.code yX1_areSoIn cX1_areSoIn 3 (some .boolean) ∈ wsL_law ∧ yX1_areSoIn.cls ≠ "java/lang/invoke/MethodHandle" ∧ yX1_areSoIn.cls ≠ "java/lang/invoke/VarHandle" ∧ (parseMethodDescriptor yX1_areSoIn.desc).map (fun d => d.parameters.length) = some 1 := ⟨wd_1_22, wd_30_4, by decide +kernel, by decide +kernel, by decide +kernel⟩
theorem cy_yX2_init : Cond.initialized yX2_init.cls ∈ wsL_law ∧ Cond.code yX2_init cX2_init 1 none ∈ wsL_law ∧ yX2_init.cls ≠ "java/lang/invoke/MethodHandle" ∧ yX2_init.cls ≠ "java/lang/invoke/VarHandle" ∧ (parseMethodDescriptor yX2_init.desc).map (fun d => d.parameters.length) = some 0 := ⟨wd_2_2, wd_3_0, by decide +kernel, by decide +kernel, by decide +kernel⟩
theorem cy_yX2_begin : Cond.initialized yX2_begin.cls ∈ wsL_law ∧ Cond.code yX2_begin cX2_begin 3 none ∈ wsL_law ∧ yX2_begin.cls ≠ "java/lang/invoke/MethodHandle" ∧ yX2_begin.cls ≠ "java/lang/invoke/VarHandle" ∧ (parseMethodDescriptor yX2_begin.desc).map (fun d => d.parameters.length) = some 2 := ⟨wd_2_2, wd_26_7, by decide +kernel, by decide +kernel, by decide +kernel⟩
theorem cy_yX2_lay : Cond.initialized yX2_lay.cls ∈ wsL_law ∧ Cond.code yX2_lay cX2_lay 4 none ∈ wsL_law ∧ yX2_lay.cls ≠ "java/lang/invoke/MethodHandle" ∧ yX2_lay.cls ≠ "java/lang/invoke/VarHandle" ∧ (parseMethodDescriptor yX2_lay.desc).map (fun d => d.parameters.length) = some 3 := ⟨wd_2_2, wd_26_17, by decide +kernel, by decide +kernel, by decide +kernel⟩
theorem cy_yX2_find : Cond.initialized yX2_find.cls ∈ wsL_law ∧ Cond.code yX2_find cX2_find 6 none ∈ wsL_law ∧ yX2_find.cls ≠ "java/lang/invoke/MethodHandle" ∧ yX2_find.cls ≠ "java/lang/invoke/VarHandle" ∧ (parseMethodDescriptor yX2_find.desc).map (fun d => d.parameters.length) = some 2 := ⟨wd_2_2, wd_26_21, by decide +kernel, by decide +kernel, by decide +kernel⟩
theorem cy_yX2_moveAt : Cond.initialized yX2_moveAt.cls ∈ wsL_law ∧ Cond.code yX2_moveAt cX2_moveAt 2 (some .int) ∈ wsL_law ∧ yX2_moveAt.cls ≠ "java/lang/invoke/MethodHandle" ∧ yX2_moveAt.cls ≠ "java/lang/invoke/VarHandle" ∧ (parseMethodDescriptor yX2_moveAt.desc).map (fun d => d.parameters.length) = some 1 := ⟨wd_2_2, wd_27_10, by decide +kernel, by decide +kernel, by decide +kernel⟩
theorem cy_yX2_measure : Cond.initialized yX2_measure.cls ∈ wsL_law ∧ Cond.code yX2_measure cX2_measure 4 none ∈ wsL_law ∧ yX2_measure.cls ≠ "java/lang/invoke/MethodHandle" ∧ yX2_measure.cls ≠ "java/lang/invoke/VarHandle" ∧ (parseMethodDescriptor yX2_measure.desc).map (fun d => d.parameters.length) = some 1 := ⟨wd_2_2, wd_27_2, by decide +kernel, by decide +kernel, by decide +kernel⟩
theorem cy_yX2_moveTo : Cond.initialized yX2_moveTo.cls ∈ wsL_law ∧ Cond.code yX2_moveTo cX2_moveTo 4 (some .int) ∈ wsL_law ∧ yX2_moveTo.cls ≠ "java/lang/invoke/MethodHandle" ∧ yX2_moveTo.cls ≠ "java/lang/invoke/VarHandle" ∧ (parseMethodDescriptor yX2_moveTo.desc).map (fun d => d.parameters.length) = some 2 := ⟨wd_2_2, wd_27_6, by decide +kernel, by decide +kernel, by decide +kernel⟩
theorem cy_yX3_init : Cond.initialized yX3_init.cls ∈ wsL_law ∧ Cond.code yX3_init cX3_init 1 none ∈ wsL_law ∧ yX3_init.cls ≠ "java/lang/invoke/MethodHandle" ∧ yX3_init.cls ≠ "java/lang/invoke/VarHandle" ∧ (parseMethodDescriptor yX3_init.desc).map (fun d => d.parameters.length) = some 0 := ⟨wd_1_15, wd_2_10, by decide +kernel, by decide +kernel, by decide +kernel⟩
theorem cy_yX3_renew : Cond.initialized yX3_renew.cls ∈ wsL_law ∧ Cond.code yX3_renew cX3_renew 4 none ∈ wsL_law ∧ yX3_renew.cls ≠ "java/lang/invoke/MethodHandle" ∧ yX3_renew.cls ≠ "java/lang/invoke/VarHandle" ∧ (parseMethodDescriptor yX3_renew.desc).map (fun d => d.parameters.length) = some 2 := ⟨wd_1_15, wd_32_10, by decide +kernel, by decide +kernel, by decide +kernel⟩
theorem cy_yX3_has : Cond.initialized yX3_has.cls ∈ wsL_law ∧ Cond.code yX3_has cX3_has 3 (some .boolean) ∈ wsL_law ∧ yX3_has.cls ≠ "java/lang/invoke/MethodHandle" ∧ yX3_has.cls ≠ "java/lang/invoke/VarHandle" ∧ (parseMethodDescriptor yX3_has.desc).map (fun d => d.parameters.length) = some 2 := ⟨wd_1_15, wd_5_12, by decide +kernel, by decide +kernel, by decide +kernel⟩
theorem cy_yX3_areWithin : Cond.initialized yX3_areWithin.cls ∈ wsL_law ∧ Cond.code yX3_areWithin cX3_areWithin 5 (some .boolean) ∈ wsL_law ∧ yX3_areWithin.cls ≠ "java/lang/invoke/MethodHandle" ∧ yX3_areWithin.cls ≠ "java/lang/invoke/VarHandle" ∧ (parseMethodDescriptor yX3_areWithin.desc).map (fun d => d.parameters.length) = some 3 := ⟨wd_1_15, wd_22_10, by decide +kernel, by decide +kernel, by decide +kernel⟩
theorem cy_yX3_cut : Cond.initialized yX3_cut.cls ∈ wsL_law ∧ Cond.code yX3_cut cX3_cut 2 (some .int) ∈ wsL_law ∧ yX3_cut.cls ≠ "java/lang/invoke/MethodHandle" ∧ yX3_cut.cls ≠ "java/lang/invoke/VarHandle" ∧ (parseMethodDescriptor yX3_cut.desc).map (fun d => d.parameters.length) = some 1 := ⟨wd_1_15, wd_33_8, by decide +kernel, by decide +kernel, by decide +kernel⟩
theorem cy_yX4_init : Cond.initialized yX4_init.cls ∈ wsL_law ∧ Cond.code yX4_init cX4_init 1 none ∈ wsL_law ∧ yX4_init.cls ≠ "java/lang/invoke/MethodHandle" ∧ yX4_init.cls ≠ "java/lang/invoke/VarHandle" ∧ (parseMethodDescriptor yX4_init.desc).map (fun d => d.parameters.length) = some 0 := ⟨wd_2_6, wd_3_7, by decide +kernel, by decide +kernel, by decide +kernel⟩
theorem cy_yX4_become : Cond.initialized yX4_become.cls ∈ wsL_law ∧ Cond.code yX4_become cX4_become 3 none ∈ wsL_law ∧ yX4_become.cls ≠ "java/lang/invoke/MethodHandle" ∧ yX4_become.cls ≠ "java/lang/invoke/VarHandle" ∧ (parseMethodDescriptor yX4_become.desc).map (fun d => d.parameters.length) = some 1 := ⟨wd_2_6, wd_22_23, by decide +kernel, by decide +kernel, by decide +kernel⟩
theorem cy_yX4_readsAll : Cond.initialized yX4_readsAll.cls ∈ wsL_law ∧ Cond.code yX4_readsAll cX4_readsAll 2 (some .boolean) ∈ wsL_law ∧ yX4_readsAll.cls ≠ "java/lang/invoke/MethodHandle" ∧ yX4_readsAll.cls ≠ "java/lang/invoke/VarHandle" ∧ (parseMethodDescriptor yX4_readsAll.desc).map (fun d => d.parameters.length) = some 1 := ⟨wd_2_6, wd_6_5, by decide +kernel, by decide +kernel, by decide +kernel⟩
theorem cy_yX4_readsHead : Cond.initialized yX4_readsHead.cls ∈ wsL_law ∧ Cond.code yX4_readsHead cX4_readsHead 2 (some .boolean) ∈ wsL_law ∧ yX4_readsHead.cls ≠ "java/lang/invoke/MethodHandle" ∧ yX4_readsHead.cls ≠ "java/lang/invoke/VarHandle" ∧ (parseMethodDescriptor yX4_readsHead.desc).map (fun d => d.parameters.length) = some 1 := ⟨wd_2_6, wd_6_9, by decide +kernel, by decide +kernel, by decide +kernel⟩
theorem cy_yX4_readsPools : Cond.initialized yX4_readsPools.cls ∈ wsL_law ∧ Cond.code yX4_readsPools cX4_readsPools 2 (some .boolean) ∈ wsL_law ∧ yX4_readsPools.cls ≠ "java/lang/invoke/MethodHandle" ∧ yX4_readsPools.cls ≠ "java/lang/invoke/VarHandle" ∧ (parseMethodDescriptor yX4_readsPools.desc).map (fun d => d.parameters.length) = some 1 := ⟨wd_2_6, wd_7_5, by decide +kernel, by decide +kernel, by decide +kernel⟩
theorem cy_yX4_readsPool : Cond.initialized yX4_readsPool.cls ∈ wsL_law ∧ Cond.code yX4_readsPool cX4_readsPool 2 (some .boolean) ∈ wsL_law ∧ yX4_readsPool.cls ≠ "java/lang/invoke/MethodHandle" ∧ yX4_readsPool.cls ≠ "java/lang/invoke/VarHandle" ∧ (parseMethodDescriptor yX4_readsPool.desc).map (fun d => d.parameters.length) = some 1 := ⟨wd_2_6, wd_7_10, by decide +kernel, by decide +kernel, by decide +kernel⟩
theorem cy_yX4_readsMembers : Cond.initialized yX4_readsMembers.cls ∈ wsL_law ∧ Cond.code yX4_readsMembers cX4_readsMembers 2 (some .boolean) ∈ wsL_law ∧ yX4_readsMembers.cls ≠ "java/lang/invoke/MethodHandle" ∧ yX4_readsMembers.cls ≠ "java/lang/invoke/VarHandle" ∧ (parseMethodDescriptor yX4_readsMembers.desc).map (fun d => d.parameters.length) = some 1 := ⟨wd_2_6, wd_7_14, by decide +kernel, by decide +kernel, by decide +kernel⟩
theorem cy_yX4_readsMember : Cond.initialized yX4_readsMember.cls ∈ wsL_law ∧ Cond.code yX4_readsMember cX4_readsMember 2 (some .boolean) ∈ wsL_law ∧ yX4_readsMember.cls ≠ "java/lang/invoke/MethodHandle" ∧ yX4_readsMember.cls ≠ "java/lang/invoke/VarHandle" ∧ (parseMethodDescriptor yX4_readsMember.desc).map (fun d => d.parameters.length) = some 1 := ⟨wd_2_6, wd_7_19, by decide +kernel, by decide +kernel, by decide +kernel⟩
theorem cy_yX4_sittersOf : Cond.initialized yX4_sittersOf.cls ∈ wsL_law ∧ Cond.code yX4_sittersOf cX4_sittersOf 4 (some .int) ∈ wsL_law ∧ yX4_sittersOf.cls ≠ "java/lang/invoke/MethodHandle" ∧ yX4_sittersOf.cls ≠ "java/lang/invoke/VarHandle" ∧ (parseMethodDescriptor yX4_sittersOf.desc).map (fun d => d.parameters.length) = some 1 := ⟨wd_2_6, wd_11_10, by decide +kernel, by decide +kernel, by decide +kernel⟩
theorem cy_yX4_sittersIn : Cond.initialized yX4_sittersIn.cls ∈ wsL_law ∧ Cond.code yX4_sittersIn cX4_sittersIn 2 (some .int) ∈ wsL_law ∧ yX4_sittersIn.cls ≠ "java/lang/invoke/MethodHandle" ∧ yX4_sittersIn.cls ≠ "java/lang/invoke/VarHandle" ∧ (parseMethodDescriptor yX4_sittersIn.desc).map (fun d => d.parameters.length) = some 1 := ⟨wd_2_6, wd_11_18, by decide +kernel, by decide +kernel, by decide +kernel⟩
theorem cy_yX4_spanOf : Cond.initialized yX4_spanOf.cls ∈ wsL_law ∧ Cond.code yX4_spanOf cX4_spanOf 2 (some .int) ∈ wsL_law ∧ yX4_spanOf.cls ≠ "java/lang/invoke/MethodHandle" ∧ yX4_spanOf.cls ≠ "java/lang/invoke/VarHandle" ∧ (parseMethodDescriptor yX4_spanOf.desc).map (fun d => d.parameters.length) = some 1 := ⟨wd_2_6, wd_11_14, by decide +kernel, by decide +kernel, by decide +kernel⟩
theorem cy_yX4_poolsSatIn : Cond.initialized yX4_poolsSatIn.cls ∈ wsL_law ∧ Cond.code yX4_poolsSatIn cX4_poolsSatIn 3 (some .int) ∈ wsL_law ∧ yX4_poolsSatIn.cls ≠ "java/lang/invoke/MethodHandle" ∧ yX4_poolsSatIn.cls ≠ "java/lang/invoke/VarHandle" ∧ (parseMethodDescriptor yX4_poolsSatIn.desc).map (fun d => d.parameters.length) = some 0 := ⟨wd_2_6, wd_21_6, by decide +kernel, by decide +kernel, by decide +kernel⟩
theorem cy_yX4_fullestPool : Cond.initialized yX4_fullestPool.cls ∈ wsL_law ∧ Cond.code yX4_fullestPool cX4_fullestPool 3 (some .int) ∈ wsL_law ∧ yX4_fullestPool.cls ≠ "java/lang/invoke/MethodHandle" ∧ yX4_fullestPool.cls ≠ "java/lang/invoke/VarHandle" ∧ (parseMethodDescriptor yX4_fullestPool.desc).map (fun d => d.parameters.length) = some 0 := ⟨wd_2_6, wd_23_8, by decide +kernel, by decide +kernel, by decide +kernel⟩
theorem cy_yX4_stepsOf : Cond.initialized yX4_stepsOf.cls ∈ wsL_law ∧ Cond.code yX4_stepsOf cX4_stepsOf 2 (some .int) ∈ wsL_law ∧ yX4_stepsOf.cls ≠ "java/lang/invoke/MethodHandle" ∧ yX4_stepsOf.cls ≠ "java/lang/invoke/VarHandle" ∧ (parseMethodDescriptor yX4_stepsOf.desc).map (fun d => d.parameters.length) = some 1 := ⟨wd_2_6, wd_13_8, by decide +kernel, by decide +kernel, by decide +kernel⟩
theorem cy_yX4_isWashed : Cond.initialized yX4_isWashed.cls ∈ wsL_law ∧ Cond.code yX4_isWashed cX4_isWashed 3 (some .boolean) ∈ wsL_law ∧ yX4_isWashed.cls ≠ "java/lang/invoke/MethodHandle" ∧ yX4_isWashed.cls ≠ "java/lang/invoke/VarHandle" ∧ (parseMethodDescriptor yX4_isWashed.desc).map (fun d => d.parameters.length) = some 2 := ⟨wd_2_6, wd_17_1, by decide +kernel, by decide +kernel, by decide +kernel⟩
theorem cy_yX4_washedBy : Cond.initialized yX4_washedBy.cls ∈ wsL_law ∧ Cond.code yX4_washedBy cX4_washedBy 4 (some .int) ∈ wsL_law ∧ yX4_washedBy.cls ≠ "java/lang/invoke/MethodHandle" ∧ yX4_washedBy.cls ≠ "java/lang/invoke/VarHandle" ∧ (parseMethodDescriptor yX4_washedBy.desc).map (fun d => d.parameters.length) = some 1 := ⟨wd_2_6, wd_16_21, by decide +kernel, by decide +kernel, by decide +kernel⟩
theorem cy_yX4_poolBehind : Cond.initialized yX4_poolBehind.cls ∈ wsL_law ∧ Cond.code yX4_poolBehind cX4_poolBehind 6 (some .int) ∈ wsL_law ∧ yX4_poolBehind.cls ≠ "java/lang/invoke/MethodHandle" ∧ yX4_poolBehind.cls ≠ "java/lang/invoke/VarHandle" ∧ (parseMethodDescriptor yX4_poolBehind.desc).map (fun d => d.parameters.length) = some 3 := ⟨wd_2_6, wd_17_21, by decide +kernel, by decide +kernel, by decide +kernel⟩
theorem cy_yX4_nextWashed : Cond.initialized yX4_nextWashed.cls ∈ wsL_law ∧ Cond.code yX4_nextWashed cX4_nextWashed 5 (some .int) ∈ wsL_law ∧ yX4_nextWashed.cls ≠ "java/lang/invoke/MethodHandle" ∧ yX4_nextWashed.cls ≠ "java/lang/invoke/VarHandle" ∧ (parseMethodDescriptor yX4_nextWashed.desc).map (fun d => d.parameters.length) = some 2 := ⟨wd_2_6, wd_18_2, by decide +kernel, by decide +kernel, by decide +kernel⟩
theorem cy_yX4_seatBehind : Cond.initialized yX4_seatBehind.cls ∈ wsL_law ∧ Cond.code yX4_seatBehind cX4_seatBehind 3 (some .int) ∈ wsL_law ∧ yX4_seatBehind.cls ≠ "java/lang/invoke/MethodHandle" ∧ yX4_seatBehind.cls ≠ "java/lang/invoke/VarHandle" ∧ (parseMethodDescriptor yX4_seatBehind.desc).map (fun d => d.parameters.length) = some 2 := ⟨wd_2_6, wd_17_17, by decide +kernel, by decide +kernel, by decide +kernel⟩
theorem cy_yX4_carryAll : Cond.initialized yX4_carryAll.cls ∈ wsL_law ∧ Cond.code yX4_carryAll cX4_carryAll 5 (some .int) ∈ wsL_law ∧ yX4_carryAll.cls ≠ "java/lang/invoke/MethodHandle" ∧ yX4_carryAll.cls ≠ "java/lang/invoke/VarHandle" ∧ (parseMethodDescriptor yX4_carryAll.desc).map (fun d => d.parameters.length) = some 1 := ⟨wd_2_6, wd_18_18, by decide +kernel, by decide +kernel, by decide +kernel⟩
theorem cy_yX4_friendsOf : Cond.initialized yX4_friendsOf.cls ∈ wsL_law ∧ Cond.code yX4_friendsOf cX4_friendsOf 4 (some .int) ∈ wsL_law ∧ yX4_friendsOf.cls ≠ "java/lang/invoke/MethodHandle" ∧ yX4_friendsOf.cls ≠ "java/lang/invoke/VarHandle" ∧ (parseMethodDescriptor yX4_friendsOf.desc).map (fun d => d.parameters.length) = some 1 := ⟨wd_2_6, wd_19_13, by decide +kernel, by decide +kernel, by decide +kernel⟩
theorem cy_yX4_poolsWon : Cond.initialized yX4_poolsWon.cls ∈ wsL_law ∧ Cond.code yX4_poolsWon cX4_poolsWon 5 (some .int) ∈ wsL_law ∧ yX4_poolsWon.cls ≠ "java/lang/invoke/MethodHandle" ∧ yX4_poolsWon.cls ≠ "java/lang/invoke/VarHandle" ∧ (parseMethodDescriptor yX4_poolsWon.desc).map (fun d => d.parameters.length) = some 1 := ⟨wd_2_6, wd_20_9, by decide +kernel, by decide +kernel, by decide +kernel⟩
theorem cy_yX4_isLawBy : Cond.initialized yX4_isLawBy.cls ∈ wsL_law ∧ Cond.code yX4_isLawBy cX4_isLawBy 2 (some .boolean) ∈ wsL_law ∧ yX4_isLawBy.cls ≠ "java/lang/invoke/MethodHandle" ∧ yX4_isLawBy.cls ≠ "java/lang/invoke/VarHandle" ∧ (parseMethodDescriptor yX4_isLawBy.desc).map (fun d => d.parameters.length) = some 1 := ⟨wd_2_6, wd_21_1, by decide +kernel, by decide +kernel, by decide +kernel⟩
theorem cy_yX4_driftIn : Cond.initialized yX4_driftIn.cls ∈ wsL_law ∧ Cond.code yX4_driftIn cX4_driftIn 5 (some .int) ∈ wsL_law ∧ yX4_driftIn.cls ≠ "java/lang/invoke/MethodHandle" ∧ yX4_driftIn.cls ≠ "java/lang/invoke/VarHandle" ∧ (parseMethodDescriptor yX4_driftIn.desc).map (fun d => d.parameters.length) = some 2 := ⟨wd_2_6, wd_25_6, by decide +kernel, by decide +kernel, by decide +kernel⟩
theorem cy_yX4_isInReach : Cond.initialized yX4_isInReach.cls ∈ wsL_law ∧ Cond.code yX4_isInReach cX4_isInReach 3 (some .boolean) ∈ wsL_law ∧ yX4_isInReach.cls ≠ "java/lang/invoke/MethodHandle" ∧ yX4_isInReach.cls ≠ "java/lang/invoke/VarHandle" ∧ (parseMethodDescriptor yX4_isInReach.desc).map (fun d => d.parameters.length) = some 2 := ⟨wd_2_6, wd_26_13, by decide +kernel, by decide +kernel, by decide +kernel⟩
theorem cy_yX5_init : Cond.initialized yX5_init.cls ∈ wsL_law ∧ Cond.code yX5_init cX5_init 2 none ∈ wsL_law ∧ yX5_init.cls ≠ "java/lang/invoke/MethodHandle" ∧ yX5_init.cls ≠ "java/lang/invoke/VarHandle" ∧ (parseMethodDescriptor yX5_init.desc).map (fun d => d.parameters.length) = some 0 := ⟨wd_1_2, wd_1_8, by decide +kernel, by decide +kernel, by decide +kernel⟩
theorem cy_yX5_shore : Cond.initialized yX5_shore.cls ∈ wsL_law ∧ Cond.code yX5_shore cX5_shore 6 (some .int) ∈ wsL_law ∧ yX5_shore.cls ≠ "java/lang/invoke/MethodHandle" ∧ yX5_shore.cls ≠ "java/lang/invoke/VarHandle" ∧ (parseMethodDescriptor yX5_shore.desc).map (fun d => d.parameters.length) = some 4 := ⟨wd_1_2, wd_4_15, by decide +kernel, by decide +kernel, by decide +kernel⟩
theorem cy_yX5_ofPool : Cond.initialized yX5_ofPool.cls ∈ wsL_law ∧ Cond.code yX5_ofPool cX5_ofPool 3 (some .int) ∈ wsL_law ∧ yX5_ofPool.cls ≠ "java/lang/invoke/MethodHandle" ∧ yX5_ofPool.cls ≠ "java/lang/invoke/VarHandle" ∧ (parseMethodDescriptor yX5_ofPool.desc).map (fun d => d.parameters.length) = some 2 := ⟨wd_1_2, wd_10_23, by decide +kernel, by decide +kernel, by decide +kernel⟩
theorem cy_yX5_ofMember : Cond.initialized yX5_ofMember.cls ∈ wsL_law ∧ Cond.code yX5_ofMember cX5_ofMember 3 (some .int) ∈ wsL_law ∧ yX5_ofMember.cls ≠ "java/lang/invoke/MethodHandle" ∧ yX5_ofMember.cls ≠ "java/lang/invoke/VarHandle" ∧ (parseMethodDescriptor yX5_ofMember.desc).map (fun d => d.parameters.length) = some 2 := ⟨wd_1_2, wd_12_21, by decide +kernel, by decide +kernel, by decide +kernel⟩
theorem cy_yX5_raise : Cond.initialized yX5_raise.cls ∈ wsL_law ∧ Cond.code yX5_raise cX5_raise 4 (some .int) ∈ wsL_law ∧ yX5_raise.cls ≠ "java/lang/invoke/MethodHandle" ∧ yX5_raise.cls ≠ "java/lang/invoke/VarHandle" ∧ (parseMethodDescriptor yX5_raise.desc).map (fun d => d.parameters.length) = some 2 := ⟨wd_1_2, wd_14_0, by decide +kernel, by decide +kernel, by decide +kernel⟩
theorem cy_yX5_sway : Cond.initialized yX5_sway.cls ∈ wsL_law ∧ Cond.code yX5_sway cX5_sway 4 (some .int) ∈ wsL_law ∧ yX5_sway.cls ≠ "java/lang/invoke/MethodHandle" ∧ yX5_sway.cls ≠ "java/lang/invoke/VarHandle" ∧ (parseMethodDescriptor yX5_sway.desc).map (fun d => d.parameters.length) = some 2 := ⟨wd_1_2, wd_14_8, by decide +kernel, by decide +kernel, by decide +kernel⟩
theorem cy_yX5_seat : Cond.initialized yX5_seat.cls ∈ wsL_law ∧ Cond.code yX5_seat cX5_seat 4 (some .int) ∈ wsL_law ∧ yX5_seat.cls ≠ "java/lang/invoke/MethodHandle" ∧ yX5_seat.cls ≠ "java/lang/invoke/VarHandle" ∧ (parseMethodDescriptor yX5_seat.desc).map (fun d => d.parameters.length) = some 2 := ⟨wd_1_2, wd_14_22, by decide +kernel, by decide +kernel, by decide +kernel⟩
theorem cy_yX5_flow : Cond.initialized yX5_flow.cls ∈ wsL_law ∧ Cond.code yX5_flow cX5_flow 4 (some .int) ∈ wsL_law ∧ yX5_flow.cls ≠ "java/lang/invoke/MethodHandle" ∧ yX5_flow.cls ≠ "java/lang/invoke/VarHandle" ∧ (parseMethodDescriptor yX5_flow.desc).map (fun d => d.parameters.length) = some 1 := ⟨wd_1_2, wd_15_6, by decide +kernel, by decide +kernel, by decide +kernel⟩
theorem cy_yX5_calm : Cond.initialized yX5_calm.cls ∈ wsL_law ∧ Cond.code yX5_calm cX5_calm 4 (some .int) ∈ wsL_law ∧ yX5_calm.cls ≠ "java/lang/invoke/MethodHandle" ∧ yX5_calm.cls ≠ "java/lang/invoke/VarHandle" ∧ (parseMethodDescriptor yX5_calm.desc).map (fun d => d.parameters.length) = some 1 := ⟨wd_1_2, wd_15_23, by decide +kernel, by decide +kernel, by decide +kernel⟩
theorem cy_yX5_leap : Cond.initialized yX5_leap.cls ∈ wsL_law ∧ Cond.code yX5_leap cX5_leap 4 (some .int) ∈ wsL_law ∧ yX5_leap.cls ≠ "java/lang/invoke/MethodHandle" ∧ yX5_leap.cls ≠ "java/lang/invoke/VarHandle" ∧ (parseMethodDescriptor yX5_leap.desc).map (fun d => d.parameters.length) = some 1 := ⟨wd_1_2, wd_16_8, by decide +kernel, by decide +kernel, by decide +kernel⟩
theorem cy_yX5_washed : Cond.initialized yX5_washed.cls ∈ wsL_law ∧ Cond.code yX5_washed cX5_washed 3 (some .int) ∈ wsL_law ∧ yX5_washed.cls ≠ "java/lang/invoke/MethodHandle" ∧ yX5_washed.cls ≠ "java/lang/invoke/VarHandle" ∧ (parseMethodDescriptor yX5_washed.desc).map (fun d => d.parameters.length) = some 1 := ⟨wd_1_2, wd_16_17, by decide +kernel, by decide +kernel, by decide +kernel⟩
theorem cy_yX5_carried : Cond.initialized yX5_carried.cls ∈ wsL_law ∧ Cond.code yX5_carried cX5_carried 3 (some .int) ∈ wsL_law ∧ yX5_carried.cls ≠ "java/lang/invoke/MethodHandle" ∧ yX5_carried.cls ≠ "java/lang/invoke/VarHandle" ∧ (parseMethodDescriptor yX5_carried.desc).map (fun d => d.parameters.length) = some 2 := ⟨wd_1_2, wd_17_13, by decide +kernel, by decide +kernel, by decide +kernel⟩
theorem cy_yX5_tide : Cond.initialized yX5_tide.cls ∈ wsL_law ∧ Cond.code yX5_tide cX5_tide 3 (some .int) ∈ wsL_law ∧ yX5_tide.cls ≠ "java/lang/invoke/MethodHandle" ∧ yX5_tide.cls ≠ "java/lang/invoke/VarHandle" ∧ (parseMethodDescriptor yX5_tide.desc).map (fun d => d.parameters.length) = some 1 := ⟨wd_1_2, wd_18_14, by decide +kernel, by decide +kernel, by decide +kernel⟩
theorem cy_yX5_ayes : Cond.initialized yX5_ayes.cls ∈ wsL_law ∧ Cond.code yX5_ayes cX5_ayes 3 (some .int) ∈ wsL_law ∧ yX5_ayes.cls ≠ "java/lang/invoke/MethodHandle" ∧ yX5_ayes.cls ≠ "java/lang/invoke/VarHandle" ∧ (parseMethodDescriptor yX5_ayes.desc).map (fun d => d.parameters.length) = some 1 := ⟨wd_1_2, wd_19_9, by decide +kernel, by decide +kernel, by decide +kernel⟩
theorem cy_yX5_passes : Cond.initialized yX5_passes.cls ∈ wsL_law ∧ Cond.code yX5_passes cX5_passes 3 (some .int) ∈ wsL_law ∧ yX5_passes.cls ≠ "java/lang/invoke/MethodHandle" ∧ yX5_passes.cls ≠ "java/lang/invoke/VarHandle" ∧ (parseMethodDescriptor yX5_passes.desc).map (fun d => d.parameters.length) = some 1 := ⟨wd_1_2, wd_20_5, by decide +kernel, by decide +kernel, by decide +kernel⟩
theorem cy_yX5_law : Cond.initialized yX5_law.cls ∈ wsL_law ∧ Cond.code yX5_law cX5_law 3 (some .int) ∈ wsL_law ∧ yX5_law.cls ≠ "java/lang/invoke/MethodHandle" ∧ yX5_law.cls ≠ "java/lang/invoke/VarHandle" ∧ (parseMethodDescriptor yX5_law.desc).map (fun d => d.parameters.length) = some 1 := ⟨wd_1_2, wd_20_21, by decide +kernel, by decide +kernel, by decide +kernel⟩
theorem cy_yX5_year : Cond.initialized yX5_year.cls ∈ wsL_law ∧ Cond.code yX5_year cX5_year 7 (some .int) ∈ wsL_law ∧ yX5_year.cls ≠ "java/lang/invoke/MethodHandle" ∧ yX5_year.cls ≠ "java/lang/invoke/VarHandle" ∧ (parseMethodDescriptor yX5_year.desc).map (fun d => d.parameters.length) = some 5 := ⟨wd_1_2, wd_21_23, by decide +kernel, by decide +kernel, by decide +kernel⟩
theorem cy_yX5_yearTold : Cond.initialized yX5_yearTold.cls ∈ wsL_law ∧ Cond.code yX5_yearTold cX5_yearTold 8 (some .int) ∈ wsL_law ∧ yX5_yearTold.cls ≠ "java/lang/invoke/MethodHandle" ∧ yX5_yearTold.cls ≠ "java/lang/invoke/VarHandle" ∧ (parseMethodDescriptor yX5_yearTold.desc).map (fun d => d.parameters.length) = some 4 := ⟨wd_1_2, wd_22_14, by decide +kernel, by decide +kernel, by decide +kernel⟩
theorem cy_yX5_firstWrong : Cond.initialized yX5_firstWrong.cls ∈ wsL_law ∧ Cond.code yX5_firstWrong cX5_firstWrong 5 (some .int) ∈ wsL_law ∧ yX5_firstWrong.cls ≠ "java/lang/invoke/MethodHandle" ∧ yX5_firstWrong.cls ≠ "java/lang/invoke/VarHandle" ∧ (parseMethodDescriptor yX5_firstWrong.desc).map (fun d => d.parameters.length) = some 3 := ⟨wd_1_2, wd_22_19, by decide +kernel, by decide +kernel, by decide +kernel⟩
theorem cy_yX5_endOfYear : Cond.initialized yX5_endOfYear.cls ∈ wsL_law ∧ Cond.code yX5_endOfYear cX5_endOfYear 3 (some .int) ∈ wsL_law ∧ yX5_endOfYear.cls ≠ "java/lang/invoke/MethodHandle" ∧ yX5_endOfYear.cls ≠ "java/lang/invoke/VarHandle" ∧ (parseMethodDescriptor yX5_endOfYear.desc).map (fun d => d.parameters.length) = some 1 := ⟨wd_1_2, wd_23_3, by decide +kernel, by decide +kernel, by decide +kernel⟩
theorem cy_yX5_best : Cond.initialized yX5_best.cls ∈ wsL_law ∧ Cond.code yX5_best cX5_best 7 (some .int) ∈ wsL_law ∧ yX5_best.cls ≠ "java/lang/invoke/MethodHandle" ∧ yX5_best.cls ≠ "java/lang/invoke/VarHandle" ∧ (parseMethodDescriptor yX5_best.desc).map (fun d => d.parameters.length) = some 1 := ⟨wd_1_2, wd_24_1, by decide +kernel, by decide +kernel, by decide +kernel⟩
theorem cy_yX5_turn : Cond.initialized yX5_turn.cls ∈ wsL_law ∧ Cond.code yX5_turn cX5_turn 3 (some .int) ∈ wsL_law ∧ yX5_turn.cls ≠ "java/lang/invoke/MethodHandle" ∧ yX5_turn.cls ≠ "java/lang/invoke/VarHandle" ∧ (parseMethodDescriptor yX5_turn.desc).map (fun d => d.parameters.length) = some 1 := ⟨wd_1_2, wd_24_10, by decide +kernel, by decide +kernel, by decide +kernel⟩
theorem cy_yX5_fewestToTurn : Cond.initialized yX5_fewestToTurn.cls ∈ wsL_law ∧ Cond.code yX5_fewestToTurn cX5_fewestToTurn 4 (some .int) ∈ wsL_law ∧ yX5_fewestToTurn.cls ≠ "java/lang/invoke/MethodHandle" ∧ yX5_fewestToTurn.cls ≠ "java/lang/invoke/VarHandle" ∧ (parseMethodDescriptor yX5_fewestToTurn.desc).map (fun d => d.parameters.length) = some 1 := ⟨wd_1_2, wd_24_14, by decide +kernel, by decide +kernel, by decide +kernel⟩
theorem cy_yX5_drift : Cond.initialized yX5_drift.cls ∈ wsL_law ∧ Cond.code yX5_drift cX5_drift 8 (some .int) ∈ wsL_law ∧ yX5_drift.cls ≠ "java/lang/invoke/MethodHandle" ∧ yX5_drift.cls ≠ "java/lang/invoke/VarHandle" ∧ (parseMethodDescriptor yX5_drift.desc).map (fun d => d.parameters.length) = some 6 := ⟨wd_1_2, wd_24_22, by decide +kernel, by decide +kernel, by decide +kernel⟩
theorem cy_yX5_driftOf : Cond.initialized yX5_driftOf.cls ∈ wsL_law ∧ Cond.code yX5_driftOf cX5_driftOf 7 (some .int) ∈ wsL_law ∧ yX5_driftOf.cls ≠ "java/lang/invoke/MethodHandle" ∧ yX5_driftOf.cls ≠ "java/lang/invoke/VarHandle" ∧ (parseMethodDescriptor yX5_driftOf.desc).map (fun d => d.parameters.length) = some 4 := ⟨wd_1_2, wd_25_2, by decide +kernel, by decide +kernel, by decide +kernel⟩
theorem cy_yX5_originsOf : Cond.initialized yX5_originsOf.cls ∈ wsL_law ∧ Cond.code yX5_originsOf cX5_originsOf 7 (some .int) ∈ wsL_law ∧ yX5_originsOf.cls ≠ "java/lang/invoke/MethodHandle" ∧ yX5_originsOf.cls ≠ "java/lang/invoke/VarHandle" ∧ (parseMethodDescriptor yX5_originsOf.desc).map (fun d => d.parameters.length) = some 4 := ⟨wd_1_2, wd_25_10, by decide +kernel, by decide +kernel, by decide +kernel⟩
theorem cy_yX5_leaps : Cond.initialized yX5_leaps.cls ∈ wsL_law ∧ Cond.code yX5_leaps cX5_leaps 4 (some .int) ∈ wsL_law ∧ yX5_leaps.cls ≠ "java/lang/invoke/MethodHandle" ∧ yX5_leaps.cls ≠ "java/lang/invoke/VarHandle" ∧ (parseMethodDescriptor yX5_leaps.desc).map (fun d => d.parameters.length) = some 3 := ⟨wd_1_2, wd_25_22, by decide +kernel, by decide +kernel, by decide +kernel⟩
theorem cy_yX5_layLeaps : Cond.initialized yX5_layLeaps.cls ∈ wsL_law ∧ Cond.code yX5_layLeaps cX5_layLeaps 3 none ∈ wsL_law ∧ yX5_layLeaps.cls ≠ "java/lang/invoke/MethodHandle" ∧ yX5_layLeaps.cls ≠ "java/lang/invoke/VarHandle" ∧ (parseMethodDescriptor yX5_layLeaps.desc).map (fun d => d.parameters.length) = some 0 := ⟨wd_1_2, wd_26_3, by decide +kernel, by decide +kernel, by decide +kernel⟩
theorem cy_yX5_elect : Cond.initialized yX5_elect.cls ∈ wsL_law ∧ Cond.code yX5_elect cX5_elect 4 (some .int) ∈ wsL_law ∧ yX5_elect.cls ≠ "java/lang/invoke/MethodHandle" ∧ yX5_elect.cls ≠ "java/lang/invoke/VarHandle" ∧ (parseMethodDescriptor yX5_elect.desc).map (fun d => d.parameters.length) = some 3 := ⟨wd_1_2, wd_28_6, by decide +kernel, by decide +kernel, by decide +kernel⟩
theorem cy_yX5_layTides : Cond.initialized yX5_layTides.cls ∈ wsL_law ∧ Cond.code yX5_layTides cX5_layTides 4 none ∈ wsL_law ∧ yX5_layTides.cls ≠ "java/lang/invoke/MethodHandle" ∧ yX5_layTides.cls ≠ "java/lang/invoke/VarHandle" ∧ (parseMethodDescriptor yX5_layTides.desc).map (fun d => d.parameters.length) = some 1 := ⟨wd_1_2, wd_28_10, by decide +kernel, by decide +kernel, by decide +kernel⟩
theorem cy_yX5_reading : Cond.initialized yX5_reading.cls ∈ wsL_law ∧ Cond.code yX5_reading cX5_reading 4 (some .int) ∈ wsL_law ∧ yX5_reading.cls ≠ "java/lang/invoke/MethodHandle" ∧ yX5_reading.cls ≠ "java/lang/invoke/VarHandle" ∧ (parseMethodDescriptor yX5_reading.desc).map (fun d => d.parameters.length) = some 3 := ⟨wd_1_2, wd_29_3, by decide +kernel, by decide +kernel, by decide +kernel⟩
theorem cy_yX5_back : Cond.initialized yX5_back.cls ∈ wsL_law ∧ Cond.code yX5_back cX5_back 2 (some .int) ∈ wsL_law ∧ yX5_back.cls ≠ "java/lang/invoke/MethodHandle" ∧ yX5_back.cls ≠ "java/lang/invoke/VarHandle" ∧ (parseMethodDescriptor yX5_back.desc).map (fun d => d.parameters.length) = some 1 := ⟨wd_1_2, wd_29_16, by decide +kernel, by decide +kernel, by decide +kernel⟩
theorem cy_yX5_heights : Cond.initialized yX5_heights.cls ∈ wsL_law ∧ Cond.code yX5_heights cX5_heights 4 (some .int) ∈ wsL_law ∧ yX5_heights.cls ≠ "java/lang/invoke/MethodHandle" ∧ yX5_heights.cls ≠ "java/lang/invoke/VarHandle" ∧ (parseMethodDescriptor yX5_heights.desc).map (fun d => d.parameters.length) = some 1 := ⟨wd_1_2, wd_30_0, by decide +kernel, by decide +kernel, by decide +kernel⟩
theorem cy_yX5_kinds : Cond.initialized yX5_kinds.cls ∈ wsL_law ∧ Cond.code yX5_kinds cX5_kinds 4 (some .int) ∈ wsL_law ∧ yX5_kinds.cls ≠ "java/lang/invoke/MethodHandle" ∧ yX5_kinds.cls ≠ "java/lang/invoke/VarHandle" ∧ (parseMethodDescriptor yX5_kinds.desc).map (fun d => d.parameters.length) = some 1 := ⟨wd_1_2, wd_30_17, by decide +kernel, by decide +kernel, by decide +kernel⟩
theorem cy_yX5_streams : Cond.initialized yX5_streams.cls ∈ wsL_law ∧ Cond.code yX5_streams cX5_streams 3 (some .int) ∈ wsL_law ∧ yX5_streams.cls ≠ "java/lang/invoke/MethodHandle" ∧ yX5_streams.cls ≠ "java/lang/invoke/VarHandle" ∧ (parseMethodDescriptor yX5_streams.desc).map (fun d => d.parameters.length) = some 0 := ⟨wd_1_2, wd_31_1, by decide +kernel, by decide +kernel, by decide +kernel⟩
theorem cy_yX5_odds : Cond.initialized yX5_odds.cls ∈ wsL_law ∧ Cond.code yX5_odds cX5_odds 7 (some .long) ∈ wsL_law ∧ yX5_odds.cls ≠ "java/lang/invoke/MethodHandle" ∧ yX5_odds.cls ≠ "java/lang/invoke/VarHandle" ∧ (parseMethodDescriptor yX5_odds.desc).map (fun d => d.parameters.length) = some 3 := ⟨wd_1_2, wd_31_9, by decide +kernel, by decide +kernel, by decide +kernel⟩
theorem cy_yX5_pairsOfTides : Cond.initialized yX5_pairsOfTides.cls ∈ wsL_law ∧ Cond.code yX5_pairsOfTides cX5_pairsOfTides 8 (some .int) ∈ wsL_law ∧ yX5_pairsOfTides.cls ≠ "java/lang/invoke/MethodHandle" ∧ yX5_pairsOfTides.cls ≠ "java/lang/invoke/VarHandle" ∧ (parseMethodDescriptor yX5_pairsOfTides.desc).map (fun d => d.parameters.length) = some 2 := ⟨wd_1_2, wd_31_14, by decide +kernel, by decide +kernel, by decide +kernel⟩
theorem cy_yX5_commonDivisor : Cond.initialized yX5_commonDivisor.cls ∈ wsL_law ∧ Cond.code yX5_commonDivisor cX5_commonDivisor 3 (some .int) ∈ wsL_law ∧ yX5_commonDivisor.cls ≠ "java/lang/invoke/MethodHandle" ∧ yX5_commonDivisor.cls ≠ "java/lang/invoke/VarHandle" ∧ (parseMethodDescriptor yX5_commonDivisor.desc).map (fun d => d.parameters.length) = some 2 := ⟨wd_1_2, wd_31_17, by decide +kernel, by decide +kernel, by decide +kernel⟩
theorem cy_yX5_sheet : Cond.initialized yX5_sheet.cls ∈ wsL_law ∧ Cond.code yX5_sheet cX5_sheet 4 (some .int) ∈ wsL_law ∧ yX5_sheet.cls ≠ "java/lang/invoke/MethodHandle" ∧ yX5_sheet.cls ≠ "java/lang/invoke/VarHandle" ∧ (parseMethodDescriptor yX5_sheet.desc).map (fun d => d.parameters.length) = some 3 := ⟨wd_1_2, wd_32_6, by decide +kernel, by decide +kernel, by decide +kernel⟩
theorem cy_yX5_lose : Cond.initialized yX5_lose.cls ∈ wsL_law ∧ Cond.code yX5_lose cX5_lose 3 (some .int) ∈ wsL_law ∧ yX5_lose.cls ≠ "java/lang/invoke/MethodHandle" ∧ yX5_lose.cls ≠ "java/lang/invoke/VarHandle" ∧ (parseMethodDescriptor yX5_lose.desc).map (fun d => d.parameters.length) = some 1 := ⟨wd_1_2, wd_32_20, by decide +kernel, by decide +kernel, by decide +kernel⟩
theorem cy_yX5_put : Cond.initialized yX5_put.cls ∈ wsL_law ∧ Cond.code yX5_put cX5_put 4 (some .int) ∈ wsL_law ∧ yX5_put.cls ≠ "java/lang/invoke/MethodHandle" ∧ yX5_put.cls ≠ "java/lang/invoke/VarHandle" ∧ (parseMethodDescriptor yX5_put.desc).map (fun d => d.parameters.length) = some 3 := ⟨wd_1_2, wd_33_4, by decide +kernel, by decide +kernel, by decide +kernel⟩
theorem cy_yX5_cell : Cond.initialized yX5_cell.cls ∈ wsL_law ∧ Cond.code yX5_cell cX5_cell 5 (some .long) ∈ wsL_law ∧ yX5_cell.cls ≠ "java/lang/invoke/MethodHandle" ∧ yX5_cell.cls ≠ "java/lang/invoke/VarHandle" ∧ (parseMethodDescriptor yX5_cell.desc).map (fun d => d.parameters.length) = some 3 := ⟨wd_1_2, wd_33_16, by decide +kernel, by decide +kernel, by decide +kernel⟩
theorem cy_yX5_copy : Cond.initialized yX5_copy.cls ∈ wsL_law ∧ Cond.code yX5_copy cX5_copy 8 (some .int) ∈ wsL_law ∧ yX5_copy.cls ≠ "java/lang/invoke/MethodHandle" ∧ yX5_copy.cls ≠ "java/lang/invoke/VarHandle" ∧ (parseMethodDescriptor yX5_copy.desc).map (fun d => d.parameters.length) = some 5 := ⟨wd_1_2, wd_34_4, by decide +kernel, by decide +kernel, by decide +kernel⟩
theorem cy_yX5_tell : Cond.initialized yX5_tell.cls ∈ wsL_law ∧ Cond.code yX5_tell cX5_tell 2 (some .int) ∈ wsL_law ∧ yX5_tell.cls ≠ "java/lang/invoke/MethodHandle" ∧ yX5_tell.cls ≠ "java/lang/invoke/VarHandle" ∧ (parseMethodDescriptor yX5_tell.desc).map (fun d => d.parameters.length) = some 1 := ⟨wd_1_2, wd_34_16, by decide +kernel, by decide +kernel, by decide +kernel⟩
theorem cy_yX5_shrimpBody : Cond.initialized yX5_shrimpBody.cls ∈ wsL_law ∧ Cond.code yX5_shrimpBody cX5_shrimpBody 2 (some .int) ∈ wsL_law ∧ yX5_shrimpBody.cls ≠ "java/lang/invoke/MethodHandle" ∧ yX5_shrimpBody.cls ≠ "java/lang/invoke/VarHandle" ∧ (parseMethodDescriptor yX5_shrimpBody.desc).map (fun d => d.parameters.length) = some 1 := ⟨wd_1_2, wd_34_20, by decide +kernel, by decide +kernel, by decide +kernel⟩
theorem cy_yX5_crabBody : Cond.initialized yX5_crabBody.cls ∈ wsL_law ∧ Cond.code yX5_crabBody cX5_crabBody 2 (some .int) ∈ wsL_law ∧ yX5_crabBody.cls ≠ "java/lang/invoke/MethodHandle" ∧ yX5_crabBody.cls ≠ "java/lang/invoke/VarHandle" ∧ (parseMethodDescriptor yX5_crabBody.desc).map (fun d => d.parameters.length) = some 1 := ⟨wd_1_2, wd_35_5, by decide +kernel, by decide +kernel, by decide +kernel⟩
theorem cy_yX5_limpetBody : Cond.initialized yX5_limpetBody.cls ∈ wsL_law ∧ Cond.code yX5_limpetBody cX5_limpetBody 3 (some .int) ∈ wsL_law ∧ yX5_limpetBody.cls ≠ "java/lang/invoke/MethodHandle" ∧ yX5_limpetBody.cls ≠ "java/lang/invoke/VarHandle" ∧ (parseMethodDescriptor yX5_limpetBody.desc).map (fun d => d.parameters.length) = some 1 := ⟨wd_1_2, wd_35_9, by decide +kernel, by decide +kernel, by decide +kernel⟩
theorem cy_yX5_name : Cond.initialized yX5_name.cls ∈ wsL_law ∧ Cond.code yX5_name cX5_name 3 (some .int) ∈ wsL_law ∧ yX5_name.cls ≠ "java/lang/invoke/MethodHandle" ∧ yX5_name.cls ≠ "java/lang/invoke/VarHandle" ∧ (parseMethodDescriptor yX5_name.desc).map (fun d => d.parameters.length) = some 1 := ⟨wd_1_2, wd_35_22, by decide +kernel, by decide +kernel, by decide +kernel⟩
theorem cy_yX5_leave : Cond.initialized yX5_leave.cls ∈ wsL_law ∧ Cond.code yX5_leave cX5_leave 2 none ∈ wsL_law ∧ yX5_leave.cls ≠ "java/lang/invoke/MethodHandle" ∧ yX5_leave.cls ≠ "java/lang/invoke/VarHandle" ∧ (parseMethodDescriptor yX5_leave.desc).map (fun d => d.parameters.length) = some 1 := ⟨wd_1_2, wd_35_0, by decide +kernel, by decide +kernel, by decide +kernel⟩
theorem cy_yX5_as : Cond.initialized yX5_as.cls ∈ wsL_law ∧ Cond.code yX5_as cX5_as 3 (some .int) ∈ wsL_law ∧ yX5_as.cls ≠ "java/lang/invoke/MethodHandle" ∧ yX5_as.cls ≠ "java/lang/invoke/VarHandle" ∧ (parseMethodDescriptor yX5_as.desc).map (fun d => d.parameters.length) = some 2 := ⟨wd_1_2, wd_36_6, by decide +kernel, by decide +kernel, by decide +kernel⟩
theorem cy_yX5_trace : Cond.initialized yX5_trace.cls ∈ wsL_law ∧ Cond.code yX5_trace cX5_trace 1 (some .int) ∈ wsL_law ∧ yX5_trace.cls ≠ "java/lang/invoke/MethodHandle" ∧ yX5_trace.cls ≠ "java/lang/invoke/VarHandle" ∧ (parseMethodDescriptor yX5_trace.desc).map (fun d => d.parameters.length) = some 0 := ⟨wd_1_2, wd_36_14, by decide +kernel, by decide +kernel, by decide +kernel⟩
theorem cy_yX5_fault : Cond.initialized yX5_fault.cls ∈ wsL_law ∧ Cond.code yX5_fault cX5_fault 1 (some .int) ∈ wsL_law ∧ yX5_fault.cls ≠ "java/lang/invoke/MethodHandle" ∧ yX5_fault.cls ≠ "java/lang/invoke/VarHandle" ∧ (parseMethodDescriptor yX5_fault.desc).map (fun d => d.parameters.length) = some 0 := ⟨wd_1_2, wd_36_22, by decide +kernel, by decide +kernel, by decide +kernel⟩
theorem cy_yX5_many : Cond.initialized yX5_many.cls ∈ wsL_law ∧ Cond.code yX5_many cX5_many 2 (some .int) ∈ wsL_law ∧ yX5_many.cls ≠ "java/lang/invoke/MethodHandle" ∧ yX5_many.cls ≠ "java/lang/invoke/VarHandle" ∧ (parseMethodDescriptor yX5_many.desc).map (fun d => d.parameters.length) = some 1 := ⟨wd_1_2, wd_37_6, by decide +kernel, by decide +kernel, by decide +kernel⟩
theorem cy_yX5_isWithin : Cond.initialized yX5_isWithin.cls ∈ wsL_law ∧ Cond.code yX5_isWithin cX5_isWithin 3 (some .boolean) ∈ wsL_law ∧ yX5_isWithin.cls ≠ "java/lang/invoke/MethodHandle" ∧ yX5_isWithin.cls ≠ "java/lang/invoke/VarHandle" ∧ (parseMethodDescriptor yX5_isWithin.desc).map (fun d => d.parameters.length) = some 3 := ⟨wd_1_2, wd_5_0, by decide +kernel, by decide +kernel, by decide +kernel⟩
theorem cy_yX5_isDigit : Cond.initialized yX5_isDigit.cls ∈ wsL_law ∧ Cond.code yX5_isDigit cX5_isDigit 1 (some .boolean) ∈ wsL_law ∧ yX5_isDigit.cls ≠ "java/lang/invoke/MethodHandle" ∧ yX5_isDigit.cls ≠ "java/lang/invoke/VarHandle" ∧ (parseMethodDescriptor yX5_isDigit.desc).map (fun d => d.parameters.length) = some 1 := ⟨wd_1_2, wd_14_11, by decide +kernel, by decide +kernel, by decide +kernel⟩
theorem cy_yX5_isSheet : Cond.initialized yX5_isSheet.cls ∈ wsL_law ∧ Cond.code yX5_isSheet cX5_isSheet 1 (some .boolean) ∈ wsL_law ∧ yX5_isSheet.cls ≠ "java/lang/invoke/MethodHandle" ∧ yX5_isSheet.cls ≠ "java/lang/invoke/VarHandle" ∧ (parseMethodDescriptor yX5_isSheet.desc).map (fun d => d.parameters.length) = some 1 := ⟨wd_1_2, wd_4_21, by decide +kernel, by decide +kernel, by decide +kernel⟩
theorem cy_yX5_isLane : Cond.initialized yX5_isLane.cls ∈ wsL_law ∧ Cond.code yX5_isLane cX5_isLane 1 (some .boolean) ∈ wsL_law ∧ yX5_isLane.cls ≠ "java/lang/invoke/MethodHandle" ∧ yX5_isLane.cls ≠ "java/lang/invoke/VarHandle" ∧ (parseMethodDescriptor yX5_isLane.desc).map (fun d => d.parameters.length) = some 1 := ⟨wd_1_2, wd_5_3, by decide +kernel, by decide +kernel, by decide +kernel⟩
theorem cy_yX5_isToldOfYears : Cond.initialized yX5_isToldOfYears.cls ∈ wsL_law ∧ Cond.code yX5_isToldOfYears cX5_isToldOfYears 1 (some .boolean) ∈ wsL_law ∧ yX5_isToldOfYears.cls ≠ "java/lang/invoke/MethodHandle" ∧ yX5_isToldOfYears.cls ≠ "java/lang/invoke/VarHandle" ∧ (parseMethodDescriptor yX5_isToldOfYears.desc).map (fun d => d.parameters.length) = some 1 := ⟨wd_1_2, wd_22_2, by decide +kernel, by decide +kernel, by decide +kernel⟩
theorem cy_yX5_oneIf : Cond.initialized yX5_oneIf.cls ∈ wsL_law ∧ Cond.code yX5_oneIf cX5_oneIf 1 (some .int) ∈ wsL_law ∧ yX5_oneIf.cls ≠ "java/lang/invoke/MethodHandle" ∧ yX5_oneIf.cls ≠ "java/lang/invoke/VarHandle" ∧ (parseMethodDescriptor yX5_oneIf.desc).map (fun d => d.parameters.length) = some 1 := ⟨wd_1_2, wd_18_21, by decide +kernel, by decide +kernel, by decide +kernel⟩
theorem cy_yX5_isPool : Cond.initialized yX5_isPool.cls ∈ wsL_law ∧ Cond.code yX5_isPool cX5_isPool 2 (some .boolean) ∈ wsL_law ∧ yX5_isPool.cls ≠ "java/lang/invoke/MethodHandle" ∧ yX5_isPool.cls ≠ "java/lang/invoke/VarHandle" ∧ (parseMethodDescriptor yX5_isPool.desc).map (fun d => d.parameters.length) = some 1 := ⟨wd_1_2, wd_11_5, by decide +kernel, by decide +kernel, by decide +kernel⟩
theorem cy_yX5_isMember : Cond.initialized yX5_isMember.cls ∈ wsL_law ∧ Cond.code yX5_isMember cX5_isMember 2 (some .boolean) ∈ wsL_law ∧ yX5_isMember.cls ≠ "java/lang/invoke/MethodHandle" ∧ yX5_isMember.cls ≠ "java/lang/invoke/VarHandle" ∧ (parseMethodDescriptor yX5_isMember.desc).map (fun d => d.parameters.length) = some 1 := ⟨wd_1_2, wd_13_4, by decide +kernel, by decide +kernel, by decide +kernel⟩
theorem cy_yX5_hasShore : Cond.initialized yX5_hasShore.cls ∈ wsL_law ∧ Cond.code yX5_hasShore cX5_hasShore 1 (some .boolean) ∈ wsL_law ∧ yX5_hasShore.cls ≠ "java/lang/invoke/MethodHandle" ∧ yX5_hasShore.cls ≠ "java/lang/invoke/VarHandle" ∧ (parseMethodDescriptor yX5_hasShore.desc).map (fun d => d.parameters.length) = some 0 := ⟨wd_1_2, wd_15_15, by decide +kernel, by decide +kernel, by decide +kernel⟩
theorem cy_yX5_refusalUnless : Cond.initialized yX5_refusalUnless.cls ∈ wsL_law ∧ Cond.code yX5_refusalUnless cX5_refusalUnless 2 (some .int) ∈ wsL_law ∧ yX5_refusalUnless.cls ≠ "java/lang/invoke/MethodHandle" ∧ yX5_refusalUnless.cls ≠ "java/lang/invoke/VarHandle" ∧ (parseMethodDescriptor yX5_refusalUnless.desc).map (fun d => d.parameters.length) = some 1 := ⟨wd_1_2, wd_15_11, by decide +kernel, by decide +kernel, by decide +kernel⟩
theorem cy_yX5_refusalOfRow : Cond.initialized yX5_refusalOfRow.cls ∈ wsL_law ∧ Cond.code yX5_refusalOfRow cX5_refusalOfRow 7 (some .int) ∈ wsL_law ∧ yX5_refusalOfRow.cls ≠ "java/lang/invoke/MethodHandle" ∧ yX5_refusalOfRow.cls ≠ "java/lang/invoke/VarHandle" ∧ (parseMethodDescriptor yX5_refusalOfRow.desc).map (fun d => d.parameters.length) = some 5 := ⟨wd_1_2, wd_22_6, by decide +kernel, by decide +kernel, by decide +kernel⟩
theorem cy_yX5_faulted : Cond.initialized yX5_faulted.cls ∈ wsL_law ∧ Cond.code yX5_faulted cX5_faulted 2 (some .int) ∈ wsL_law ∧ yX5_faulted.cls ≠ "java/lang/invoke/MethodHandle" ∧ yX5_faulted.cls ≠ "java/lang/invoke/VarHandle" ∧ (parseMethodDescriptor yX5_faulted.desc).map (fun d => d.parameters.length) = some 1 := ⟨wd_1_2, wd_5_17, by decide +kernel, by decide +kernel, by decide +kernel⟩
theorem cy_yX5_rowFault : Cond.initialized yX5_rowFault.cls ∈ wsL_law ∧ Cond.code yX5_rowFault cX5_rowFault 4 (some .int) ∈ wsL_law ∧ yX5_rowFault.cls ≠ "java/lang/invoke/MethodHandle" ∧ yX5_rowFault.cls ≠ "java/lang/invoke/VarHandle" ∧ (parseMethodDescriptor yX5_rowFault.desc).map (fun d => d.parameters.length) = some 4 := ⟨wd_1_2, wd_5_6, by decide +kernel, by decide +kernel, by decide +kernel⟩
theorem cy_yX5_swapShores : Cond.initialized yX5_swapShores.cls ∈ wsL_law ∧ Cond.code yX5_swapShores cX5_swapShores 2 none ∈ wsL_law ∧ yX5_swapShores.cls ≠ "java/lang/invoke/MethodHandle" ∧ yX5_swapShores.cls ≠ "java/lang/invoke/VarHandle" ∧ (parseMethodDescriptor yX5_swapShores.desc).map (fun d => d.parameters.length) = some 0 := ⟨wd_1_2, wd_8_9, by decide +kernel, by decide +kernel, by decide +kernel⟩
theorem cy_yX6_init : Cond.initialized yX6_init.cls ∈ wsL_law ∧ Cond.code yX6_init cX6_init 1 none ∈ wsL_law ∧ yX6_init.cls ≠ "java/lang/invoke/MethodHandle" ∧ yX6_init.cls ≠ "java/lang/invoke/VarHandle" ∧ (parseMethodDescriptor yX6_init.desc).map (fun d => d.parameters.length) = some 0 := ⟨wd_1_5, wd_3_16, by decide +kernel, by decide +kernel, by decide +kernel⟩
theorem cy_yX6_fails : Cond.initialized yX6_fails.cls ∈ wsL_law ∧ Cond.code yX6_fails cX6_fails 2 (some .int) ∈ wsL_law ∧ yX6_fails.cls ≠ "java/lang/invoke/MethodHandle" ∧ yX6_fails.cls ≠ "java/lang/invoke/VarHandle" ∧ (parseMethodDescriptor yX6_fails.desc).map (fun d => d.parameters.length) = some 1 := ⟨wd_1_5, wd_9_9, by decide +kernel, by decide +kernel, by decide +kernel⟩
theorem cy_yX6_lost : Cond.initialized yX6_lost.cls ∈ wsL_law ∧ Cond.code yX6_lost cX6_lost 2 (some .long) ∈ wsL_law ∧ yX6_lost.cls ≠ "java/lang/invoke/MethodHandle" ∧ yX6_lost.cls ≠ "java/lang/invoke/VarHandle" ∧ (parseMethodDescriptor yX6_lost.desc).map (fun d => d.parameters.length) = some 1 := ⟨wd_1_5, wd_34_0, by decide +kernel, by decide +kernel, by decide +kernel⟩
theorem cy_yX6_within : Cond.initialized yX6_within.cls ∈ wsL_law ∧ Cond.code yX6_within cX6_within 3 (some .boolean) ∈ wsL_law ∧ yX6_within.cls ≠ "java/lang/invoke/MethodHandle" ∧ yX6_within.cls ≠ "java/lang/invoke/VarHandle" ∧ (parseMethodDescriptor yX6_within.desc).map (fun d => d.parameters.length) = some 3 := ⟨wd_1_5, wd_8_22, by decide +kernel, by decide +kernel, by decide +kernel⟩
theorem cy_yX6_isSheet : Cond.initialized yX6_isSheet.cls ∈ wsL_law ∧ Cond.code yX6_isSheet cX6_isSheet 1 (some .boolean) ∈ wsL_law ∧ yX6_isSheet.cls ≠ "java/lang/invoke/MethodHandle" ∧ yX6_isSheet.cls ≠ "java/lang/invoke/VarHandle" ∧ (parseMethodDescriptor yX6_isSheet.desc).map (fun d => d.parameters.length) = some 1 := ⟨wd_1_5, wd_8_19, by decide +kernel, by decide +kernel, by decide +kernel⟩
theorem cy_yX6_isSort : Cond.initialized yX6_isSort.cls ∈ wsL_law ∧ Cond.code yX6_isSort cX6_isSort 1 (some .boolean) ∈ wsL_law ∧ yX6_isSort.cls ≠ "java/lang/invoke/MethodHandle" ∧ yX6_isSort.cls ≠ "java/lang/invoke/VarHandle" ∧ (parseMethodDescriptor yX6_isSort.desc).map (fun d => d.parameters.length) = some 1 := ⟨wd_1_5, wd_9_1, by decide +kernel, by decide +kernel, by decide +kernel⟩
theorem cy_yX6_against : Cond.initialized yX6_against.cls ∈ wsL_law ∧ Cond.code yX6_against cX6_against 5 (some .int) ∈ wsL_law ∧ yX6_against.cls ≠ "java/lang/invoke/MethodHandle" ∧ yX6_against.cls ≠ "java/lang/invoke/VarHandle" ∧ (parseMethodDescriptor yX6_against.desc).map (fun d => d.parameters.length) = some 4 := ⟨wd_1_5, wd_9_5, by decide +kernel, by decide +kernel, by decide +kernel⟩
theorem cy_yX6_isPool : Cond.initialized yX6_isPool.cls ∈ wsL_law ∧ Cond.code yX6_isPool cX6_isPool 2 (some .boolean) ∈ wsL_law ∧ yX6_isPool.cls ≠ "java/lang/invoke/MethodHandle" ∧ yX6_isPool.cls ≠ "java/lang/invoke/VarHandle" ∧ (parseMethodDescriptor yX6_isPool.desc).map (fun d => d.parameters.length) = some 1 := ⟨wd_1_5, wd_12_10, by decide +kernel, by decide +kernel, by decide +kernel⟩
theorem cy_yX6_isMember : Cond.initialized yX6_isMember.cls ∈ wsL_law ∧ Cond.code yX6_isMember cX6_isMember 2 (some .boolean) ∈ wsL_law ∧ yX6_isMember.cls ≠ "java/lang/invoke/MethodHandle" ∧ yX6_isMember.cls ≠ "java/lang/invoke/VarHandle" ∧ (parseMethodDescriptor yX6_isMember.desc).map (fun d => d.parameters.length) = some 1 := ⟨wd_1_5, wd_13_16, by decide +kernel, by decide +kernel, by decide +kernel⟩
theorem cy_yX6_isDigit : Cond.initialized yX6_isDigit.cls ∈ wsL_law ∧ Cond.code yX6_isDigit cX6_isDigit 1 (some .boolean) ∈ wsL_law ∧ yX6_isDigit.cls ≠ "java/lang/invoke/MethodHandle" ∧ yX6_isDigit.cls ≠ "java/lang/invoke/VarHandle" ∧ (parseMethodDescriptor yX6_isDigit.desc).map (fun d => d.parameters.length) = some 1 := ⟨wd_1_5, wd_14_18, by decide +kernel, by decide +kernel, by decide +kernel⟩
theorem cy_yX6_digit : Cond.initialized yX6_digit.cls ∈ wsL_law ∧ Cond.code yX6_digit cX6_digit 4 (some .int) ∈ wsL_law ∧ yX6_digit.cls ≠ "java/lang/invoke/MethodHandle" ∧ yX6_digit.cls ≠ "java/lang/invoke/VarHandle" ∧ (parseMethodDescriptor yX6_digit.desc).map (fun d => d.parameters.length) = some 3 := ⟨wd_1_5, wd_10_2, by decide +kernel, by decide +kernel, by decide +kernel⟩
theorem cy_yX6_isSign : Cond.initialized yX6_isSign.cls ∈ wsL_law ∧ Cond.code yX6_isSign cX6_isSign 3 (some .boolean) ∈ wsL_law ∧ yX6_isSign.cls ≠ "java/lang/invoke/MethodHandle" ∧ yX6_isSign.cls ≠ "java/lang/invoke/VarHandle" ∧ (parseMethodDescriptor yX6_isSign.desc).map (fun d => d.parameters.length) = some 2 := ⟨wd_1_5, wd_9_22, by decide +kernel, by decide +kernel, by decide +kernel⟩
theorem cy_yX6_shore : Cond.initialized yX6_shore.cls ∈ wsL_law ∧ Cond.code yX6_shore cX6_shore 7 (some .int) ∈ wsL_law ∧ yX6_shore.cls ≠ "java/lang/invoke/MethodHandle" ∧ yX6_shore.cls ≠ "java/lang/invoke/VarHandle" ∧ (parseMethodDescriptor yX6_shore.desc).map (fun d => d.parameters.length) = some 4 := ⟨wd_1_5, wd_8_13, by decide +kernel, by decide +kernel, by decide +kernel⟩
theorem cy_yX6_takeShore : Cond.initialized yX6_takeShore.cls ∈ wsL_law ∧ Cond.code yX6_takeShore cX6_takeShore 2 none ∈ wsL_law ∧ yX6_takeShore.cls ≠ "java/lang/invoke/MethodHandle" ∧ yX6_takeShore.cls ≠ "java/lang/invoke/VarHandle" ∧ (parseMethodDescriptor yX6_takeShore.desc).map (fun d => d.parameters.length) = some 0 := ⟨wd_1_5, wd_10_14, by decide +kernel, by decide +kernel, by decide +kernel⟩
theorem cy_yX6_readShore : Cond.initialized yX6_readShore.cls ∈ wsL_law ∧ Cond.code yX6_readShore cX6_readShore 2 (some .boolean) ∈ wsL_law ∧ yX6_readShore.cls ≠ "java/lang/invoke/MethodHandle" ∧ yX6_readShore.cls ≠ "java/lang/invoke/VarHandle" ∧ (parseMethodDescriptor yX6_readShore.desc).map (fun d => d.parameters.length) = some 1 := ⟨wd_1_5, wd_9_13, by decide +kernel, by decide +kernel, by decide +kernel⟩
theorem cy_yX6_readPool : Cond.initialized yX6_readPool.cls ∈ wsL_law ∧ Cond.code yX6_readPool cX6_readPool 2 (some .boolean) ∈ wsL_law ∧ yX6_readPool.cls ≠ "java/lang/invoke/MethodHandle" ∧ yX6_readPool.cls ≠ "java/lang/invoke/VarHandle" ∧ (parseMethodDescriptor yX6_readPool.desc).map (fun d => d.parameters.length) = some 1 := ⟨wd_1_5, wd_10_6, by decide +kernel, by decide +kernel, by decide +kernel⟩
theorem cy_yX6_readMember : Cond.initialized yX6_readMember.cls ∈ wsL_law ∧ Cond.code yX6_readMember cX6_readMember 3 (some .boolean) ∈ wsL_law ∧ yX6_readMember.cls ≠ "java/lang/invoke/MethodHandle" ∧ yX6_readMember.cls ≠ "java/lang/invoke/VarHandle" ∧ (parseMethodDescriptor yX6_readMember.desc).map (fun d => d.parameters.length) = some 1 := ⟨wd_1_5, wd_10_10, by decide +kernel, by decide +kernel, by decide +kernel⟩
theorem cy_yX6_sitters : Cond.initialized yX6_sitters.cls ∈ wsL_law ∧ Cond.code yX6_sitters cX6_sitters 4 (some .int) ∈ wsL_law ∧ yX6_sitters.cls ≠ "java/lang/invoke/MethodHandle" ∧ yX6_sitters.cls ≠ "java/lang/invoke/VarHandle" ∧ (parseMethodDescriptor yX6_sitters.desc).map (fun d => d.parameters.length) = some 1 := ⟨wd_1_5, wd_12_14, by decide +kernel, by decide +kernel, by decide +kernel⟩
theorem cy_yX6_size : Cond.initialized yX6_size.cls ∈ wsL_law ∧ Cond.code yX6_size cX6_size 3 (some .int) ∈ wsL_law ∧ yX6_size.cls ≠ "java/lang/invoke/MethodHandle" ∧ yX6_size.cls ≠ "java/lang/invoke/VarHandle" ∧ (parseMethodDescriptor yX6_size.desc).map (fun d => d.parameters.length) = some 1 := ⟨wd_1_5, wd_12_17, by decide +kernel, by decide +kernel, by decide +kernel⟩
theorem cy_yX6_farOf : Cond.initialized yX6_farOf.cls ∈ wsL_law ∧ Cond.code yX6_farOf cX6_farOf 2 (some .int) ∈ wsL_law ∧ yX6_farOf.cls ≠ "java/lang/invoke/MethodHandle" ∧ yX6_farOf.cls ≠ "java/lang/invoke/VarHandle" ∧ (parseMethodDescriptor yX6_farOf.desc).map (fun d => d.parameters.length) = some 1 := ⟨wd_1_5, wd_13_20, by decide +kernel, by decide +kernel, by decide +kernel⟩
theorem cy_yX6_ofPool : Cond.initialized yX6_ofPool.cls ∈ wsL_law ∧ Cond.code yX6_ofPool cX6_ofPool 3 (some .int) ∈ wsL_law ∧ yX6_ofPool.cls ≠ "java/lang/invoke/MethodHandle" ∧ yX6_ofPool.cls ≠ "java/lang/invoke/VarHandle" ∧ (parseMethodDescriptor yX6_ofPool.desc).map (fun d => d.parameters.length) = some 2 := ⟨wd_1_5, wd_12_6, by decide +kernel, by decide +kernel, by decide +kernel⟩
theorem cy_yX6_ofMember : Cond.initialized yX6_ofMember.cls ∈ wsL_law ∧ Cond.code yX6_ofMember cX6_ofMember 3 (some .int) ∈ wsL_law ∧ yX6_ofMember.cls ≠ "java/lang/invoke/MethodHandle" ∧ yX6_ofMember.cls ≠ "java/lang/invoke/VarHandle" ∧ (parseMethodDescriptor yX6_ofMember.desc).map (fun d => d.parameters.length) = some 2 := ⟨wd_1_5, wd_13_12, by decide +kernel, by decide +kernel, by decide +kernel⟩
theorem cy_yX6_raise : Cond.initialized yX6_raise.cls ∈ wsL_law ∧ Cond.code yX6_raise cX6_raise 4 (some .int) ∈ wsL_law ∧ yX6_raise.cls ≠ "java/lang/invoke/MethodHandle" ∧ yX6_raise.cls ≠ "java/lang/invoke/VarHandle" ∧ (parseMethodDescriptor yX6_raise.desc).map (fun d => d.parameters.length) = some 2 := ⟨wd_1_5, wd_14_4, by decide +kernel, by decide +kernel, by decide +kernel⟩
theorem cy_yX6_sway : Cond.initialized yX6_sway.cls ∈ wsL_law ∧ Cond.code yX6_sway cX6_sway 4 (some .int) ∈ wsL_law ∧ yX6_sway.cls ≠ "java/lang/invoke/MethodHandle" ∧ yX6_sway.cls ≠ "java/lang/invoke/VarHandle" ∧ (parseMethodDescriptor yX6_sway.desc).map (fun d => d.parameters.length) = some 2 := ⟨wd_1_5, wd_14_15, by decide +kernel, by decide +kernel, by decide +kernel⟩
theorem cy_yX6_seat : Cond.initialized yX6_seat.cls ∈ wsL_law ∧ Cond.code yX6_seat cX6_seat 4 (some .int) ∈ wsL_law ∧ yX6_seat.cls ≠ "java/lang/invoke/MethodHandle" ∧ yX6_seat.cls ≠ "java/lang/invoke/VarHandle" ∧ (parseMethodDescriptor yX6_seat.desc).map (fun d => d.parameters.length) = some 2 := ⟨wd_1_5, wd_15_2, by decide +kernel, by decide +kernel, by decide +kernel⟩
theorem cy_yX6_flow : Cond.initialized yX6_flow.cls ∈ wsL_law ∧ Cond.code yX6_flow cX6_flow 3 (some .int) ∈ wsL_law ∧ yX6_flow.cls ≠ "java/lang/invoke/MethodHandle" ∧ yX6_flow.cls ≠ "java/lang/invoke/VarHandle" ∧ (parseMethodDescriptor yX6_flow.desc).map (fun d => d.parameters.length) = some 1 := ⟨wd_1_5, wd_15_19, by decide +kernel, by decide +kernel, by decide +kernel⟩
theorem cy_yX6_calm : Cond.initialized yX6_calm.cls ∈ wsL_law ∧ Cond.code yX6_calm cX6_calm 3 (some .int) ∈ wsL_law ∧ yX6_calm.cls ≠ "java/lang/invoke/MethodHandle" ∧ yX6_calm.cls ≠ "java/lang/invoke/VarHandle" ∧ (parseMethodDescriptor yX6_calm.desc).map (fun d => d.parameters.length) = some 1 := ⟨wd_1_5, wd_16_4, by decide +kernel, by decide +kernel, by decide +kernel⟩
theorem cy_yX6_leap : Cond.initialized yX6_leap.cls ∈ wsL_law ∧ Cond.code yX6_leap cX6_leap 3 (some .int) ∈ wsL_law ∧ yX6_leap.cls ≠ "java/lang/invoke/MethodHandle" ∧ yX6_leap.cls ≠ "java/lang/invoke/VarHandle" ∧ (parseMethodDescriptor yX6_leap.desc).map (fun d => d.parameters.length) = some 1 := ⟨wd_1_5, wd_16_13, by decide +kernel, by decide +kernel, by decide +kernel⟩
theorem cy_yX6_washedBy : Cond.initialized yX6_washedBy.cls ∈ wsL_law ∧ Cond.code yX6_washedBy cX6_washedBy 4 (some .int) ∈ wsL_law ∧ yX6_washedBy.cls ≠ "java/lang/invoke/MethodHandle" ∧ yX6_washedBy.cls ≠ "java/lang/invoke/VarHandle" ∧ (parseMethodDescriptor yX6_washedBy.desc).map (fun d => d.parameters.length) = some 1 := ⟨wd_1_5, wd_17_9, by decide +kernel, by decide +kernel, by decide +kernel⟩
theorem cy_yX6_carriedFrom : Cond.initialized yX6_carriedFrom.cls ∈ wsL_law ∧ Cond.code yX6_carriedFrom cX6_carriedFrom 6 (some .int) ∈ wsL_law ∧ yX6_carriedFrom.cls ≠ "java/lang/invoke/MethodHandle" ∧ yX6_carriedFrom.cls ≠ "java/lang/invoke/VarHandle" ∧ (parseMethodDescriptor yX6_carriedFrom.desc).map (fun d => d.parameters.length) = some 3 := ⟨wd_1_5, wd_18_10, by decide +kernel, by decide +kernel, by decide +kernel⟩
theorem cy_yX6_washed : Cond.initialized yX6_washed.cls ∈ wsL_law ∧ Cond.code yX6_washed cX6_washed 2 (some .int) ∈ wsL_law ∧ yX6_washed.cls ≠ "java/lang/invoke/MethodHandle" ∧ yX6_washed.cls ≠ "java/lang/invoke/VarHandle" ∧ (parseMethodDescriptor yX6_washed.desc).map (fun d => d.parameters.length) = some 1 := ⟨wd_1_5, wd_17_5, by decide +kernel, by decide +kernel, by decide +kernel⟩
theorem cy_yX6_carried : Cond.initialized yX6_carried.cls ∈ wsL_law ∧ Cond.code yX6_carried cX6_carried 3 (some .int) ∈ wsL_law ∧ yX6_carried.cls ≠ "java/lang/invoke/MethodHandle" ∧ yX6_carried.cls ≠ "java/lang/invoke/VarHandle" ∧ (parseMethodDescriptor yX6_carried.desc).map (fun d => d.parameters.length) = some 2 := ⟨wd_1_5, wd_18_6, by decide +kernel, by decide +kernel, by decide +kernel⟩
theorem cy_yX6_carryAll : Cond.initialized yX6_carryAll.cls ∈ wsL_law ∧ Cond.code yX6_carryAll cX6_carryAll 5 (some .int) ∈ wsL_law ∧ yX6_carryAll.cls ≠ "java/lang/invoke/MethodHandle" ∧ yX6_carryAll.cls ≠ "java/lang/invoke/VarHandle" ∧ (parseMethodDescriptor yX6_carryAll.desc).map (fun d => d.parameters.length) = some 1 := ⟨wd_1_5, wd_19_5, by decide +kernel, by decide +kernel, by decide +kernel⟩
theorem cy_yX6_tide : Cond.initialized yX6_tide.cls ∈ wsL_law ∧ Cond.code yX6_tide cX6_tide 2 (some .int) ∈ wsL_law ∧ yX6_tide.cls ≠ "java/lang/invoke/MethodHandle" ∧ yX6_tide.cls ≠ "java/lang/invoke/VarHandle" ∧ (parseMethodDescriptor yX6_tide.desc).map (fun d => d.parameters.length) = some 1 := ⟨wd_1_5, wd_19_1, by decide +kernel, by decide +kernel, by decide +kernel⟩
theorem cy_yX6_ayesOf : Cond.initialized yX6_ayesOf.cls ∈ wsL_law ∧ Cond.code yX6_ayesOf cX6_ayesOf 5 (some .int) ∈ wsL_law ∧ yX6_ayesOf.cls ≠ "java/lang/invoke/MethodHandle" ∧ yX6_ayesOf.cls ≠ "java/lang/invoke/VarHandle" ∧ (parseMethodDescriptor yX6_ayesOf.desc).map (fun d => d.parameters.length) = some 1 := ⟨wd_1_5, wd_20_1, by decide +kernel, by decide +kernel, by decide +kernel⟩
theorem cy_yX6_passesBy : Cond.initialized yX6_passesBy.cls ∈ wsL_law ∧ Cond.code yX6_passesBy cX6_passesBy 5 (some .int) ∈ wsL_law ∧ yX6_passesBy.cls ≠ "java/lang/invoke/MethodHandle" ∧ yX6_passesBy.cls ≠ "java/lang/invoke/VarHandle" ∧ (parseMethodDescriptor yX6_passesBy.desc).map (fun d => d.parameters.length) = some 1 := ⟨wd_1_5, wd_20_17, by decide +kernel, by decide +kernel, by decide +kernel⟩
theorem cy_yX6_occupied : Cond.initialized yX6_occupied.cls ∈ wsL_law ∧ Cond.code yX6_occupied cX6_occupied 3 (some .int) ∈ wsL_law ∧ yX6_occupied.cls ≠ "java/lang/invoke/MethodHandle" ∧ yX6_occupied.cls ≠ "java/lang/invoke/VarHandle" ∧ (parseMethodDescriptor yX6_occupied.desc).map (fun d => d.parameters.length) = some 0 := ⟨wd_1_5, wd_21_19, by decide +kernel, by decide +kernel, by decide +kernel⟩
theorem cy_yX6_isLawBy : Cond.initialized yX6_isLawBy.cls ∈ wsL_law ∧ Cond.code yX6_isLawBy cX6_isLawBy 2 (some .boolean) ∈ wsL_law ∧ yX6_isLawBy.cls ≠ "java/lang/invoke/MethodHandle" ∧ yX6_isLawBy.cls ≠ "java/lang/invoke/VarHandle" ∧ (parseMethodDescriptor yX6_isLawBy.desc).map (fun d => d.parameters.length) = some 1 := ⟨wd_1_5, wd_21_15, by decide +kernel, by decide +kernel, by decide +kernel⟩
theorem cy_yX6_ayes : Cond.initialized yX6_ayes.cls ∈ wsL_law ∧ Cond.code yX6_ayes cX6_ayes 2 (some .int) ∈ wsL_law ∧ yX6_ayes.cls ≠ "java/lang/invoke/MethodHandle" ∧ yX6_ayes.cls ≠ "java/lang/invoke/VarHandle" ∧ (parseMethodDescriptor yX6_ayes.desc).map (fun d => d.parameters.length) = some 1 := ⟨wd_1_5, wd_19_21, by decide +kernel, by decide +kernel, by decide +kernel⟩
theorem cy_yX6_passes : Cond.initialized yX6_passes.cls ∈ wsL_law ∧ Cond.code yX6_passes cX6_passes 2 (some .int) ∈ wsL_law ∧ yX6_passes.cls ≠ "java/lang/invoke/MethodHandle" ∧ yX6_passes.cls ≠ "java/lang/invoke/VarHandle" ∧ (parseMethodDescriptor yX6_passes.desc).map (fun d => d.parameters.length) = some 1 := ⟨wd_1_5, wd_20_13, by decide +kernel, by decide +kernel, by decide +kernel⟩
theorem cy_yX6_law : Cond.initialized yX6_law.cls ∈ wsL_law ∧ Cond.code yX6_law cX6_law 2 (some .int) ∈ wsL_law ∧ yX6_law.cls ≠ "java/lang/invoke/MethodHandle" ∧ yX6_law.cls ≠ "java/lang/invoke/VarHandle" ∧ (parseMethodDescriptor yX6_law.desc).map (fun d => d.parameters.length) = some 1 := ⟨wd_1_5, wd_21_11, by decide +kernel, by decide +kernel, by decide +kernel⟩
theorem cy_yX6_goYear : Cond.initialized yX6_goYear.cls ∈ wsL_law ∧ Cond.code yX6_goYear cX6_goYear 4 (some .int) ∈ wsL_law ∧ yX6_goYear.cls ≠ "java/lang/invoke/MethodHandle" ∧ yX6_goYear.cls ≠ "java/lang/invoke/VarHandle" ∧ (parseMethodDescriptor yX6_goYear.desc).map (fun d => d.parameters.length) = some 2 := ⟨wd_1_5, wd_23_16, by decide +kernel, by decide +kernel, by decide +kernel⟩
theorem cy_yX6_year : Cond.initialized yX6_year.cls ∈ wsL_law ∧ Cond.code yX6_year cX6_year 11 (some .int) ∈ wsL_law ∧ yX6_year.cls ≠ "java/lang/invoke/MethodHandle" ∧ yX6_year.cls ≠ "java/lang/invoke/VarHandle" ∧ (parseMethodDescriptor yX6_year.desc).map (fun d => d.parameters.length) = some 5 := ⟨wd_1_5, wd_23_12, by decide +kernel, by decide +kernel, by decide +kernel⟩
theorem cy_yX6_tellYear : Cond.initialized yX6_tellYear.cls ∈ wsL_law ∧ Cond.code yX6_tellYear cX6_tellYear 4 (some .int) ∈ wsL_law ∧ yX6_tellYear.cls ≠ "java/lang/invoke/MethodHandle" ∧ yX6_tellYear.cls ≠ "java/lang/invoke/VarHandle" ∧ (parseMethodDescriptor yX6_tellYear.desc).map (fun d => d.parameters.length) = some 1 := ⟨wd_1_5, wd_23_21, by decide +kernel, by decide +kernel, by decide +kernel⟩
theorem cy_yX6_best : Cond.initialized yX6_best.cls ∈ wsL_law ∧ Cond.code yX6_best cX6_best 6 (some .int) ∈ wsL_law ∧ yX6_best.cls ≠ "java/lang/invoke/MethodHandle" ∧ yX6_best.cls ≠ "java/lang/invoke/VarHandle" ∧ (parseMethodDescriptor yX6_best.desc).map (fun d => d.parameters.length) = some 1 := ⟨wd_1_5, wd_24_6, by decide +kernel, by decide +kernel, by decide +kernel⟩
theorem cy_yX6_turn : Cond.initialized yX6_turn.cls ∈ wsL_law ∧ Cond.code yX6_turn cX6_turn 5 (some .int) ∈ wsL_law ∧ yX6_turn.cls ≠ "java/lang/invoke/MethodHandle" ∧ yX6_turn.cls ≠ "java/lang/invoke/VarHandle" ∧ (parseMethodDescriptor yX6_turn.desc).map (fun d => d.parameters.length) = some 1 := ⟨wd_1_5, wd_24_18, by decide +kernel, by decide +kernel, by decide +kernel⟩
theorem cy_yX6_driftOf : Cond.initialized yX6_driftOf.cls ∈ wsL_law ∧ Cond.code yX6_driftOf cX6_driftOf 9 (some .int) ∈ wsL_law ∧ yX6_driftOf.cls ≠ "java/lang/invoke/MethodHandle" ∧ yX6_driftOf.cls ≠ "java/lang/invoke/VarHandle" ∧ (parseMethodDescriptor yX6_driftOf.desc).map (fun d => d.parameters.length) = some 3 := ⟨wd_1_5, wd_25_18, by decide +kernel, by decide +kernel, by decide +kernel⟩
theorem cy_yX6_drift : Cond.initialized yX6_drift.cls ∈ wsL_law ∧ Cond.code yX6_drift cX6_drift 11 (some .int) ∈ wsL_law ∧ yX6_drift.cls ≠ "java/lang/invoke/MethodHandle" ∧ yX6_drift.cls ≠ "java/lang/invoke/VarHandle" ∧ (parseMethodDescriptor yX6_drift.desc).map (fun d => d.parameters.length) = some 6 := ⟨wd_1_5, wd_25_14, by decide +kernel, by decide +kernel, by decide +kernel⟩
theorem cy_yX6_isLeap : Cond.initialized yX6_isLeap.cls ∈ wsL_law ∧ Cond.code yX6_isLeap cX6_isLeap 4 (some .boolean) ∈ wsL_law ∧ yX6_isLeap.cls ≠ "java/lang/invoke/MethodHandle" ∧ yX6_isLeap.cls ≠ "java/lang/invoke/VarHandle" ∧ (parseMethodDescriptor yX6_isLeap.desc).map (fun d => d.parameters.length) = some 2 := ⟨wd_1_5, wd_27_22, by decide +kernel, by decide +kernel, by decide +kernel⟩
theorem cy_yX6_findLeaps : Cond.initialized yX6_findLeaps.cls ∈ wsL_law ∧ Cond.code yX6_findLeaps cX6_findLeaps 5 none ∈ wsL_law ∧ yX6_findLeaps.cls ≠ "java/lang/invoke/MethodHandle" ∧ yX6_findLeaps.cls ≠ "java/lang/invoke/VarHandle" ∧ (parseMethodDescriptor yX6_findLeaps.desc).map (fun d => d.parameters.length) = some 1 := ⟨wd_1_5, wd_27_18, by decide +kernel, by decide +kernel, by decide +kernel⟩
theorem cy_yX6_nextLeap : Cond.initialized yX6_nextLeap.cls ∈ wsL_law ∧ Cond.code yX6_nextLeap cX6_nextLeap 3 (some .int) ∈ wsL_law ∧ yX6_nextLeap.cls ≠ "java/lang/invoke/MethodHandle" ∧ yX6_nextLeap.cls ≠ "java/lang/invoke/VarHandle" ∧ (parseMethodDescriptor yX6_nextLeap.desc).map (fun d => d.parameters.length) = some 1 := ⟨wd_1_5, wd_28_2, by decide +kernel, by decide +kernel, by decide +kernel⟩
theorem cy_yX6_leaps : Cond.initialized yX6_leaps.cls ∈ wsL_law ∧ Cond.code yX6_leaps cX6_leaps 6 (some .int) ∈ wsL_law ∧ yX6_leaps.cls ≠ "java/lang/invoke/MethodHandle" ∧ yX6_leaps.cls ≠ "java/lang/invoke/VarHandle" ∧ (parseMethodDescriptor yX6_leaps.desc).map (fun d => d.parameters.length) = some 3 := ⟨wd_1_5, wd_27_14, by decide +kernel, by decide +kernel, by decide +kernel⟩
theorem cy_yX6_findTides : Cond.initialized yX6_findTides.cls ∈ wsL_law ∧ Cond.code yX6_findTides cX6_findTides 6 none ∈ wsL_law ∧ yX6_findTides.cls ≠ "java/lang/invoke/MethodHandle" ∧ yX6_findTides.cls ≠ "java/lang/invoke/VarHandle" ∧ (parseMethodDescriptor yX6_findTides.desc).map (fun d => d.parameters.length) = some 2 := ⟨wd_1_5, wd_28_19, by decide +kernel, by decide +kernel, by decide +kernel⟩
theorem cy_yX6_nextTide : Cond.initialized yX6_nextTide.cls ∈ wsL_law ∧ Cond.code yX6_nextTide cX6_nextTide 4 (some .int) ∈ wsL_law ∧ yX6_nextTide.cls ≠ "java/lang/invoke/MethodHandle" ∧ yX6_nextTide.cls ≠ "java/lang/invoke/VarHandle" ∧ (parseMethodDescriptor yX6_nextTide.desc).map (fun d => d.parameters.length) = some 2 := ⟨wd_1_5, wd_28_23, by decide +kernel, by decide +kernel, by decide +kernel⟩
theorem cy_yX6_elect : Cond.initialized yX6_elect.cls ∈ wsL_law ∧ Cond.code yX6_elect cX6_elect 8 (some .int) ∈ wsL_law ∧ yX6_elect.cls ≠ "java/lang/invoke/MethodHandle" ∧ yX6_elect.cls ≠ "java/lang/invoke/VarHandle" ∧ (parseMethodDescriptor yX6_elect.desc).map (fun d => d.parameters.length) = some 3 := ⟨wd_1_5, wd_28_15, by decide +kernel, by decide +kernel, by decide +kernel⟩
theorem cy_yX6_reading : Cond.initialized yX6_reading.cls ∈ wsL_law ∧ Cond.code yX6_reading cX6_reading 4 (some .int) ∈ wsL_law ∧ yX6_reading.cls ≠ "java/lang/invoke/MethodHandle" ∧ yX6_reading.cls ≠ "java/lang/invoke/VarHandle" ∧ (parseMethodDescriptor yX6_reading.desc).map (fun d => d.parameters.length) = some 3 := ⟨wd_1_5, wd_29_12, by decide +kernel, by decide +kernel, by decide +kernel⟩
theorem cy_yX6_back : Cond.initialized yX6_back.cls ∈ wsL_law ∧ Cond.code yX6_back cX6_back 2 (some .int) ∈ wsL_law ∧ yX6_back.cls ≠ "java/lang/invoke/MethodHandle" ∧ yX6_back.cls ≠ "java/lang/invoke/VarHandle" ∧ (parseMethodDescriptor yX6_back.desc).map (fun d => d.parameters.length) = some 1 := ⟨wd_1_5, wd_29_20, by decide +kernel, by decide +kernel, by decide +kernel⟩
theorem cy_yX6_areSo : Cond.initialized yX6_areSo.cls ∈ wsL_law ∧ Cond.code yX6_areSo cX6_areSo 3 (some .boolean) ∈ wsL_law ∧ yX6_areSo.cls ≠ "java/lang/invoke/MethodHandle" ∧ yX6_areSo.cls ≠ "java/lang/invoke/VarHandle" ∧ (parseMethodDescriptor yX6_areSo.desc).map (fun d => d.parameters.length) = some 0 := ⟨wd_1_5, wd_30_13, by decide +kernel, by decide +kernel, by decide +kernel⟩
theorem cy_yX6_heights : Cond.initialized yX6_heights.cls ∈ wsL_law ∧ Cond.code yX6_heights cX6_heights 5 (some .int) ∈ wsL_law ∧ yX6_heights.cls ≠ "java/lang/invoke/MethodHandle" ∧ yX6_heights.cls ≠ "java/lang/invoke/VarHandle" ∧ (parseMethodDescriptor yX6_heights.desc).map (fun d => d.parameters.length) = some 1 := ⟨wd_1_5, wd_30_9, by decide +kernel, by decide +kernel, by decide +kernel⟩
theorem cy_yX6_kinds : Cond.initialized yX6_kinds.cls ∈ wsL_law ∧ Cond.code yX6_kinds cX6_kinds 5 (some .int) ∈ wsL_law ∧ yX6_kinds.cls ≠ "java/lang/invoke/MethodHandle" ∧ yX6_kinds.cls ≠ "java/lang/invoke/VarHandle" ∧ (parseMethodDescriptor yX6_kinds.desc).map (fun d => d.parameters.length) = some 1 := ⟨wd_1_5, wd_30_21, by decide +kernel, by decide +kernel, by decide +kernel⟩
theorem cy_yX6_streams : Cond.initialized yX6_streams.cls ∈ wsL_law ∧ Cond.code yX6_streams cX6_streams 4 (some .int) ∈ wsL_law ∧ yX6_streams.cls ≠ "java/lang/invoke/MethodHandle" ∧ yX6_streams.cls ≠ "java/lang/invoke/VarHandle" ∧ (parseMethodDescriptor yX6_streams.desc).map (fun d => d.parameters.length) = some 0 := ⟨wd_1_5, wd_31_5, by decide +kernel, by decide +kernel, by decide +kernel⟩
theorem cy_yX6_inLeastTerms : Cond.initialized yX6_inLeastTerms.cls ∈ wsL_law ∧ Cond.code yX6_inLeastTerms cX6_inLeastTerms 11 (some .long) ∈ wsL_law ∧ yX6_inLeastTerms.cls ≠ "java/lang/invoke/MethodHandle" ∧ yX6_inLeastTerms.cls ≠ "java/lang/invoke/VarHandle" ∧ (parseMethodDescriptor yX6_inLeastTerms.desc).map (fun d => d.parameters.length) = some 3 := ⟨wd_1_5, wd_32_2, by decide +kernel, by decide +kernel, by decide +kernel⟩
theorem cy_yX6_odds : Cond.initialized yX6_odds.cls ∈ wsL_law ∧ Cond.code yX6_odds cX6_odds 8 (some .long) ∈ wsL_law ∧ yX6_odds.cls ≠ "java/lang/invoke/MethodHandle" ∧ yX6_odds.cls ≠ "java/lang/invoke/VarHandle" ∧ (parseMethodDescriptor yX6_odds.desc).map (fun d => d.parameters.length) = some 3 := ⟨wd_1_5, wd_31_21, by decide +kernel, by decide +kernel, by decide +kernel⟩
theorem cy_yX6_sheet : Cond.initialized yX6_sheet.cls ∈ wsL_law ∧ Cond.code yX6_sheet cX6_sheet 5 (some .int) ∈ wsL_law ∧ yX6_sheet.cls ≠ "java/lang/invoke/MethodHandle" ∧ yX6_sheet.cls ≠ "java/lang/invoke/VarHandle" ∧ (parseMethodDescriptor yX6_sheet.desc).map (fun d => d.parameters.length) = some 3 := ⟨wd_1_5, wd_32_16, by decide +kernel, by decide +kernel, by decide +kernel⟩
theorem cy_yX6_lose : Cond.initialized yX6_lose.cls ∈ wsL_law ∧ Cond.code yX6_lose cX6_lose 3 (some .int) ∈ wsL_law ∧ yX6_lose.cls ≠ "java/lang/invoke/MethodHandle" ∧ yX6_lose.cls ≠ "java/lang/invoke/VarHandle" ∧ (parseMethodDescriptor yX6_lose.desc).map (fun d => d.parameters.length) = some 1 := ⟨wd_1_5, wd_33_0, by decide +kernel, by decide +kernel, by decide +kernel⟩
theorem cy_yX6_put : Cond.initialized yX6_put.cls ∈ wsL_law ∧ Cond.code yX6_put cX6_put 4 (some .int) ∈ wsL_law ∧ yX6_put.cls ≠ "java/lang/invoke/MethodHandle" ∧ yX6_put.cls ≠ "java/lang/invoke/VarHandle" ∧ (parseMethodDescriptor yX6_put.desc).map (fun d => d.parameters.length) = some 3 := ⟨wd_1_5, wd_33_12, by decide +kernel, by decide +kernel, by decide +kernel⟩
theorem cy_yX6_cell : Cond.initialized yX6_cell.cls ∈ wsL_law ∧ Cond.code yX6_cell cX6_cell 4 (some .long) ∈ wsL_law ∧ yX6_cell.cls ≠ "java/lang/invoke/MethodHandle" ∧ yX6_cell.cls ≠ "java/lang/invoke/VarHandle" ∧ (parseMethodDescriptor yX6_cell.desc).map (fun d => d.parameters.length) = some 3 := ⟨wd_1_5, wd_33_20, by decide +kernel, by decide +kernel, by decide +kernel⟩
theorem cy_yX6_copy : Cond.initialized yX6_copy.cls ∈ wsL_law ∧ Cond.code yX6_copy cX6_copy 10 (some .int) ∈ wsL_law ∧ yX6_copy.cls ≠ "java/lang/invoke/MethodHandle" ∧ yX6_copy.cls ≠ "java/lang/invoke/VarHandle" ∧ (parseMethodDescriptor yX6_copy.desc).map (fun d => d.parameters.length) = some 5 := ⟨wd_1_5, wd_34_12, by decide +kernel, by decide +kernel, by decide +kernel⟩
theorem cy_yX6_begins : Cond.initialized yX6_begins.cls ∈ wsL_law ∧ Cond.code yX6_begins cX6_begins 2 none ∈ wsL_law ∧ yX6_begins.cls ≠ "java/lang/invoke/MethodHandle" ∧ yX6_begins.cls ≠ "java/lang/invoke/VarHandle" ∧ (parseMethodDescriptor yX6_begins.desc).map (fun d => d.parameters.length) = some 1 := ⟨wd_1_5, wd_35_17, by decide +kernel, by decide +kernel, by decide +kernel⟩
theorem cy_yX6_tell : Cond.initialized yX6_tell.cls ∈ wsL_law ∧ Cond.code yX6_tell cX6_tell 3 (some .int) ∈ wsL_law ∧ yX6_tell.cls ≠ "java/lang/invoke/MethodHandle" ∧ yX6_tell.cls ≠ "java/lang/invoke/VarHandle" ∧ (parseMethodDescriptor yX6_tell.desc).map (fun d => d.parameters.length) = some 1 := ⟨wd_1_5, wd_35_13, by decide +kernel, by decide +kernel, by decide +kernel⟩
theorem cy_yX6_name : Cond.initialized yX6_name.cls ∈ wsL_law ∧ Cond.code yX6_name cX6_name 2 (some .int) ∈ wsL_law ∧ yX6_name.cls ≠ "java/lang/invoke/MethodHandle" ∧ yX6_name.cls ≠ "java/lang/invoke/VarHandle" ∧ (parseMethodDescriptor yX6_name.desc).map (fun d => d.parameters.length) = some 1 := ⟨wd_1_5, wd_36_2, by decide +kernel, by decide +kernel, by decide +kernel⟩
theorem cy_yX6_as : Cond.initialized yX6_as.cls ∈ wsL_law ∧ Cond.code yX6_as cX6_as 3 (some .int) ∈ wsL_law ∧ yX6_as.cls ≠ "java/lang/invoke/MethodHandle" ∧ yX6_as.cls ≠ "java/lang/invoke/VarHandle" ∧ (parseMethodDescriptor yX6_as.desc).map (fun d => d.parameters.length) = some 2 := ⟨wd_1_5, wd_36_10, by decide +kernel, by decide +kernel, by decide +kernel⟩
theorem cy_yX6_trace : Cond.initialized yX6_trace.cls ∈ wsL_law ∧ Cond.code yX6_trace cX6_trace 1 (some .int) ∈ wsL_law ∧ yX6_trace.cls ≠ "java/lang/invoke/MethodHandle" ∧ yX6_trace.cls ≠ "java/lang/invoke/VarHandle" ∧ (parseMethodDescriptor yX6_trace.desc).map (fun d => d.parameters.length) = some 0 := ⟨wd_1_5, wd_36_18, by decide +kernel, by decide +kernel, by decide +kernel⟩
theorem cy_yX6_fault : Cond.initialized yX6_fault.cls ∈ wsL_law ∧ Cond.code yX6_fault cX6_fault 1 (some .int) ∈ wsL_law ∧ yX6_fault.cls ≠ "java/lang/invoke/MethodHandle" ∧ yX6_fault.cls ≠ "java/lang/invoke/VarHandle" ∧ (parseMethodDescriptor yX6_fault.desc).map (fun d => d.parameters.length) = some 0 := ⟨wd_1_5, wd_37_2, by decide +kernel, by decide +kernel, by decide +kernel⟩
theorem cy_yX6_many : Cond.initialized yX6_many.cls ∈ wsL_law ∧ Cond.code yX6_many cX6_many 2 (some .int) ∈ wsL_law ∧ yX6_many.cls ≠ "java/lang/invoke/MethodHandle" ∧ yX6_many.cls ≠ "java/lang/invoke/VarHandle" ∧ (parseMethodDescriptor yX6_many.desc).map (fun d => d.parameters.length) = some 1 := ⟨wd_1_5, wd_37_10, by decide +kernel, by decide +kernel, by decide +kernel⟩
theorem cy_yJ6_bitCount_0f7a4 : Cond.initialized yJ6_bitCount_0f7a4.cls ∈ wsL_law ∧ Cond.code yJ6_bitCount_0f7a4 cJ6_bitCount_0f7a4 1 (some .int) ∈ wsL_law ∧ yJ6_bitCount_0f7a4.cls ≠ "java/lang/invoke/MethodHandle" ∧ yJ6_bitCount_0f7a4.cls ≠ "java/lang/invoke/VarHandle" ∧ (parseMethodDescriptor yJ6_bitCount_0f7a4.desc).map (fun d => d.parameters.length) = some 1 := ⟨wd_11_22, wd_11_23, by decide +kernel, by decide +kernel, by decide +kernel⟩
theorem cw_RL_9 : CWB RL 9 yX5_init cX5_init 2 none 0 := ⟨wd_1_6, cy_yX5_init⟩
theorem cw_RL_12 : CWB RL 12 yX6_init cX6_init 1 none 0 := ⟨wd_3_14, cy_yX6_init⟩
theorem cw_RL_13 : CWB RL 13 yX5_shore cX5_shore 6 (some .int) 4 := ⟨wd_4_12, cy_yX5_shore⟩
theorem cw_RX5_53 : CWB RX5 53 yX5_isSheet cX5_isSheet 1 (some .boolean) 1 := ⟨wd_4_19, cy_yX5_isSheet⟩
theorem cw_RX5_120 : CWB RX5 120 yX5_isWithin cX5_isWithin 3 (some .boolean) 3 := ⟨wd_4_22, cy_yX5_isWithin⟩
theorem cw_RX5_57 : CWB RX5 57 yX5_isLane cX5_isLane 1 (some .boolean) 1 := ⟨wd_5_1, cy_yX5_isLane⟩
theorem cw_RX5_60 : CWB RX5 60 yX5_rowFault cX5_rowFault 4 (some .int) 4 := ⟨wd_5_4, cy_yX5_rowFault⟩
theorem cw_RX5_273 : CWB RX5 273 yX3_has cX3_has 3 (some .boolean) 2 := ⟨wd_5_9, cy_yX3_has⟩
theorem cw_RX5_64 : CWB RX5 64 yX5_faulted cX5_faulted 2 (some .int) 1 := ⟨wd_5_14, cy_yX5_faulted⟩
theorem cw_RX5_68 : CWB RX5 68 yX0_begin cX0_begin 4 none 3 := ⟨wd_5_18, cy_yX0_begin⟩
theorem cw_RX5_72 : CWB RX5 72 yX4_readsAll cX4_readsAll 2 (some .boolean) 1 := ⟨wd_6_2, cy_yX4_readsAll⟩
theorem cw_RX4_43 : CWB RX4 43 yX4_readsHead cX4_readsHead 2 (some .boolean) 1 := ⟨wd_6_6, cy_yX4_readsHead⟩
theorem cw_RX4_59 : CWB RX4 59 yX0_takes cX0_takes 2 (some .boolean) 1 := ⟨wd_6_13, cy_yX0_takes⟩
theorem cw_RX0_25 : CWB RX0 25 yX0_isAtEnd cX0_isAtEnd 1 (some .boolean) 0 := ⟨wd_6_18, cy_yX0_isAtEnd⟩
theorem cw_RX4_63 : CWB RX4 63 yX0_digit cX0_digit 4 (some .int) 2 := ⟨wd_6_22, cy_yX0_digit⟩
theorem cw_RX4_47 : CWB RX4 47 yX4_readsPools cX4_readsPools 2 (some .boolean) 1 := ⟨wd_7_2, cy_yX4_readsPools⟩
theorem cw_RX4_67 : CWB RX4 67 yX4_readsPool cX4_readsPool 2 (some .boolean) 1 := ⟨wd_7_7, cy_yX4_readsPool⟩
theorem cw_RX4_50 : CWB RX4 50 yX4_readsMembers cX4_readsMembers 2 (some .boolean) 1 := ⟨wd_7_11, cy_yX4_readsMembers⟩
theorem cw_RX4_70 : CWB RX4 70 yX4_readsMember cX4_readsMember 2 (some .boolean) 1 := ⟨wd_7_16, cy_yX4_readsMember⟩
theorem cw_RX4_73 : CWB RX4 73 yX0_kind cX0_kind 1 (some .int) 0 := ⟨wd_7_20, cy_yX0_kind⟩
theorem cw_RX0_39 : CWB RX0 39 yX0_takes cX0_takes 2 (some .boolean) 1 := ⟨wd_8_0, cy_yX0_takes⟩
theorem cw_RX4_53 : CWB RX4 53 yX0_isAtEnd cX0_isAtEnd 1 (some .boolean) 0 := ⟨wd_8_1, cy_yX0_isAtEnd⟩
theorem cw_RX5_76 : CWB RX5 76 yX0_place cX0_place 1 (some .int) 0 := ⟨wd_8_2, cy_yX0_place⟩
theorem cw_RX5_80 : CWB RX5 80 yX5_swapShores cX5_swapShores 2 none 0 := ⟨wd_8_6, cy_yX5_swapShores⟩
theorem cw_RL_17 : CWB RL 17 yX6_shore cX6_shore 7 (some .int) 4 := ⟨wd_8_10, cy_yX6_shore⟩
theorem cw_RX6_83 : CWB RX6 83 yX6_isSheet cX6_isSheet 1 (some .boolean) 1 := ⟨wd_8_17, cy_yX6_isSheet⟩
theorem cw_RX6_70 : CWB RX6 70 yX6_within cX6_within 3 (some .boolean) 3 := ⟨wd_8_20, cy_yX6_within⟩
theorem cw_RX6_87 : CWB RX6 87 yX6_isSort cX6_isSort 1 (some .boolean) 1 := ⟨wd_8_23, cy_yX6_isSort⟩
theorem cw_RX6_90 : CWB RX6 90 yX6_against cX6_against 5 (some .int) 4 := ⟨wd_9_2, cy_yX6_against⟩
theorem cw_RX6_94 : CWB RX6 94 yX6_fails cX6_fails 2 (some .int) 1 := ⟨wd_9_6, cy_yX6_fails⟩
theorem cw_RX6_98 : CWB RX6 98 yX6_readShore cX6_readShore 2 (some .boolean) 1 := ⟨wd_9_10, cy_yX6_readShore⟩
theorem cw_RX6_131 : CWB RX6 131 yX6_isSign cX6_isSign 3 (some .boolean) 2 := ⟨wd_9_19, cy_yX6_isSign⟩
theorem cw_RX6_135 : CWB RX6 135 yX6_digit cX6_digit 4 (some .int) 3 := ⟨wd_9_23, cy_yX6_digit⟩
theorem cw_RX6_139 : CWB RX6 139 yX6_readPool cX6_readPool 2 (some .boolean) 1 := ⟨wd_10_3, cy_yX6_readPool⟩
theorem cw_RX6_142 : CWB RX6 142 yX6_readMember cX6_readMember 3 (some .boolean) 1 := ⟨wd_10_7, cy_yX6_readMember⟩
theorem cw_RX6_101 : CWB RX6 101 yX6_takeShore cX6_takeShore 2 none 0 := ⟨wd_10_11, cy_yX6_takeShore⟩
theorem cw_RL_18 : CWB RL 18 yX5_ofPool cX5_ofPool 3 (some .int) 2 := ⟨wd_10_20, cy_yX5_ofPool⟩
theorem cw_RX5_89 : CWB RX5 89 yX5_isPool cX5_isPool 2 (some .boolean) 1 := ⟨wd_11_2, cy_yX5_isPool⟩
theorem cw_RX5_99 : CWB RX5 99 yX4_sittersOf cX4_sittersOf 4 (some .int) 1 := ⟨wd_11_7, cy_yX4_sittersOf⟩
theorem cw_RX5_102 : CWB RX5 102 yX4_spanOf cX4_spanOf 2 (some .int) 1 := ⟨wd_11_11, cy_yX4_spanOf⟩
theorem cw_RX4_86 : CWB RX4 86 yX4_sittersIn cX4_sittersIn 2 (some .int) 1 := ⟨wd_11_15, cy_yX4_sittersIn⟩
theorem cw_RX4_77 : CWB RX4 77 yX4_sittersOf cX4_sittersOf 4 (some .int) 1 := ⟨wd_11_19, cy_yX4_sittersOf⟩
theorem cw_RX4_81 : CWB RX4 81 yJ6_bitCount_0f7a4 cJ6_bitCount_0f7a4 1 (some .int) 1 := ⟨wd_11_20, cy_yJ6_bitCount_0f7a4⟩
theorem cw_RL_22 : CWB RL 22 yX6_ofPool cX6_ofPool 3 (some .int) 2 := ⟨wd_12_3, cy_yX6_ofPool⟩
theorem cw_RX6_145 : CWB RX6 145 yX6_isPool cX6_isPool 2 (some .boolean) 1 := ⟨wd_12_7, cy_yX6_isPool⟩
theorem cw_RX6_148 : CWB RX6 148 yX6_sitters cX6_sitters 4 (some .int) 1 := ⟨wd_12_11, cy_yX6_sitters⟩
theorem cw_RX6_151 : CWB RX6 151 yX6_size cX6_size 3 (some .int) 1 := ⟨wd_12_15, cy_yX6_size⟩
theorem cw_RL_23 : CWB RL 23 yX5_ofMember cX5_ofMember 3 (some .int) 2 := ⟨wd_12_18, cy_yX5_ofMember⟩
theorem cw_RX5_105 : CWB RX5 105 yX5_isMember cX5_isMember 2 (some .boolean) 1 := ⟨wd_13_1, cy_yX5_isMember⟩
theorem cw_RX5_117 : CWB RX5 117 yX4_stepsOf cX4_stepsOf 2 (some .int) 1 := ⟨wd_13_5, cy_yX4_stepsOf⟩
theorem cw_RL_26 : CWB RL 26 yX6_ofMember cX6_ofMember 3 (some .int) 2 := ⟨wd_13_9, cy_yX6_ofMember⟩
theorem cw_RX6_154 : CWB RX6 154 yX6_isMember cX6_isMember 2 (some .boolean) 1 := ⟨wd_13_13, cy_yX6_isMember⟩
theorem cw_RX6_157 : CWB RX6 157 yX6_farOf cX6_farOf 2 (some .int) 1 := ⟨wd_13_17, cy_yX6_farOf⟩
theorem cw_RL_27 : CWB RL 27 yX5_raise cX5_raise 4 (some .int) 2 := ⟨wd_13_21, cy_yX5_raise⟩
theorem cw_RL_30 : CWB RL 30 yX6_raise cX6_raise 4 (some .int) 2 := ⟨wd_14_1, cy_yX6_raise⟩
theorem cw_RL_31 : CWB RL 31 yX5_sway cX5_sway 4 (some .int) 2 := ⟨wd_14_5, cy_yX5_sway⟩
theorem cw_RX5_124 : CWB RX5 124 yX5_isDigit cX5_isDigit 1 (some .boolean) 1 := ⟨wd_14_9, cy_yX5_isDigit⟩
theorem cw_RL_34 : CWB RL 34 yX6_sway cX6_sway 4 (some .int) 2 := ⟨wd_14_12, cy_yX6_sway⟩
theorem cw_RX6_160 : CWB RX6 160 yX6_isDigit cX6_isDigit 1 (some .boolean) 1 := ⟨wd_14_16, cy_yX6_isDigit⟩
theorem cw_RL_35 : CWB RL 35 yX5_seat cX5_seat 4 (some .int) 2 := ⟨wd_14_19, cy_yX5_seat⟩
theorem cw_RL_38 : CWB RL 38 yX6_seat cX6_seat 4 (some .int) 2 := ⟨wd_14_23, cy_yX6_seat⟩
theorem cw_RL_39 : CWB RL 39 yX5_flow cX5_flow 4 (some .int) 1 := ⟨wd_15_3, cy_yX5_flow⟩
theorem cw_RX5_127 : CWB RX5 127 yX5_refusalUnless cX5_refusalUnless 2 (some .int) 1 := ⟨wd_15_8, cy_yX5_refusalUnless⟩
theorem cw_RX5_254 : CWB RX5 254 yX5_hasShore cX5_hasShore 1 (some .boolean) 0 := ⟨wd_15_12, cy_yX5_hasShore⟩
theorem cw_RL_43 : CWB RL 43 yX6_flow cX6_flow 3 (some .int) 1 := ⟨wd_15_16, cy_yX6_flow⟩
theorem cw_RL_44 : CWB RL 44 yX5_calm cX5_calm 4 (some .int) 1 := ⟨wd_15_20, cy_yX5_calm⟩
theorem cw_RL_47 : CWB RL 47 yX6_calm cX6_calm 3 (some .int) 1 := ⟨wd_16_1, cy_yX6_calm⟩
theorem cw_RL_48 : CWB RL 48 yX5_leap cX5_leap 4 (some .int) 1 := ⟨wd_16_5, cy_yX5_leap⟩
theorem cw_RL_51 : CWB RL 51 yX6_leap cX6_leap 3 (some .int) 1 := ⟨wd_16_10, cy_yX6_leap⟩
theorem cw_RL_52 : CWB RL 52 yX5_washed cX5_washed 3 (some .int) 1 := ⟨wd_16_14, cy_yX5_washed⟩
theorem cw_RX5_140 : CWB RX5 140 yX4_washedBy cX4_washedBy 4 (some .int) 1 := ⟨wd_16_18, cy_yX4_washedBy⟩
theorem cw_RX4_93 : CWB RX4 93 yX4_isWashed cX4_isWashed 3 (some .boolean) 2 := ⟨wd_16_22, cy_yX4_isWashed⟩
theorem cw_RL_55 : CWB RL 55 yX6_washed cX6_washed 2 (some .int) 1 := ⟨wd_17_2, cy_yX6_washed⟩
theorem cw_RX6_163 : CWB RX6 163 yX6_washedBy cX6_washedBy 4 (some .int) 1 := ⟨wd_17_6, cy_yX6_washedBy⟩
theorem cw_RL_56 : CWB RL 56 yX5_carried cX5_carried 3 (some .int) 2 := ⟨wd_17_10, cy_yX5_carried⟩
theorem cw_RX5_143 : CWB RX5 143 yX4_seatBehind cX4_seatBehind 3 (some .int) 2 := ⟨wd_17_14, cy_yX4_seatBehind⟩
theorem cw_RX4_103 : CWB RX4 103 yX4_poolBehind cX4_poolBehind 6 (some .int) 3 := ⟨wd_17_18, cy_yX4_poolBehind⟩
theorem cw_RX4_97 : CWB RX4 97 yX4_stepsOf cX4_stepsOf 2 (some .int) 1 := ⟨wd_17_22, cy_yX4_stepsOf⟩
theorem cw_RX4_100 : CWB RX4 100 yX4_nextWashed cX4_nextWashed 5 (some .int) 2 := ⟨wd_17_23, cy_yX4_nextWashed⟩
theorem cw_RL_59 : CWB RL 59 yX6_carried cX6_carried 3 (some .int) 2 := ⟨wd_18_3, cy_yX6_carried⟩
theorem cw_RX6_166 : CWB RX6 166 yX6_carriedFrom cX6_carriedFrom 6 (some .int) 3 := ⟨wd_18_7, cy_yX6_carriedFrom⟩
theorem cw_RL_60 : CWB RL 60 yX5_tide cX5_tide 3 (some .int) 1 := ⟨wd_18_11, cy_yX5_tide⟩
theorem cw_RX5_147 : CWB RX5 147 yX4_carryAll cX4_carryAll 5 (some .int) 1 := ⟨wd_18_15, cy_yX4_carryAll⟩
theorem cw_RX4_107 : CWB RX4 107 yX4_seatBehind cX4_seatBehind 3 (some .int) 2 := ⟨wd_18_19, cy_yX4_seatBehind⟩
theorem cw_RL_63 : CWB RL 63 yX6_tide cX6_tide 2 (some .int) 1 := ⟨wd_18_22, cy_yX6_tide⟩
theorem cw_RX6_169 : CWB RX6 169 yX6_carryAll cX6_carryAll 5 (some .int) 1 := ⟨wd_19_2, cy_yX6_carryAll⟩
theorem cw_RL_64 : CWB RL 64 yX5_ayes cX5_ayes 3 (some .int) 1 := ⟨wd_19_6, cy_yX5_ayes⟩
theorem cw_RX5_150 : CWB RX5 150 yX4_friendsOf cX4_friendsOf 4 (some .int) 1 := ⟨wd_19_10, cy_yX4_friendsOf⟩
theorem cw_RL_67 : CWB RL 67 yX6_ayes cX6_ayes 2 (some .int) 1 := ⟨wd_19_18, cy_yX6_ayes⟩
theorem cw_RX6_179 : CWB RX6 179 yX6_ayesOf cX6_ayesOf 5 (some .int) 1 := ⟨wd_19_22, cy_yX6_ayesOf⟩
theorem cw_RL_68 : CWB RL 68 yX5_passes cX5_passes 3 (some .int) 1 := ⟨wd_20_2, cy_yX5_passes⟩
theorem cw_RX5_153 : CWB RX5 153 yX4_poolsWon cX4_poolsWon 5 (some .int) 1 := ⟨wd_20_6, cy_yX4_poolsWon⟩
theorem cw_RL_71 : CWB RL 71 yX6_passes cX6_passes 2 (some .int) 1 := ⟨wd_20_10, cy_yX6_passes⟩
theorem cw_RX6_172 : CWB RX6 172 yX6_passesBy cX6_passesBy 5 (some .int) 1 := ⟨wd_20_14, cy_yX6_passesBy⟩
theorem cw_RL_72 : CWB RL 72 yX5_law cX5_law 3 (some .int) 1 := ⟨wd_20_18, cy_yX5_law⟩
theorem cw_RX5_156 : CWB RX5 156 yX4_isLawBy cX4_isLawBy 2 (some .boolean) 1 := ⟨wd_20_22, cy_yX4_isLawBy⟩
theorem cw_RX4_115 : CWB RX4 115 yX4_poolsWon cX4_poolsWon 5 (some .int) 1 := ⟨wd_21_2, cy_yX4_poolsWon⟩
theorem cw_RX4_118 : CWB RX4 118 yX4_poolsSatIn cX4_poolsSatIn 3 (some .int) 0 := ⟨wd_21_3, cy_yX4_poolsSatIn⟩
theorem cw_RX5_159 : CWB RX5 159 yX5_oneIf cX5_oneIf 1 (some .int) 1 := ⟨wd_21_7, cy_yX5_oneIf⟩
theorem cw_RL_75 : CWB RL 75 yX6_law cX6_law 2 (some .int) 1 := ⟨wd_21_8, cy_yX6_law⟩
theorem cw_RX6_182 : CWB RX6 182 yX6_isLawBy cX6_isLawBy 2 (some .boolean) 1 := ⟨wd_21_12, cy_yX6_isLawBy⟩
theorem cw_RX6_175 : CWB RX6 175 yX6_occupied cX6_occupied 3 (some .int) 0 := ⟨wd_21_16, cy_yX6_occupied⟩
theorem cw_RL_76 : CWB RL 76 yX5_year cX5_year 7 (some .int) 5 := ⟨wd_21_20, cy_yX5_year⟩
theorem cw_RX5_162 : CWB RX5 162 yX5_isToldOfYears cX5_isToldOfYears 1 (some .boolean) 1 := ⟨wd_22_0, cy_yX5_isToldOfYears⟩
theorem cw_RX5_165 : CWB RX5 165 yX5_refusalOfRow cX5_refusalOfRow 7 (some .int) 5 := ⟨wd_22_3, cy_yX5_refusalOfRow⟩
theorem cw_RX5_169 : CWB RX5 169 yX3_areWithin cX3_areWithin 5 (some .boolean) 3 := ⟨wd_22_7, cy_yX3_areWithin⟩
theorem cw_RX5_172 : CWB RX5 172 yX5_yearTold cX5_yearTold 8 (some .int) 4 := ⟨wd_22_11, cy_yX5_yearTold⟩
theorem cw_RX5_175 : CWB RX5 175 yX5_firstWrong cX5_firstWrong 5 (some .int) 3 := ⟨wd_22_16, cy_yX5_firstWrong⟩
theorem cw_RX5_179 : CWB RX5 179 yX4_become cX4_become 3 none 1 := ⟨wd_22_20, cy_yX4_become⟩
theorem cw_RX5_186 : CWB RX5 186 yX5_endOfYear cX5_endOfYear 3 (some .int) 1 := ⟨wd_23_0, cy_yX5_endOfYear⟩
theorem cw_RX5_189 : CWB RX5 189 yX4_poolsSatIn cX4_poolsSatIn 3 (some .int) 0 := ⟨wd_23_4, cy_yX4_poolsSatIn⟩
theorem cw_RX5_192 : CWB RX5 192 yX4_fullestPool cX4_fullestPool 3 (some .int) 0 := ⟨wd_23_5, cy_yX4_fullestPool⟩
theorem cw_RL_80 : CWB RL 80 yX6_year cX6_year 11 (some .int) 5 := ⟨wd_23_9, cy_yX6_year⟩
theorem cw_RX6_188 : CWB RX6 188 yX6_goYear cX6_goYear 4 (some .int) 2 := ⟨wd_23_13, cy_yX6_goYear⟩
theorem cw_RX6_192 : CWB RX6 192 yX6_tellYear cX6_tellYear 4 (some .int) 1 := ⟨wd_23_18, cy_yX6_tellYear⟩
theorem cw_RL_81 : CWB RL 81 yX5_best cX5_best 7 (some .int) 1 := ⟨wd_23_22, cy_yX5_best⟩
theorem cw_RX5_195 : CWB RX5 195 yJ6_bitCount_0f7a4 cJ6_bitCount_0f7a4 1 (some .int) 1 := ⟨wd_24_2, cy_yJ6_bitCount_0f7a4⟩
theorem cw_RL_84 : CWB RL 84 yX6_best cX6_best 6 (some .int) 1 := ⟨wd_24_3, cy_yX6_best⟩
theorem cw_RL_85 : CWB RL 85 yX5_turn cX5_turn 3 (some .int) 1 := ⟨wd_24_7, cy_yX5_turn⟩
theorem cw_RX5_200 : CWB RX5 200 yX5_fewestToTurn cX5_fewestToTurn 4 (some .int) 1 := ⟨wd_24_11, cy_yX5_fewestToTurn⟩
theorem cw_RL_88 : CWB RL 88 yX6_turn cX6_turn 5 (some .int) 1 := ⟨wd_24_15, cy_yX6_turn⟩
theorem cw_RL_89 : CWB RL 89 yX5_drift cX5_drift 8 (some .int) 6 := ⟨wd_24_19, cy_yX5_drift⟩
theorem cw_RX5_206 : CWB RX5 206 yX5_driftOf cX5_driftOf 7 (some .int) 4 := ⟨wd_24_23, cy_yX5_driftOf⟩
theorem cw_RX5_213 : CWB RX5 213 yX4_driftIn cX4_driftIn 5 (some .int) 2 := ⟨wd_25_3, cy_yX4_driftIn⟩
theorem cw_RX5_210 : CWB RX5 210 yX5_originsOf cX5_originsOf 7 (some .int) 4 := ⟨wd_25_7, cy_yX5_originsOf⟩
theorem cw_RL_93 : CWB RL 93 yX6_drift cX6_drift 11 (some .int) 6 := ⟨wd_25_11, cy_yX6_drift⟩
theorem cw_RX6_195 : CWB RX6 195 yX6_driftOf cX6_driftOf 9 (some .int) 3 := ⟨wd_25_15, cy_yX6_driftOf⟩
theorem cw_RL_94 : CWB RL 94 yX5_leaps cX5_leaps 4 (some .int) 3 := ⟨wd_25_19, cy_yX5_leaps⟩
theorem cw_RX5_216 : CWB RX5 216 yX5_layLeaps cX5_layLeaps 3 none 0 := ⟨wd_26_0, cy_yX5_layLeaps⟩
theorem cw_RX5_229 : CWB RX5 229 yX2_begin cX2_begin 3 none 2 := ⟨wd_26_4, cy_yX2_begin⟩
theorem cw_RX5_231 : CWB RX5 231 yX4_isInReach cX4_isInReach 3 (some .boolean) 2 := ⟨wd_26_10, cy_yX4_isInReach⟩
theorem cw_RX5_235 : CWB RX5 235 yX2_lay cX2_lay 4 none 3 := ⟨wd_26_14, cy_yX2_lay⟩
theorem cw_RX5_219 : CWB RX5 219 yX2_find cX2_find 6 none 2 := ⟨wd_26_18, cy_yX2_find⟩
theorem cw_RX2_30 : CWB RX2 30 yX2_measure cX2_measure 4 none 1 := ⟨wd_26_23, cy_yX2_measure⟩
theorem cw_RX2_37 : CWB RX2 37 yX2_moveTo cX2_moveTo 4 (some .int) 2 := ⟨wd_27_3, cy_yX2_moveTo⟩
theorem cw_RX5_226 : CWB RX5 226 yX2_moveAt cX2_moveAt 2 (some .int) 1 := ⟨wd_27_7, cy_yX2_moveAt⟩
theorem cw_RL_98 : CWB RL 98 yX6_leaps cX6_leaps 6 (some .int) 3 := ⟨wd_27_11, cy_yX6_leaps⟩
theorem cw_RX6_201 : CWB RX6 201 yX6_findLeaps cX6_findLeaps 5 none 1 := ⟨wd_27_15, cy_yX6_findLeaps⟩
theorem cw_RX6_198 : CWB RX6 198 yX6_isLeap cX6_isLeap 4 (some .boolean) 2 := ⟨wd_27_19, cy_yX6_isLeap⟩
theorem cw_RX6_205 : CWB RX6 205 yX6_nextLeap cX6_nextLeap 3 (some .int) 1 := ⟨wd_27_23, cy_yX6_nextLeap⟩
theorem cw_RL_99 : CWB RL 99 yX5_elect cX5_elect 4 (some .int) 3 := ⟨wd_28_3, cy_yX5_elect⟩
theorem cw_RX5_239 : CWB RX5 239 yX5_layTides cX5_layTides 4 none 1 := ⟨wd_28_7, cy_yX5_layTides⟩
theorem cw_RX5_243 : CWB RX5 243 yX4_poolBehind cX4_poolBehind 6 (some .int) 3 := ⟨wd_28_11, cy_yX4_poolBehind⟩
theorem cw_RL_102 : CWB RL 102 yX6_elect cX6_elect 8 (some .int) 3 := ⟨wd_28_12, cy_yX6_elect⟩
theorem cw_RX6_208 : CWB RX6 208 yX6_findTides cX6_findTides 6 none 2 := ⟨wd_28_16, cy_yX6_findTides⟩
theorem cw_RX6_212 : CWB RX6 212 yX6_nextTide cX6_nextTide 4 (some .int) 2 := ⟨wd_28_20, cy_yX6_nextTide⟩
theorem cw_RL_103 : CWB RL 103 yX5_reading cX5_reading 4 (some .int) 3 := ⟨wd_29_0, cy_yX5_reading⟩
theorem cw_RX5_247 : CWB RX5 247 yX1_take cX1_take 4 (some .int) 3 := ⟨wd_29_4, cy_yX1_take⟩
theorem cw_RL_106 : CWB RL 106 yX6_reading cX6_reading 4 (some .int) 3 := ⟨wd_29_9, cy_yX6_reading⟩
theorem cw_RL_107 : CWB RL 107 yX5_back cX5_back 2 (some .int) 1 := ⟨wd_29_13, cy_yX5_back⟩
theorem cw_RL_110 : CWB RL 110 yX6_back cX6_back 2 (some .int) 1 := ⟨wd_29_17, cy_yX6_back⟩
theorem cw_RL_111 : CWB RL 111 yX5_heights cX5_heights 4 (some .int) 1 := ⟨wd_29_21, cy_yX5_heights⟩
theorem cw_RX5_250 : CWB RX5 250 yX1_areSoIn cX1_areSoIn 3 (some .boolean) 1 := ⟨wd_30_1, cy_yX1_areSoIn⟩
theorem cw_RX1_25 : CWB RX1 25 yX4_seatBehind cX4_seatBehind 3 (some .int) 2 := ⟨wd_30_5, cy_yX4_seatBehind⟩
theorem cw_RL_114 : CWB RL 114 yX6_heights cX6_heights 5 (some .int) 1 := ⟨wd_30_6, cy_yX6_heights⟩
theorem cw_RX6_215 : CWB RX6 215 yX6_areSo cX6_areSo 3 (some .boolean) 0 := ⟨wd_30_10, cy_yX6_areSo⟩
theorem cw_RL_115 : CWB RL 115 yX5_kinds cX5_kinds 4 (some .int) 1 := ⟨wd_30_14, cy_yX5_kinds⟩
theorem cw_RL_118 : CWB RL 118 yX6_kinds cX6_kinds 5 (some .int) 1 := ⟨wd_30_18, cy_yX6_kinds⟩
theorem cw_RL_119 : CWB RL 119 yX5_streams cX5_streams 3 (some .int) 0 := ⟨wd_30_22, cy_yX5_streams⟩
theorem cw_RL_123 : CWB RL 123 yX6_streams cX6_streams 4 (some .int) 0 := ⟨wd_31_2, cy_yX6_streams⟩
theorem cw_RL_124 : CWB RL 124 yX5_odds cX5_odds 7 (some .long) 3 := ⟨wd_31_6, cy_yX5_odds⟩
theorem cw_RX5_260 : CWB RX5 260 yX5_pairsOfTides cX5_pairsOfTides 8 (some .int) 2 := ⟨wd_31_11, cy_yX5_pairsOfTides⟩
theorem cw_RX5_263 : CWB RX5 263 yX5_commonDivisor cX5_commonDivisor 3 (some .int) 2 := ⟨wd_31_15, cy_yX5_commonDivisor⟩
theorem cw_RL_128 : CWB RL 128 yX6_odds cX6_odds 8 (some .long) 3 := ⟨wd_31_18, cy_yX6_odds⟩
theorem cw_RX6_221 : CWB RX6 221 yX6_inLeastTerms cX6_inLeastTerms 11 (some .long) 3 := ⟨wd_32_0, cy_yX6_inLeastTerms⟩
theorem cw_RL_129 : CWB RL 129 yX5_sheet cX5_sheet 4 (some .int) 3 := ⟨wd_32_3, cy_yX5_sheet⟩
theorem cw_RX5_266 : CWB RX5 266 yX3_renew cX3_renew 4 none 2 := ⟨wd_32_7, cy_yX3_renew⟩
theorem cw_RL_132 : CWB RL 132 yX6_sheet cX6_sheet 5 (some .int) 3 := ⟨wd_32_13, cy_yX6_sheet⟩
theorem cw_RL_133 : CWB RL 133 yX5_lose cX5_lose 3 (some .int) 1 := ⟨wd_32_17, cy_yX5_lose⟩
theorem cw_RL_136 : CWB RL 136 yX6_lose cX6_lose 3 (some .int) 1 := ⟨wd_32_21, cy_yX6_lose⟩
theorem cw_RL_137 : CWB RL 137 yX5_put cX5_put 4 (some .int) 3 := ⟨wd_33_1, cy_yX5_put⟩
theorem cw_RX5_276 : CWB RX5 276 yX3_cut cX3_cut 2 (some .int) 1 := ⟨wd_33_5, cy_yX3_cut⟩
theorem cw_RL_140 : CWB RL 140 yX6_put cX6_put 4 (some .int) 3 := ⟨wd_33_9, cy_yX6_put⟩
theorem cw_RL_141 : CWB RL 141 yX5_cell cX5_cell 5 (some .long) 3 := ⟨wd_33_13, cy_yX5_cell⟩
theorem cw_RL_144 : CWB RL 144 yX6_cell cX6_cell 4 (some .long) 3 := ⟨wd_33_17, cy_yX6_cell⟩
theorem cw_RX6_225 : CWB RX6 225 yX6_lost cX6_lost 2 (some .long) 1 := ⟨wd_33_21, cy_yX6_lost⟩
theorem cw_RL_145 : CWB RL 145 yX5_copy cX5_copy 8 (some .int) 5 := ⟨wd_34_1, cy_yX5_copy⟩
theorem cw_RL_148 : CWB RL 148 yX6_copy cX6_copy 10 (some .int) 5 := ⟨wd_34_9, cy_yX6_copy⟩
theorem cw_RL_149 : CWB RL 149 yX5_tell cX5_tell 2 (some .int) 1 := ⟨wd_34_13, cy_yX5_tell⟩
theorem cw_RX5_288 : CWB RX5 288 yX5_shrimpBody cX5_shrimpBody 2 (some .int) 1 := ⟨wd_34_17, cy_yX5_shrimpBody⟩
theorem cw_RX5_297 : CWB RX5 297 yX5_leave cX5_leave 2 none 1 := ⟨wd_34_21, cy_yX5_leave⟩
theorem cw_RX5_291 : CWB RX5 291 yX5_crabBody cX5_crabBody 2 (some .int) 1 := ⟨wd_35_2, cy_yX5_crabBody⟩
theorem cw_RX5_294 : CWB RX5 294 yX5_limpetBody cX5_limpetBody 3 (some .int) 1 := ⟨wd_35_6, cy_yX5_limpetBody⟩
theorem cw_RL_152 : CWB RL 152 yX6_tell cX6_tell 3 (some .int) 1 := ⟨wd_35_10, cy_yX6_tell⟩
theorem cw_RX6_232 : CWB RX6 232 yX6_begins cX6_begins 2 none 1 := ⟨wd_35_14, cy_yX6_begins⟩
theorem cw_RL_153 : CWB RL 153 yX5_name cX5_name 3 (some .int) 1 := ⟨wd_35_19, cy_yX5_name⟩
theorem cw_RL_156 : CWB RL 156 yX6_name cX6_name 2 (some .int) 1 := ⟨wd_35_23, cy_yX6_name⟩
theorem cw_RL_157 : CWB RL 157 yX5_as cX5_as 3 (some .int) 2 := ⟨wd_36_3, cy_yX5_as⟩
theorem cw_RL_160 : CWB RL 160 yX6_as cX6_as 3 (some .int) 2 := ⟨wd_36_7, cy_yX6_as⟩
theorem cw_RL_161 : CWB RL 161 yX5_trace cX5_trace 1 (some .int) 0 := ⟨wd_36_11, cy_yX5_trace⟩
theorem cw_RL_164 : CWB RL 164 yX6_trace cX6_trace 1 (some .int) 0 := ⟨wd_36_15, cy_yX6_trace⟩
theorem cw_RL_165 : CWB RL 165 yX5_fault cX5_fault 1 (some .int) 0 := ⟨wd_36_19, cy_yX5_fault⟩
theorem cw_RL_168 : CWB RL 168 yX6_fault cX6_fault 1 (some .int) 0 := ⟨wd_36_23, cy_yX6_fault⟩
theorem cw_RL_169 : CWB RL 169 yX5_many cX5_many 2 (some .int) 1 := ⟨wd_37_3, cy_yX5_many⟩
theorem cw_RL_172 : CWB RL 172 yX6_many cX6_many 2 (some .int) 1 := ⟨wd_37_7, cy_yX6_many⟩
end
section
/-! the worlds: the class's 37 cells, the reference's 19 -/
abbrev St : Type := (Nat → Int32) × (Nat → Nat → Int32) × Nat × Nat × Option Nat
abbrev Mt : Type := (Nat → Int32) × (Nat → Nat → Int32)
def setI (x : St) (i : Nat) (v : Int32) : St := (upd x.1 i v, x.2)
def setA (x : St) (a : Nat) (f : Nat → Int32) : St := (x.1, va_up x.2.1 a f, x.2.2)
def setC (x : St) (v : Nat) : St := (x.1, x.2.1, v, x.2.2.2)
def setT (x : St) (v : Nat) : St := (x.1, x.2.1, x.2.2.1, v, x.2.2.2.2)
def setR (x : St) (v : Option Nat) : St := (x.1, x.2.1, x.2.2.1, x.2.2.2.1, v)
def mI (x : Mt) (i : Nat) (v : Int32) : Mt := (upd x.1 i v, x.2)
def mA (x : Mt) (a : Nat) (f : Nat → Int32) : Mt := (x.1, va_up x.2 a f)
def wC (Z : EC) (x : St) : va_W := [(Z.2.1 0, .inr (5, [.ref (Z.2.1 1), .ref (Z.2.1 10), .ref (Z.2.1 11), .ref (Z.2.1 15), .ref (Z.2.1 (25 + 6 * x.2.2.1)), .ref (Z.2.1 (25 + 6 * x.2.2.2.1)), .int (x.1 0), .int (x.1 1)])), (Z.2.1 1, .inl (Z.2.2.2.1, 4, .inr (.inr (.inr (.inr (fun j => some (Z.2.1 (2 + j)))))))), (Z.2.1 2, .inr (3, [.ref (Z.2.1 6), .int (x.1 2), .int (x.1 3), .int (x.1 4)])), (Z.2.1 3, .inr (3, [.ref (Z.2.1 7), .int (x.1 5), .int (x.1 6), .int (x.1 7)])), (Z.2.1 4, .inr (3, [.ref (Z.2.1 8), .int (x.1 8), .int (x.1 9), .int (x.1 10)])), (Z.2.1 5, .inr (3, [.ref (Z.2.1 9), .int (x.1 11), .int (x.1 12), .int (x.1 13)])), (Z.2.1 6, .inl (Z.2.2.1, 60, .inl (x.2.1 6))), (Z.2.1 7, .inl (Z.2.2.1, 60, .inl (x.2.1 7))), (Z.2.1 8, .inl (Z.2.2.1, 60, .inl (x.2.1 8))), (Z.2.1 9, .inl (Z.2.2.1, 60, .inl (x.2.1 9))), (Z.2.1 10, .inr (0, [va_rf (x.2.2.2.2.map (fun k => Z.2.1 (2 + k))), .int (x.1 14), .int (x.1 15), .int (x.1 16)])), (Z.2.1 11, .inr (1, [.ref (Z.2.1 12), .ref (Z.2.1 13), .ref (Z.2.1 14), .int (x.1 17)])), (Z.2.1 12, .inl (Z.2.2.1, 8, .inl (x.2.1 12))), (Z.2.1 13, .inl (Z.2.2.1, 8, .inl (x.2.1 13))), (Z.2.1 14, .inl (Z.2.2.1, 8, .inl (x.2.1 14))), (Z.2.1 15, .inr (2, [.ref (Z.2.1 16), .ref (Z.2.1 23), .ref (Z.2.1 24), .int (x.1 18), .int (x.1 19), .int (x.1 20)])), (Z.2.1 16, .inl (Z.2.2.2.2, 6, .inr (.inr (.inr (.inr (fun j => some (Z.2.1 (17 + j)))))))), (Z.2.1 17, .inl (Z.2.2.1, 10, .inl (x.2.1 17))), (Z.2.1 18, .inl (Z.2.2.1, 10, .inl (x.2.1 18))), (Z.2.1 19, .inl (Z.2.2.1, 10, .inl (x.2.1 19))), (Z.2.1 20, .inl (Z.2.2.1, 10, .inl (x.2.1 20))), (Z.2.1 21, .inl (Z.2.2.1, 10, .inl (x.2.1 21))), (Z.2.1 22, .inl (Z.2.2.1, 10, .inl (x.2.1 22))), (Z.2.1 23, .inl (Z.2.2.1, 6, .inl (x.2.1 23))), (Z.2.1 24, .inl (Z.2.2.1, 6, .inl (x.2.1 24))), (Z.2.1 25, .inr (4, [.int (x.1 21), .int (x.1 22), .int (x.1 23), .int (x.1 24), .ref (Z.2.1 26), .ref (Z.2.1 27), .int (x.1 25), .ref (Z.2.1 28), .ref (Z.2.1 29), .ref (Z.2.1 30)])), (Z.2.1 26, .inl (Z.2.2.1, 6, .inl (x.2.1 26))), (Z.2.1 27, .inl (Z.2.2.1, 6, .inl (x.2.1 27))), (Z.2.1 28, .inl (Z.2.2.1, 6, .inl (x.2.1 28))), (Z.2.1 29, .inl (Z.2.2.1, 6, .inl (x.2.1 29))), (Z.2.1 30, .inl (Z.2.2.1, 6, .inl (x.2.1 30))), (Z.2.1 31, .inr (4, [.int (x.1 26), .int (x.1 27), .int (x.1 28), .int (x.1 29), .ref (Z.2.1 32), .ref (Z.2.1 33), .int (x.1 30), .ref (Z.2.1 34), .ref (Z.2.1 35), .ref (Z.2.1 36)])), (Z.2.1 32, .inl (Z.2.2.1, 6, .inl (x.2.1 32))), (Z.2.1 33, .inl (Z.2.2.1, 6, .inl (x.2.1 33))), (Z.2.1 34, .inl (Z.2.2.1, 6, .inl (x.2.1 34))), (Z.2.1 35, .inl (Z.2.2.1, 6, .inl (x.2.1 35))), (Z.2.1 36, .inl (Z.2.2.1, 6, .inl (x.2.1 36)))]
def wM (Z : EC) (x : Mt) : va_W := [(Z.2.1 0, .inr (6, [.int (x.1 0), .int (x.1 1), .ref (Z.2.1 2), .ref (Z.2.1 3), .ref (Z.2.1 4), .int (x.1 5), .int (x.1 6), .int (x.1 7), .int (x.1 8), .int (x.1 9), .ref (Z.2.1 10), .ref (Z.2.1 11), .ref (Z.2.1 12), .ref (Z.2.1 13), .ref (Z.2.1 14), .int (x.1 15), .int (x.1 16), .int (x.1 17), .int (x.1 18), .int (x.1 19), .int (x.1 20), .ref (Z.2.1 21), .ref (Z.2.1 22), .ref (Z.2.1 23), .ref (Z.2.1 24), .ref (Z.2.1 25), .ref (Z.2.1 26), .int (x.1 27), .ref (Z.2.1 28), .int (x.1 29), .ref (Z.2.1 30), .ref (Z.2.1 31), .ref (Z.2.1 32)])), (Z.2.1 2, .inl (Z.2.2.1, 4, .inl (x.2 2))), (Z.2.1 3, .inl (Z.2.2.1, 4, .inl (x.2 3))), (Z.2.1 4, .inl (Z.2.2.1, 240, .inl (x.2 4))), (Z.2.1 10, .inl (Z.2.2.1, 6, .inl (x.2 10))), (Z.2.1 11, .inl (Z.2.2.1, 6, .inl (x.2 11))), (Z.2.1 12, .inl (Z.2.2.1, 6, .inl (x.2 12))), (Z.2.1 13, .inl (Z.2.2.1, 6, .inl (x.2 13))), (Z.2.1 14, .inl (Z.2.2.1, 6, .inl (x.2 14))), (Z.2.1 21, .inl (Z.2.2.1, 6, .inl (x.2 21))), (Z.2.1 22, .inl (Z.2.2.1, 6, .inl (x.2 22))), (Z.2.1 23, .inl (Z.2.2.1, 6, .inl (x.2 23))), (Z.2.1 24, .inl (Z.2.2.1, 6, .inl (x.2 24))), (Z.2.1 25, .inl (Z.2.2.1, 6, .inl (x.2 25))), (Z.2.1 26, .inl (Z.2.2.1, 6, .inl (x.2 26))), (Z.2.1 28, .inl (Z.2.2.1, 6, .inl (x.2 28))), (Z.2.1 30, .inl (Z.2.2.1, 8, .inl (x.2 30))), (Z.2.1 31, .inl (Z.2.2.1, 8, .inl (x.2 31))), (Z.2.1 32, .inl (Z.2.2.1, 8, .inl (x.2 32)))]
theorem at_shore {Z : EC} {x : St} {w : Nat} (h : w < 2) : (wC Z x)[25 + 6 * w]? = some (Z.2.1 (25 + 6 * w), .inr (4, [.int (x.1 (21 + 5 * w)), .int (x.1 (22 + 5 * w)), .int (x.1 (23 + 5 * w)), .int (x.1 (24 + 5 * w)), .ref (Z.2.1 (26 + 6 * w)), .ref (Z.2.1 (27 + 6 * w)), .int (x.1 (25 + 5 * w)), .ref (Z.2.1 (28 + 6 * w)), .ref (Z.2.1 (29 + 6 * w)), .ref (Z.2.1 (30 + 6 * w))])) := by
  match w, h with
  | 0, _ => rfl
  | 1, _ => rfl
theorem at_sheet {Z : EC} {x : St} {k : Nat} (h : k < 4) : (wC Z x)[2 + k]? = some (Z.2.1 (2 + k), .inr (3, [.ref (Z.2.1 (6 + k)), .int (x.1 (2 + 3 * k)), .int (x.1 (3 + 3 * k)), .int (x.1 (4 + 3 * k))])) := by
  match k, h with
  | 0, _ => rfl
  | 1, _ => rfl
  | 2, _ => rfl
  | 3, _ => rfl
theorem at_cells {Z : EC} {x : St} {k : Nat} (h : k < 4) : (wC Z x)[6 + k]? = some (Z.2.1 (6 + k), .inl (Z.2.2.1, 60, .inl (x.2.1 (6 + k)))) := by
  match k, h with
  | 0, _ => rfl
  | 1, _ => rfl
  | 2, _ => rfl
  | 3, _ => rfl
theorem at_rows {Z : EC} {x : St} {k : Nat} (h : k < 6) : (wC Z x)[17 + k]? = some (Z.2.1 (17 + k), .inl (Z.2.2.1, 10, .inl (x.2.1 (17 + k)))) := by
  match k, h with
  | 0, _ => rfl
  | 1, _ => rfl
  | 2, _ => rfl
  | 3, _ => rfl
  | 4, _ => rfl
  | 5, _ => rfl
theorem at_sha0 {Z : EC} {x : St} {w : Nat} (h : w < 2) : (wC Z x)[26 + 6 * w]? = some (Z.2.1 (26 + 6 * w), .inl (Z.2.2.1, 6, .inl (x.2.1 (26 + 6 * w)))) := by
  match w, h with
  | 0, _ => rfl
  | 1, _ => rfl
theorem at_sha1 {Z : EC} {x : St} {w : Nat} (h : w < 2) : (wC Z x)[27 + 6 * w]? = some (Z.2.1 (27 + 6 * w), .inl (Z.2.2.1, 6, .inl (x.2.1 (27 + 6 * w)))) := by
  match w, h with
  | 0, _ => rfl
  | 1, _ => rfl
theorem at_sha2 {Z : EC} {x : St} {w : Nat} (h : w < 2) : (wC Z x)[28 + 6 * w]? = some (Z.2.1 (28 + 6 * w), .inl (Z.2.2.1, 6, .inl (x.2.1 (28 + 6 * w)))) := by
  match w, h with
  | 0, _ => rfl
  | 1, _ => rfl
theorem at_sha3 {Z : EC} {x : St} {w : Nat} (h : w < 2) : (wC Z x)[29 + 6 * w]? = some (Z.2.1 (29 + 6 * w), .inl (Z.2.2.1, 6, .inl (x.2.1 (29 + 6 * w)))) := by
  match w, h with
  | 0, _ => rfl
  | 1, _ => rfl
theorem at_sha4 {Z : EC} {x : St} {w : Nat} (h : w < 2) : (wC Z x)[30 + 6 * w]? = some (Z.2.1 (30 + 6 * w), .inl (Z.2.2.1, 6, .inl (x.2.1 (30 + 6 * w)))) := by
  match w, h with
  | 0, _ => rfl
  | 1, _ => rfl
section JW
variable {l0 : Launch} {Z : EC} {Γ : CTX St} {x : St} {cc : ByteArray} {own : String} {rm : Room} {n pc : Nat} {L : List (Option Value)} {st : List Value}
theorem G5_sheets (C : CJ l0 Z (wC Z) Γ cc own rm n) {idx : Nat} (hl : Cond.fieldLink own idx "TideSeats" "sheets" "[LTideSeats$Sheet;" ∈ wsL_law) (d : decode cc pc = .ok (.getfield idx, 3)) (k1 : J Γ x (pc + 3) L (.ref (Z.2.1 1) :: st)) : J Γ x pc L (.ref (Z.2.1 0) :: st) := J_get C inlX5 0 rfl rfl 0 (by decide) hl rfl rfl d k1
theorem G5_reader (C : CJ l0 Z (wC Z) Γ cc own rm n) {idx : Nat} (hl : Cond.fieldLink own idx "TideSeats" "reader" "LTideSeats$Reader;" ∈ wsL_law) (d : decode cc pc = .ok (.getfield idx, 3)) (k1 : J Γ x (pc + 3) L (.ref (Z.2.1 10) :: st)) : J Γ x pc L (.ref (Z.2.1 0) :: st) := J_get C inlX5 0 rfl rfl 1 (by decide) hl rfl rfl d k1
theorem G5_readings (C : CJ l0 Z (wC Z) Γ cc own rm n) {idx : Nat} (hl : Cond.fieldLink own idx "TideSeats" "readings" "LTideSeats$Readings;" ∈ wsL_law) (d : decode cc pc = .ok (.getfield idx, 3)) (k1 : J Γ x (pc + 3) L (.ref (Z.2.1 11) :: st)) : J Γ x pc L (.ref (Z.2.1 0) :: st) := J_get C inlX5 0 rfl rfl 2 (by decide) hl rfl rfl d k1
theorem G5_route (C : CJ l0 Z (wC Z) Γ cc own rm n) {idx : Nat} (hl : Cond.fieldLink own idx "TideSeats" "route" "LTideSeats$Route;" ∈ wsL_law) (d : decode cc pc = .ok (.getfield idx, 3)) (k1 : J Γ x (pc + 3) L (.ref (Z.2.1 15) :: st)) : J Γ x pc L (.ref (Z.2.1 0) :: st) := J_get C inlX5 0 rfl rfl 3 (by decide) hl rfl rfl d k1
theorem G5_shore (C : CJ l0 Z (wC Z) Γ cc own rm n) {idx : Nat} (hl : Cond.fieldLink own idx "TideSeats" "shore" "LTideSeats$Shore;" ∈ wsL_law) (d : decode cc pc = .ok (.getfield idx, 3)) (k1 : J Γ x (pc + 3) L (.ref (Z.2.1 (25 + 6 * x.2.2.1)) :: st)) : J Γ x pc L (.ref (Z.2.1 0) :: st) := J_get C inlX5 0 rfl rfl 4 (by decide) hl rfl rfl d k1
theorem P5_shore {w : Nat} (C : CJ l0 Z (wC Z) Γ cc own rm n) {idx : Nat} (hl : Cond.fieldLink own idx "TideSeats" "shore" "LTideSeats$Shore;" ∈ wsL_law) (d : decode cc pc = .ok (.putfield idx, 3)) (k1 : J Γ (setC x w) (pc + 3) L st) : J Γ x pc L (.ref (Z.2.1 (25 + 6 * w)) :: .ref (Z.2.1 0) :: st) := J_put C inlX5 tyX5 tyX5_ok nmX5 0 rfl rfl 4 (by decide) hl rfl rfl (ty := .object "TideSeats$Shore") (tyX5_ok 4 (by decide)) rfl rfl (Nat.le_of_ble_eq_true rfl) rfl d k1
theorem G5_trial (C : CJ l0 Z (wC Z) Γ cc own rm n) {idx : Nat} (hl : Cond.fieldLink own idx "TideSeats" "trial" "LTideSeats$Shore;" ∈ wsL_law) (d : decode cc pc = .ok (.getfield idx, 3)) (k1 : J Γ x (pc + 3) L (.ref (Z.2.1 (25 + 6 * x.2.2.2.1)) :: st)) : J Γ x pc L (.ref (Z.2.1 0) :: st) := J_get C inlX5 0 rfl rfl 5 (by decide) hl rfl rfl d k1
theorem P5_trial {w : Nat} (C : CJ l0 Z (wC Z) Γ cc own rm n) {idx : Nat} (hl : Cond.fieldLink own idx "TideSeats" "trial" "LTideSeats$Shore;" ∈ wsL_law) (d : decode cc pc = .ok (.putfield idx, 3)) (k1 : J Γ (setT x w) (pc + 3) L st) : J Γ x pc L (.ref (Z.2.1 (25 + 6 * w)) :: .ref (Z.2.1 0) :: st) := J_put C inlX5 tyX5 tyX5_ok nmX5 0 rfl rfl 5 (by decide) hl rfl rfl (ty := .object "TideSeats$Shore") (tyX5_ok 5 (by decide)) rfl rfl (Nat.le_of_ble_eq_true rfl) rfl d k1
theorem G5_traced (C : CJ l0 Z (wC Z) Γ cc own rm n) {idx : Nat} (hl : Cond.fieldLink own idx "TideSeats" "traced" "I" ∈ wsL_law) (d : decode cc pc = .ok (.getfield idx, 3)) (k1 : J Γ x (pc + 3) L (.int (x.1 0) :: st)) : J Γ x pc L (.ref (Z.2.1 0) :: st) := J_get C inlX5 0 rfl rfl 6 (by decide) hl rfl rfl d k1
theorem P5_traced (C : CJ l0 Z (wC Z) Γ cc own rm n) {idx : Nat} (hl : Cond.fieldLink own idx "TideSeats" "traced" "I" ∈ wsL_law) {v : Int32} (d : decode cc pc = .ok (.putfield idx, 3)) (k1 : J Γ (setI x 0 v) (pc + 3) L st) : J Γ x pc L (.int v :: .ref (Z.2.1 0) :: st) := J_put C inlX5 tyX5 tyX5_ok nmX5 0 rfl rfl 6 (by decide) hl rfl rfl (ty := .int) (tyX5_ok 6 (by decide)) rfl rfl (Nat.le_of_ble_eq_true rfl) rfl d k1
theorem G5_latestFault (C : CJ l0 Z (wC Z) Γ cc own rm n) {idx : Nat} (hl : Cond.fieldLink own idx "TideSeats" "latestFault" "I" ∈ wsL_law) (d : decode cc pc = .ok (.getfield idx, 3)) (k1 : J Γ x (pc + 3) L (.int (x.1 1) :: st)) : J Γ x pc L (.ref (Z.2.1 0) :: st) := J_get C inlX5 0 rfl rfl 7 (by decide) hl rfl rfl d k1
theorem P5_latestFault (C : CJ l0 Z (wC Z) Γ cc own rm n) {idx : Nat} (hl : Cond.fieldLink own idx "TideSeats" "latestFault" "I" ∈ wsL_law) {v : Int32} (d : decode cc pc = .ok (.putfield idx, 3)) (k1 : J Γ (setI x 1 v) (pc + 3) L st) : J Γ x pc L (.int v :: .ref (Z.2.1 0) :: st) := J_put C inlX5 tyX5 tyX5_ok nmX5 0 rfl rfl 7 (by decide) hl rfl rfl (ty := .int) (tyX5_ok 7 (by decide)) rfl rfl (Nat.le_of_ble_eq_true rfl) rfl d k1
theorem G0_sheet {k : Nat} (h : x.2.2.2.2 = some k) (C : CJ l0 Z (wC Z) Γ cc own rm n) {idx : Nat} (hl : Cond.fieldLink own idx "TideSeats$Reader" "sheet" "LTideSeats$Sheet;" ∈ wsL_law) (d : decode cc pc = .ok (.getfield idx, 3)) (k1 : J Γ x (pc + 3) L (.ref (Z.2.1 (2 + k)) :: st)) : J Γ x pc L (.ref (Z.2.1 10) :: st) := J_get C inlX0 10 rfl rfl 0 (by decide) hl rfl (v := .ref (Z.2.1 (2 + k))) (by show some (va_rf (x.2.2.2.2.map (fun k => Z.2.1 (2 + k)))) = _; rw [h]; rfl) d k1
theorem P0_sheet {k : Nat} (C : CJ l0 Z (wC Z) Γ cc own rm n) {idx : Nat} (hl : Cond.fieldLink own idx "TideSeats$Reader" "sheet" "LTideSeats$Sheet;" ∈ wsL_law) (d : decode cc pc = .ok (.putfield idx, 3)) (k1 : J Γ (setR x (some k)) (pc + 3) L st) : J Γ x pc L (.ref (Z.2.1 (2 + k)) :: .ref (Z.2.1 10) :: st) := J_put C inlX0 tyX0 tyX0_ok nmX0 10 rfl rfl 0 (by decide) hl rfl rfl (ty := .object "TideSeats$Sheet") (tyX0_ok 0 (by decide)) rfl rfl (Nat.le_of_ble_eq_true rfl) rfl d k1
theorem G0_start (C : CJ l0 Z (wC Z) Γ cc own rm n) {idx : Nat} (hl : Cond.fieldLink own idx "TideSeats$Reader" "start" "I" ∈ wsL_law) (d : decode cc pc = .ok (.getfield idx, 3)) (k1 : J Γ x (pc + 3) L (.int (x.1 14) :: st)) : J Γ x pc L (.ref (Z.2.1 10) :: st) := J_get C inlX0 10 rfl rfl 1 (by decide) hl rfl rfl d k1
theorem P0_start (C : CJ l0 Z (wC Z) Γ cc own rm n) {idx : Nat} (hl : Cond.fieldLink own idx "TideSeats$Reader" "start" "I" ∈ wsL_law) {v : Int32} (d : decode cc pc = .ok (.putfield idx, 3)) (k1 : J Γ (setI x 14 v) (pc + 3) L st) : J Γ x pc L (.int v :: .ref (Z.2.1 10) :: st) := J_put C inlX0 tyX0 tyX0_ok nmX0 10 rfl rfl 1 (by decide) hl rfl rfl (ty := .int) (tyX0_ok 1 (by decide)) rfl rfl (Nat.le_of_ble_eq_true rfl) rfl d k1
theorem G0_end (C : CJ l0 Z (wC Z) Γ cc own rm n) {idx : Nat} (hl : Cond.fieldLink own idx "TideSeats$Reader" "end" "I" ∈ wsL_law) (d : decode cc pc = .ok (.getfield idx, 3)) (k1 : J Γ x (pc + 3) L (.int (x.1 15) :: st)) : J Γ x pc L (.ref (Z.2.1 10) :: st) := J_get C inlX0 10 rfl rfl 2 (by decide) hl rfl rfl d k1
theorem P0_end (C : CJ l0 Z (wC Z) Γ cc own rm n) {idx : Nat} (hl : Cond.fieldLink own idx "TideSeats$Reader" "end" "I" ∈ wsL_law) {v : Int32} (d : decode cc pc = .ok (.putfield idx, 3)) (k1 : J Γ (setI x 15 v) (pc + 3) L st) : J Γ x pc L (.int v :: .ref (Z.2.1 10) :: st) := J_put C inlX0 tyX0 tyX0_ok nmX0 10 rfl rfl 2 (by decide) hl rfl rfl (ty := .int) (tyX0_ok 2 (by decide)) rfl rfl (Nat.le_of_ble_eq_true rfl) rfl d k1
theorem G0_at (C : CJ l0 Z (wC Z) Γ cc own rm n) {idx : Nat} (hl : Cond.fieldLink own idx "TideSeats$Reader" "at" "I" ∈ wsL_law) (d : decode cc pc = .ok (.getfield idx, 3)) (k1 : J Γ x (pc + 3) L (.int (x.1 16) :: st)) : J Γ x pc L (.ref (Z.2.1 10) :: st) := J_get C inlX0 10 rfl rfl 3 (by decide) hl rfl rfl d k1
theorem P0_at (C : CJ l0 Z (wC Z) Γ cc own rm n) {idx : Nat} (hl : Cond.fieldLink own idx "TideSeats$Reader" "at" "I" ∈ wsL_law) {v : Int32} (d : decode cc pc = .ok (.putfield idx, 3)) (k1 : J Γ (setI x 16 v) (pc + 3) L st) : J Γ x pc L (.int v :: .ref (Z.2.1 10) :: st) := J_put C inlX0 tyX0 tyX0_ok nmX0 10 rfl rfl 3 (by decide) hl rfl rfl (ty := .int) (tyX0_ok 3 (by decide)) rfl rfl (Nat.le_of_ble_eq_true rfl) rfl d k1
theorem G1_who (C : CJ l0 Z (wC Z) Γ cc own rm n) {idx : Nat} (hl : Cond.fieldLink own idx "TideSeats$Readings" "who" "[I" ∈ wsL_law) (d : decode cc pc = .ok (.getfield idx, 3)) (k1 : J Γ x (pc + 3) L (.ref (Z.2.1 12) :: st)) : J Γ x pc L (.ref (Z.2.1 11) :: st) := J_get C inlX1 11 rfl rfl 0 (by decide) hl rfl rfl d k1
theorem G1_when (C : CJ l0 Z (wC Z) Γ cc own rm n) {idx : Nat} (hl : Cond.fieldLink own idx "TideSeats$Readings" "when" "[I" ∈ wsL_law) (d : decode cc pc = .ok (.getfield idx, 3)) (k1 : J Γ x (pc + 3) L (.ref (Z.2.1 13) :: st)) : J Γ x pc L (.ref (Z.2.1 11) :: st) := J_get C inlX1 11 rfl rfl 1 (by decide) hl rfl rfl d k1
theorem G1_where (C : CJ l0 Z (wC Z) Γ cc own rm n) {idx : Nat} (hl : Cond.fieldLink own idx "TideSeats$Readings" "where" "[I" ∈ wsL_law) (d : decode cc pc = .ok (.getfield idx, 3)) (k1 : J Γ x (pc + 3) L (.ref (Z.2.1 14) :: st)) : J Γ x pc L (.ref (Z.2.1 11) :: st) := J_get C inlX1 11 rfl rfl 2 (by decide) hl rfl rfl d k1
theorem G1_count (C : CJ l0 Z (wC Z) Γ cc own rm n) {idx : Nat} (hl : Cond.fieldLink own idx "TideSeats$Readings" "count" "I" ∈ wsL_law) (d : decode cc pc = .ok (.getfield idx, 3)) (k1 : J Γ x (pc + 3) L (.int (x.1 17) :: st)) : J Γ x pc L (.ref (Z.2.1 11) :: st) := J_get C inlX1 11 rfl rfl 3 (by decide) hl rfl rfl d k1
theorem P1_count (C : CJ l0 Z (wC Z) Γ cc own rm n) {idx : Nat} (hl : Cond.fieldLink own idx "TideSeats$Readings" "count" "I" ∈ wsL_law) {v : Int32} (d : decode cc pc = .ok (.putfield idx, 3)) (k1 : J Γ (setI x 17 v) (pc + 3) L st) : J Γ x pc L (.int v :: .ref (Z.2.1 11) :: st) := J_put C inlX1 tyX1 tyX1_ok nmX1 11 rfl rfl 3 (by decide) hl rfl rfl (ty := .int) (tyX1_ok 3 (by decide)) rfl rfl (Nat.le_of_ble_eq_true rfl) rfl d k1
theorem G2_behind (C : CJ l0 Z (wC Z) Γ cc own rm n) {idx : Nat} (hl : Cond.fieldLink own idx "TideSeats$Route" "behind" "[[I" ∈ wsL_law) (d : decode cc pc = .ok (.getfield idx, 3)) (k1 : J Γ x (pc + 3) L (.ref (Z.2.1 16) :: st)) : J Γ x pc L (.ref (Z.2.1 15) :: st) := J_get C inlX2 15 rfl rfl 0 (by decide) hl rfl rfl d k1
theorem G2_far (C : CJ l0 Z (wC Z) Γ cc own rm n) {idx : Nat} (hl : Cond.fieldLink own idx "TideSeats$Route" "far" "[I" ∈ wsL_law) (d : decode cc pc = .ok (.getfield idx, 3)) (k1 : J Γ x (pc + 3) L (.ref (Z.2.1 23) :: st)) : J Γ x pc L (.ref (Z.2.1 15) :: st) := J_get C inlX2 15 rfl rfl 1 (by decide) hl rfl rfl d k1
theorem G2_row (C : CJ l0 Z (wC Z) Γ cc own rm n) {idx : Nat} (hl : Cond.fieldLink own idx "TideSeats$Route" "row" "[I" ∈ wsL_law) (d : decode cc pc = .ok (.getfield idx, 3)) (k1 : J Γ x (pc + 3) L (.ref (Z.2.1 24) :: st)) : J Γ x pc L (.ref (Z.2.1 15) :: st) := J_get C inlX2 15 rfl rfl 2 (by decide) hl rfl rfl d k1
theorem G2_pools (C : CJ l0 Z (wC Z) Γ cc own rm n) {idx : Nat} (hl : Cond.fieldLink own idx "TideSeats$Route" "pools" "I" ∈ wsL_law) (d : decode cc pc = .ok (.getfield idx, 3)) (k1 : J Γ x (pc + 3) L (.int (x.1 18) :: st)) : J Γ x pc L (.ref (Z.2.1 15) :: st) := J_get C inlX2 15 rfl rfl 3 (by decide) hl rfl rfl d k1
theorem P2_pools (C : CJ l0 Z (wC Z) Γ cc own rm n) {idx : Nat} (hl : Cond.fieldLink own idx "TideSeats$Route" "pools" "I" ∈ wsL_law) {v : Int32} (d : decode cc pc = .ok (.putfield idx, 3)) (k1 : J Γ (setI x 18 v) (pc + 3) L st) : J Γ x pc L (.int v :: .ref (Z.2.1 15) :: st) := J_put C inlX2 tyX2 tyX2_ok nmX2 15 rfl rfl 3 (by decide) hl rfl rfl (ty := .int) (tyX2_ok 3 (by decide)) rfl rfl (Nat.le_of_ble_eq_true rfl) rfl d k1
theorem G2_moves (C : CJ l0 Z (wC Z) Γ cc own rm n) {idx : Nat} (hl : Cond.fieldLink own idx "TideSeats$Route" "moves" "I" ∈ wsL_law) (d : decode cc pc = .ok (.getfield idx, 3)) (k1 : J Γ x (pc + 3) L (.int (x.1 19) :: st)) : J Γ x pc L (.ref (Z.2.1 15) :: st) := J_get C inlX2 15 rfl rfl 4 (by decide) hl rfl rfl d k1
theorem P2_moves (C : CJ l0 Z (wC Z) Γ cc own rm n) {idx : Nat} (hl : Cond.fieldLink own idx "TideSeats$Route" "moves" "I" ∈ wsL_law) {v : Int32} (d : decode cc pc = .ok (.putfield idx, 3)) (k1 : J Γ (setI x 19 v) (pc + 3) L st) : J Γ x pc L (.int v :: .ref (Z.2.1 15) :: st) := J_put C inlX2 tyX2 tyX2_ok nmX2 15 rfl rfl 4 (by decide) hl rfl rfl (ty := .int) (tyX2_ok 4 (by decide)) rfl rfl (Nat.le_of_ble_eq_true rfl) rfl d k1
theorem G2_length (C : CJ l0 Z (wC Z) Γ cc own rm n) {idx : Nat} (hl : Cond.fieldLink own idx "TideSeats$Route" "length" "I" ∈ wsL_law) (d : decode cc pc = .ok (.getfield idx, 3)) (k1 : J Γ x (pc + 3) L (.int (x.1 20) :: st)) : J Γ x pc L (.ref (Z.2.1 15) :: st) := J_get C inlX2 15 rfl rfl 5 (by decide) hl rfl rfl d k1
theorem P2_length (C : CJ l0 Z (wC Z) Γ cc own rm n) {idx : Nat} (hl : Cond.fieldLink own idx "TideSeats$Route" "length" "I" ∈ wsL_law) {v : Int32} (d : decode cc pc = .ok (.putfield idx, 3)) (k1 : J Γ (setI x 20 v) (pc + 3) L st) : J Γ x pc L (.int v :: .ref (Z.2.1 15) :: st) := J_put C inlX2 tyX2 tyX2_ok nmX2 15 rfl rfl 5 (by decide) hl rfl rfl (ty := .int) (tyX2_ok 5 (by decide)) rfl rfl (Nat.le_of_ble_eq_true rfl) rfl d k1
theorem G3_cells {k : Nat} (h : k < 4) (C : CJ l0 Z (wC Z) Γ cc own rm n) {idx : Nat} (hl : Cond.fieldLink own idx "TideSeats$Sheet" "cells" "[I" ∈ wsL_law) (d : decode cc pc = .ok (.getfield idx, 3)) (k1 : J Γ x (pc + 3) L (.ref (Z.2.1 (6 + k)) :: st)) : J Γ x pc L (.ref (Z.2.1 (2 + k)) :: st) := J_get C inlX3 (2 + k) (at_sheet h) rfl 0 (by decide) hl rfl rfl d k1
theorem G3_isThere {k : Nat} (h : k < 4) (C : CJ l0 Z (wC Z) Γ cc own rm n) {idx : Nat} (hl : Cond.fieldLink own idx "TideSeats$Sheet" "isThere" "Z" ∈ wsL_law) (d : decode cc pc = .ok (.getfield idx, 3)) (k1 : J Γ x (pc + 3) L (.int (x.1 (2 + 3 * k)) :: st)) : J Γ x pc L (.ref (Z.2.1 (2 + k)) :: st) := J_get C inlX3 (2 + k) (at_sheet h) rfl 1 (by decide) hl rfl rfl d k1
theorem se3_isThere (Z : EC) (x : St) {k : Nat} (h : k < 4) (v : Int32) : (wC Z x).set (2 + k) (Z.2.1 (2 + k), .inr (3, ([.ref (Z.2.1 (6 + k)), .int (x.1 (2 + 3 * k)), .int (x.1 (3 + 3 * k)), .int (x.1 (4 + 3 * k))] : List Value).set 1 (.int v))) = wC Z (setI x (2 + 3 * k) v) := by
  match k, h with
  | 0, _ => rfl
  | 1, _ => rfl
  | 2, _ => rfl
  | 3, _ => rfl
theorem P3_isThere {k : Nat} (h : k < 4) (C : CJ l0 Z (wC Z) Γ cc own rm n) {idx : Nat} (hl : Cond.fieldLink own idx "TideSeats$Sheet" "isThere" "Z" ∈ wsL_law) {b : Bool} (d : decode cc pc = .ok (.putfield idx, 3)) (k1 : J Γ (setI x (2 + 3 * k) (b2i b)) (pc + 3) L st) : J Γ x pc L (.int (b2i b) :: .ref (Z.2.1 (2 + k)) :: st) := J_put C inlX3 tyX3 tyX3_ok nmX3 (2 + k) (at_sheet h) rfl 1 (by decide) hl rfl rfl (ty := .boolean) (tyX3_ok 1 (by decide)) (b2i_nar b) (b2i_fit b) (Nat.le_of_ble_eq_true rfl) (se3_isThere Z x h _) d k1
theorem G3_lane {k : Nat} (h : k < 4) (C : CJ l0 Z (wC Z) Γ cc own rm n) {idx : Nat} (hl : Cond.fieldLink own idx "TideSeats$Sheet" "lane" "I" ∈ wsL_law) (d : decode cc pc = .ok (.getfield idx, 3)) (k1 : J Γ x (pc + 3) L (.int (x.1 (3 + 3 * k)) :: st)) : J Γ x pc L (.ref (Z.2.1 (2 + k)) :: st) := J_get C inlX3 (2 + k) (at_sheet h) rfl 2 (by decide) hl rfl rfl d k1
theorem se3_lane (Z : EC) (x : St) {k : Nat} (h : k < 4) (v : Int32) : (wC Z x).set (2 + k) (Z.2.1 (2 + k), .inr (3, ([.ref (Z.2.1 (6 + k)), .int (x.1 (2 + 3 * k)), .int (x.1 (3 + 3 * k)), .int (x.1 (4 + 3 * k))] : List Value).set 2 (.int v))) = wC Z (setI x (3 + 3 * k) v) := by
  match k, h with
  | 0, _ => rfl
  | 1, _ => rfl
  | 2, _ => rfl
  | 3, _ => rfl
theorem P3_lane {k : Nat} (h : k < 4) (C : CJ l0 Z (wC Z) Γ cc own rm n) {idx : Nat} (hl : Cond.fieldLink own idx "TideSeats$Sheet" "lane" "I" ∈ wsL_law) {v : Int32} (d : decode cc pc = .ok (.putfield idx, 3)) (k1 : J Γ (setI x (3 + 3 * k) v) (pc + 3) L st) : J Γ x pc L (.int v :: .ref (Z.2.1 (2 + k)) :: st) := J_put C inlX3 tyX3 tyX3_ok nmX3 (2 + k) (at_sheet h) rfl 2 (by decide) hl rfl rfl (ty := .int) (tyX3_ok 2 (by decide)) rfl rfl (Nat.le_of_ble_eq_true rfl) (se3_lane Z x h _) d k1
theorem G3_size {k : Nat} (h : k < 4) (C : CJ l0 Z (wC Z) Γ cc own rm n) {idx : Nat} (hl : Cond.fieldLink own idx "TideSeats$Sheet" "size" "I" ∈ wsL_law) (d : decode cc pc = .ok (.getfield idx, 3)) (k1 : J Γ x (pc + 3) L (.int (x.1 (4 + 3 * k)) :: st)) : J Γ x pc L (.ref (Z.2.1 (2 + k)) :: st) := J_get C inlX3 (2 + k) (at_sheet h) rfl 3 (by decide) hl rfl rfl d k1
theorem se3_size (Z : EC) (x : St) {k : Nat} (h : k < 4) (v : Int32) : (wC Z x).set (2 + k) (Z.2.1 (2 + k), .inr (3, ([.ref (Z.2.1 (6 + k)), .int (x.1 (2 + 3 * k)), .int (x.1 (3 + 3 * k)), .int (x.1 (4 + 3 * k))] : List Value).set 3 (.int v))) = wC Z (setI x (4 + 3 * k) v) := by
  match k, h with
  | 0, _ => rfl
  | 1, _ => rfl
  | 2, _ => rfl
  | 3, _ => rfl
theorem P3_size {k : Nat} (h : k < 4) (C : CJ l0 Z (wC Z) Γ cc own rm n) {idx : Nat} (hl : Cond.fieldLink own idx "TideSeats$Sheet" "size" "I" ∈ wsL_law) {v : Int32} (d : decode cc pc = .ok (.putfield idx, 3)) (k1 : J Γ (setI x (4 + 3 * k) v) (pc + 3) L st) : J Γ x pc L (.int v :: .ref (Z.2.1 (2 + k)) :: st) := J_put C inlX3 tyX3 tyX3_ok nmX3 (2 + k) (at_sheet h) rfl 3 (by decide) hl rfl rfl (ty := .int) (tyX3_ok 3 (by decide)) rfl rfl (Nat.le_of_ble_eq_true rfl) (se3_size Z x h _) d k1
theorem G4_stream {w : Nat} (h : w < 2) (C : CJ l0 Z (wC Z) Γ cc own rm n) {idx : Nat} (hl : Cond.fieldLink own idx "TideSeats$Shore" "stream" "I" ∈ wsL_law) (d : decode cc pc = .ok (.getfield idx, 3)) (k1 : J Γ x (pc + 3) L (.int (x.1 (21 + 5 * w)) :: st)) : J Γ x pc L (.ref (Z.2.1 (25 + 6 * w)) :: st) := J_get C inlX4 (25 + 6 * w) (at_shore h) rfl 0 (by decide) hl rfl rfl d k1
theorem se4_stream (Z : EC) (x : St) {w : Nat} (h : w < 2) (v : Int32) : (wC Z x).set (25 + 6 * w) (Z.2.1 (25 + 6 * w), .inr (4, ([.int (x.1 (21 + 5 * w)), .int (x.1 (22 + 5 * w)), .int (x.1 (23 + 5 * w)), .int (x.1 (24 + 5 * w)), .ref (Z.2.1 (26 + 6 * w)), .ref (Z.2.1 (27 + 6 * w)), .int (x.1 (25 + 5 * w)), .ref (Z.2.1 (28 + 6 * w)), .ref (Z.2.1 (29 + 6 * w)), .ref (Z.2.1 (30 + 6 * w))] : List Value).set 0 (.int v))) = wC Z (setI x (21 + 5 * w) v) := by
  match w, h with
  | 0, _ => rfl
  | 1, _ => rfl
theorem P4_stream {w : Nat} (h : w < 2) (C : CJ l0 Z (wC Z) Γ cc own rm n) {idx : Nat} (hl : Cond.fieldLink own idx "TideSeats$Shore" "stream" "I" ∈ wsL_law) {v : Int32} (d : decode cc pc = .ok (.putfield idx, 3)) (k1 : J Γ (setI x (21 + 5 * w) v) (pc + 3) L st) : J Γ x pc L (.int v :: .ref (Z.2.1 (25 + 6 * w)) :: st) := J_put C inlX4 tyX4 tyX4_ok nmX4 (25 + 6 * w) (at_shore h) rfl 0 (by decide) hl rfl rfl (ty := .int) (tyX4_ok 0 (by decide)) rfl rfl (Nat.le_of_ble_eq_true rfl) (se4_stream Z x h _) d k1
theorem G4_mild {w : Nat} (h : w < 2) (C : CJ l0 Z (wC Z) Γ cc own rm n) {idx : Nat} (hl : Cond.fieldLink own idx "TideSeats$Shore" "mild" "I" ∈ wsL_law) (d : decode cc pc = .ok (.getfield idx, 3)) (k1 : J Γ x (pc + 3) L (.int (x.1 (22 + 5 * w)) :: st)) : J Γ x pc L (.ref (Z.2.1 (25 + 6 * w)) :: st) := J_get C inlX4 (25 + 6 * w) (at_shore h) rfl 1 (by decide) hl rfl rfl d k1
theorem se4_mild (Z : EC) (x : St) {w : Nat} (h : w < 2) (v : Int32) : (wC Z x).set (25 + 6 * w) (Z.2.1 (25 + 6 * w), .inr (4, ([.int (x.1 (21 + 5 * w)), .int (x.1 (22 + 5 * w)), .int (x.1 (23 + 5 * w)), .int (x.1 (24 + 5 * w)), .ref (Z.2.1 (26 + 6 * w)), .ref (Z.2.1 (27 + 6 * w)), .int (x.1 (25 + 5 * w)), .ref (Z.2.1 (28 + 6 * w)), .ref (Z.2.1 (29 + 6 * w)), .ref (Z.2.1 (30 + 6 * w))] : List Value).set 1 (.int v))) = wC Z (setI x (22 + 5 * w) v) := by
  match w, h with
  | 0, _ => rfl
  | 1, _ => rfl
theorem P4_mild {w : Nat} (h : w < 2) (C : CJ l0 Z (wC Z) Γ cc own rm n) {idx : Nat} (hl : Cond.fieldLink own idx "TideSeats$Shore" "mild" "I" ∈ wsL_law) {v : Int32} (d : decode cc pc = .ok (.putfield idx, 3)) (k1 : J Γ (setI x (22 + 5 * w) v) (pc + 3) L st) : J Γ x pc L (.int v :: .ref (Z.2.1 (25 + 6 * w)) :: st) := J_put C inlX4 tyX4 tyX4_ok nmX4 (25 + 6 * w) (at_shore h) rfl 1 (by decide) hl rfl rfl (ty := .int) (tyX4_ok 1 (by decide)) rfl rfl (Nat.le_of_ble_eq_true rfl) (se4_mild Z x h _) d k1
theorem G4_reach {w : Nat} (h : w < 2) (C : CJ l0 Z (wC Z) Γ cc own rm n) {idx : Nat} (hl : Cond.fieldLink own idx "TideSeats$Shore" "reach" "I" ∈ wsL_law) (d : decode cc pc = .ok (.getfield idx, 3)) (k1 : J Γ x (pc + 3) L (.int (x.1 (23 + 5 * w)) :: st)) : J Γ x pc L (.ref (Z.2.1 (25 + 6 * w)) :: st) := J_get C inlX4 (25 + 6 * w) (at_shore h) rfl 2 (by decide) hl rfl rfl d k1
theorem se4_reach (Z : EC) (x : St) {w : Nat} (h : w < 2) (v : Int32) : (wC Z x).set (25 + 6 * w) (Z.2.1 (25 + 6 * w), .inr (4, ([.int (x.1 (21 + 5 * w)), .int (x.1 (22 + 5 * w)), .int (x.1 (23 + 5 * w)), .int (x.1 (24 + 5 * w)), .ref (Z.2.1 (26 + 6 * w)), .ref (Z.2.1 (27 + 6 * w)), .int (x.1 (25 + 5 * w)), .ref (Z.2.1 (28 + 6 * w)), .ref (Z.2.1 (29 + 6 * w)), .ref (Z.2.1 (30 + 6 * w))] : List Value).set 2 (.int v))) = wC Z (setI x (23 + 5 * w) v) := by
  match w, h with
  | 0, _ => rfl
  | 1, _ => rfl
theorem P4_reach {w : Nat} (h : w < 2) (C : CJ l0 Z (wC Z) Γ cc own rm n) {idx : Nat} (hl : Cond.fieldLink own idx "TideSeats$Shore" "reach" "I" ∈ wsL_law) {v : Int32} (d : decode cc pc = .ok (.putfield idx, 3)) (k1 : J Γ (setI x (23 + 5 * w) v) (pc + 3) L st) : J Γ x pc L (.int v :: .ref (Z.2.1 (25 + 6 * w)) :: st) := J_put C inlX4 tyX4 tyX4_ok nmX4 (25 + 6 * w) (at_shore h) rfl 2 (by decide) hl rfl rfl (ty := .int) (tyX4_ok 2 (by decide)) rfl rfl (Nat.le_of_ble_eq_true rfl) (se4_reach Z x h _) d k1
theorem G4_pools {w : Nat} (h : w < 2) (C : CJ l0 Z (wC Z) Γ cc own rm n) {idx : Nat} (hl : Cond.fieldLink own idx "TideSeats$Shore" "pools" "I" ∈ wsL_law) (d : decode cc pc = .ok (.getfield idx, 3)) (k1 : J Γ x (pc + 3) L (.int (x.1 (24 + 5 * w)) :: st)) : J Γ x pc L (.ref (Z.2.1 (25 + 6 * w)) :: st) := J_get C inlX4 (25 + 6 * w) (at_shore h) rfl 3 (by decide) hl rfl rfl d k1
theorem se4_pools (Z : EC) (x : St) {w : Nat} (h : w < 2) (v : Int32) : (wC Z x).set (25 + 6 * w) (Z.2.1 (25 + 6 * w), .inr (4, ([.int (x.1 (21 + 5 * w)), .int (x.1 (22 + 5 * w)), .int (x.1 (23 + 5 * w)), .int (x.1 (24 + 5 * w)), .ref (Z.2.1 (26 + 6 * w)), .ref (Z.2.1 (27 + 6 * w)), .int (x.1 (25 + 5 * w)), .ref (Z.2.1 (28 + 6 * w)), .ref (Z.2.1 (29 + 6 * w)), .ref (Z.2.1 (30 + 6 * w))] : List Value).set 3 (.int v))) = wC Z (setI x (24 + 5 * w) v) := by
  match w, h with
  | 0, _ => rfl
  | 1, _ => rfl
theorem P4_pools {w : Nat} (h : w < 2) (C : CJ l0 Z (wC Z) Γ cc own rm n) {idx : Nat} (hl : Cond.fieldLink own idx "TideSeats$Shore" "pools" "I" ∈ wsL_law) {v : Int32} (d : decode cc pc = .ok (.putfield idx, 3)) (k1 : J Γ (setI x (24 + 5 * w) v) (pc + 3) L st) : J Γ x pc L (.int v :: .ref (Z.2.1 (25 + 6 * w)) :: st) := J_put C inlX4 tyX4 tyX4_ok nmX4 (25 + 6 * w) (at_shore h) rfl 3 (by decide) hl rfl rfl (ty := .int) (tyX4_ok 3 (by decide)) rfl rfl (Nat.le_of_ble_eq_true rfl) (se4_pools Z x h _) d k1
theorem G4_heights {w : Nat} (h : w < 2) (C : CJ l0 Z (wC Z) Γ cc own rm n) {idx : Nat} (hl : Cond.fieldLink own idx "TideSeats$Shore" "heights" "[I" ∈ wsL_law) (d : decode cc pc = .ok (.getfield idx, 3)) (k1 : J Γ x (pc + 3) L (.ref (Z.2.1 (26 + 6 * w)) :: st)) : J Γ x pc L (.ref (Z.2.1 (25 + 6 * w)) :: st) := J_get C inlX4 (25 + 6 * w) (at_shore h) rfl 4 (by decide) hl rfl rfl d k1
theorem G4_depths {w : Nat} (h : w < 2) (C : CJ l0 Z (wC Z) Γ cc own rm n) {idx : Nat} (hl : Cond.fieldLink own idx "TideSeats$Shore" "depths" "[I" ∈ wsL_law) (d : decode cc pc = .ok (.getfield idx, 3)) (k1 : J Γ x (pc + 3) L (.ref (Z.2.1 (27 + 6 * w)) :: st)) : J Γ x pc L (.ref (Z.2.1 (25 + 6 * w)) :: st) := J_get C inlX4 (25 + 6 * w) (at_shore h) rfl 5 (by decide) hl rfl rfl d k1
theorem G4_members {w : Nat} (h : w < 2) (C : CJ l0 Z (wC Z) Γ cc own rm n) {idx : Nat} (hl : Cond.fieldLink own idx "TideSeats$Shore" "members" "I" ∈ wsL_law) (d : decode cc pc = .ok (.getfield idx, 3)) (k1 : J Γ x (pc + 3) L (.int (x.1 (25 + 5 * w)) :: st)) : J Γ x pc L (.ref (Z.2.1 (25 + 6 * w)) :: st) := J_get C inlX4 (25 + 6 * w) (at_shore h) rfl 6 (by decide) hl rfl rfl d k1
theorem se4_members (Z : EC) (x : St) {w : Nat} (h : w < 2) (v : Int32) : (wC Z x).set (25 + 6 * w) (Z.2.1 (25 + 6 * w), .inr (4, ([.int (x.1 (21 + 5 * w)), .int (x.1 (22 + 5 * w)), .int (x.1 (23 + 5 * w)), .int (x.1 (24 + 5 * w)), .ref (Z.2.1 (26 + 6 * w)), .ref (Z.2.1 (27 + 6 * w)), .int (x.1 (25 + 5 * w)), .ref (Z.2.1 (28 + 6 * w)), .ref (Z.2.1 (29 + 6 * w)), .ref (Z.2.1 (30 + 6 * w))] : List Value).set 6 (.int v))) = wC Z (setI x (25 + 5 * w) v) := by
  match w, h with
  | 0, _ => rfl
  | 1, _ => rfl
theorem P4_members {w : Nat} (h : w < 2) (C : CJ l0 Z (wC Z) Γ cc own rm n) {idx : Nat} (hl : Cond.fieldLink own idx "TideSeats$Shore" "members" "I" ∈ wsL_law) {v : Int32} (d : decode cc pc = .ok (.putfield idx, 3)) (k1 : J Γ (setI x (25 + 5 * w) v) (pc + 3) L st) : J Γ x pc L (.int v :: .ref (Z.2.1 (25 + 6 * w)) :: st) := J_put C inlX4 tyX4 tyX4_ok nmX4 (25 + 6 * w) (at_shore h) rfl 6 (by decide) hl rfl rfl (ty := .int) (tyX4_ok 6 (by decide)) rfl rfl (Nat.le_of_ble_eq_true rfl) (se4_members Z x h _) d k1
theorem G4_kindOf {w : Nat} (h : w < 2) (C : CJ l0 Z (wC Z) Γ cc own rm n) {idx : Nat} (hl : Cond.fieldLink own idx "TideSeats$Shore" "kindOf" "[I" ∈ wsL_law) (d : decode cc pc = .ok (.getfield idx, 3)) (k1 : J Γ x (pc + 3) L (.ref (Z.2.1 (28 + 6 * w)) :: st)) : J Γ x pc L (.ref (Z.2.1 (25 + 6 * w)) :: st) := J_get C inlX4 (25 + 6 * w) (at_shore h) rfl 7 (by decide) hl rfl rfl d k1
theorem G4_seats {w : Nat} (h : w < 2) (C : CJ l0 Z (wC Z) Γ cc own rm n) {idx : Nat} (hl : Cond.fieldLink own idx "TideSeats$Shore" "seats" "[I" ∈ wsL_law) (d : decode cc pc = .ok (.getfield idx, 3)) (k1 : J Γ x (pc + 3) L (.ref (Z.2.1 (29 + 6 * w)) :: st)) : J Γ x pc L (.ref (Z.2.1 (25 + 6 * w)) :: st) := J_get C inlX4 (25 + 6 * w) (at_shore h) rfl 8 (by decide) hl rfl rfl d k1
theorem G4_views {w : Nat} (h : w < 2) (C : CJ l0 Z (wC Z) Γ cc own rm n) {idx : Nat} (hl : Cond.fieldLink own idx "TideSeats$Shore" "views" "[I" ∈ wsL_law) (d : decode cc pc = .ok (.getfield idx, 3)) (k1 : J Γ x (pc + 3) L (.ref (Z.2.1 (30 + 6 * w)) :: st)) : J Γ x pc L (.ref (Z.2.1 (25 + 6 * w)) :: st) := J_get C inlX4 (25 + 6 * w) (at_shore h) rfl 9 (by decide) hl rfl rfl d k1
theorem L_cells {k : Nat} (h : k < 4) (C : CJ l0 Z (wC Z) Γ cc own rm n) {t : Nat} {v : Int32} (ht : t < 60) (hv : x.2.1 (6 + k) t = v) (d : decode cc pc = .ok (.iaload, 1)) (k1 : J Γ x (pc + 1) L (.int v :: st)) : J Γ x pc L (.int (nI t) :: .ref (Z.2.1 (6 + k)) :: st) := J_iald C (6 + k) (at_cells h) (vp_in_nI ht (by decide)) (by rw [nI_clamp (Nat.lt_trans ht (by decide))]; exact hv) d k1
theorem sa_cells (Z : EC) (x : St) {k : Nat} (h : k < 4) (f : Nat → Int32) : (wC Z x).set (6 + k) (Z.2.1 (6 + k), .inl (Z.2.2.1, 60, .inl f)) = wC Z (setA x (6 + k) f) := by
  match k, h with
  | 0, _ => rfl
  | 1, _ => rfl
  | 2, _ => rfl
  | 3, _ => rfl
theorem S_cells {k : Nat} (h : k < 4) (C : CJ l0 Z (wC Z) Γ cc own rm n) {t : Nat} {v : Int32} (ht : t < 60) (d : decode cc pc = .ok (.iastore, 1)) (k1 : J Γ (setA x (6 + k) (upd (x.2.1 (6 + k)) t v)) (pc + 1) L st) : J Γ x pc L (.int v :: .int (nI t) :: .ref (Z.2.1 (6 + k)) :: st) := J_iast C (6 + k) (at_cells h) (vp_in_nI ht (by decide)) (x1 := setA x (6 + k) (upd (x.2.1 (6 + k)) t v)) (by rw [nI_clamp (Nat.lt_trans ht (by decide))]; exact (sa_cells Z x h _)) d k1
theorem L_rows {k : Nat} (h : k < 6) (C : CJ l0 Z (wC Z) Γ cc own rm n) {t : Nat} {v : Int32} (ht : t < 10) (hv : x.2.1 (17 + k) t = v) (d : decode cc pc = .ok (.iaload, 1)) (k1 : J Γ x (pc + 1) L (.int v :: st)) : J Γ x pc L (.int (nI t) :: .ref (Z.2.1 (17 + k)) :: st) := J_iald C (17 + k) (at_rows h) (vp_in_nI ht (by decide)) (by rw [nI_clamp (Nat.lt_trans ht (by decide))]; exact hv) d k1
theorem sa_rows (Z : EC) (x : St) {k : Nat} (h : k < 6) (f : Nat → Int32) : (wC Z x).set (17 + k) (Z.2.1 (17 + k), .inl (Z.2.2.1, 10, .inl f)) = wC Z (setA x (17 + k) f) := by
  match k, h with
  | 0, _ => rfl
  | 1, _ => rfl
  | 2, _ => rfl
  | 3, _ => rfl
  | 4, _ => rfl
  | 5, _ => rfl
theorem S_rows {k : Nat} (h : k < 6) (C : CJ l0 Z (wC Z) Γ cc own rm n) {t : Nat} {v : Int32} (ht : t < 10) (d : decode cc pc = .ok (.iastore, 1)) (k1 : J Γ (setA x (17 + k) (upd (x.2.1 (17 + k)) t v)) (pc + 1) L st) : J Γ x pc L (.int v :: .int (nI t) :: .ref (Z.2.1 (17 + k)) :: st) := J_iast C (17 + k) (at_rows h) (vp_in_nI ht (by decide)) (x1 := setA x (17 + k) (upd (x.2.1 (17 + k)) t v)) (by rw [nI_clamp (Nat.lt_trans ht (by decide))]; exact (sa_rows Z x h _)) d k1
theorem L_who (C : CJ l0 Z (wC Z) Γ cc own rm n) {t : Nat} {v : Int32} (ht : t < 8) (hv : x.2.1 12 t = v) (d : decode cc pc = .ok (.iaload, 1)) (k1 : J Γ x (pc + 1) L (.int v :: st)) : J Γ x pc L (.int (nI t) :: .ref (Z.2.1 12) :: st) := J_iald C 12 rfl (vp_in_nI ht (by decide)) (by rw [nI_clamp (Nat.lt_trans ht (by decide))]; exact hv) d k1
theorem S_who (C : CJ l0 Z (wC Z) Γ cc own rm n) {t : Nat} {v : Int32} (ht : t < 8) (d : decode cc pc = .ok (.iastore, 1)) (k1 : J Γ (setA x 12 (upd (x.2.1 12) t v)) (pc + 1) L st) : J Γ x pc L (.int v :: .int (nI t) :: .ref (Z.2.1 12) :: st) := J_iast C 12 rfl (vp_in_nI ht (by decide)) (x1 := setA x 12 (upd (x.2.1 12) t v)) (by rw [nI_clamp (Nat.lt_trans ht (by decide))]; exact rfl) d k1
theorem L_when (C : CJ l0 Z (wC Z) Γ cc own rm n) {t : Nat} {v : Int32} (ht : t < 8) (hv : x.2.1 13 t = v) (d : decode cc pc = .ok (.iaload, 1)) (k1 : J Γ x (pc + 1) L (.int v :: st)) : J Γ x pc L (.int (nI t) :: .ref (Z.2.1 13) :: st) := J_iald C 13 rfl (vp_in_nI ht (by decide)) (by rw [nI_clamp (Nat.lt_trans ht (by decide))]; exact hv) d k1
theorem S_when (C : CJ l0 Z (wC Z) Γ cc own rm n) {t : Nat} {v : Int32} (ht : t < 8) (d : decode cc pc = .ok (.iastore, 1)) (k1 : J Γ (setA x 13 (upd (x.2.1 13) t v)) (pc + 1) L st) : J Γ x pc L (.int v :: .int (nI t) :: .ref (Z.2.1 13) :: st) := J_iast C 13 rfl (vp_in_nI ht (by decide)) (x1 := setA x 13 (upd (x.2.1 13) t v)) (by rw [nI_clamp (Nat.lt_trans ht (by decide))]; exact rfl) d k1
theorem L_where (C : CJ l0 Z (wC Z) Γ cc own rm n) {t : Nat} {v : Int32} (ht : t < 8) (hv : x.2.1 14 t = v) (d : decode cc pc = .ok (.iaload, 1)) (k1 : J Γ x (pc + 1) L (.int v :: st)) : J Γ x pc L (.int (nI t) :: .ref (Z.2.1 14) :: st) := J_iald C 14 rfl (vp_in_nI ht (by decide)) (by rw [nI_clamp (Nat.lt_trans ht (by decide))]; exact hv) d k1
theorem S_where (C : CJ l0 Z (wC Z) Γ cc own rm n) {t : Nat} {v : Int32} (ht : t < 8) (d : decode cc pc = .ok (.iastore, 1)) (k1 : J Γ (setA x 14 (upd (x.2.1 14) t v)) (pc + 1) L st) : J Γ x pc L (.int v :: .int (nI t) :: .ref (Z.2.1 14) :: st) := J_iast C 14 rfl (vp_in_nI ht (by decide)) (x1 := setA x 14 (upd (x.2.1 14) t v)) (by rw [nI_clamp (Nat.lt_trans ht (by decide))]; exact rfl) d k1
theorem L_far (C : CJ l0 Z (wC Z) Γ cc own rm n) {t : Nat} {v : Int32} (ht : t < 6) (hv : x.2.1 23 t = v) (d : decode cc pc = .ok (.iaload, 1)) (k1 : J Γ x (pc + 1) L (.int v :: st)) : J Γ x pc L (.int (nI t) :: .ref (Z.2.1 23) :: st) := J_iald C 23 rfl (vp_in_nI ht (by decide)) (by rw [nI_clamp (Nat.lt_trans ht (by decide))]; exact hv) d k1
theorem S_far (C : CJ l0 Z (wC Z) Γ cc own rm n) {t : Nat} {v : Int32} (ht : t < 6) (d : decode cc pc = .ok (.iastore, 1)) (k1 : J Γ (setA x 23 (upd (x.2.1 23) t v)) (pc + 1) L st) : J Γ x pc L (.int v :: .int (nI t) :: .ref (Z.2.1 23) :: st) := J_iast C 23 rfl (vp_in_nI ht (by decide)) (x1 := setA x 23 (upd (x.2.1 23) t v)) (by rw [nI_clamp (Nat.lt_trans ht (by decide))]; exact rfl) d k1
theorem L_row (C : CJ l0 Z (wC Z) Γ cc own rm n) {t : Nat} {v : Int32} (ht : t < 6) (hv : x.2.1 24 t = v) (d : decode cc pc = .ok (.iaload, 1)) (k1 : J Γ x (pc + 1) L (.int v :: st)) : J Γ x pc L (.int (nI t) :: .ref (Z.2.1 24) :: st) := J_iald C 24 rfl (vp_in_nI ht (by decide)) (by rw [nI_clamp (Nat.lt_trans ht (by decide))]; exact hv) d k1
theorem S_row (C : CJ l0 Z (wC Z) Γ cc own rm n) {t : Nat} {v : Int32} (ht : t < 6) (d : decode cc pc = .ok (.iastore, 1)) (k1 : J Γ (setA x 24 (upd (x.2.1 24) t v)) (pc + 1) L st) : J Γ x pc L (.int v :: .int (nI t) :: .ref (Z.2.1 24) :: st) := J_iast C 24 rfl (vp_in_nI ht (by decide)) (x1 := setA x 24 (upd (x.2.1 24) t v)) (by rw [nI_clamp (Nat.lt_trans ht (by decide))]; exact rfl) d k1
theorem L_heights {w : Nat} (h : w < 2) (C : CJ l0 Z (wC Z) Γ cc own rm n) {t : Nat} {v : Int32} (ht : t < 6) (hv : x.2.1 (26 + 6 * w) t = v) (d : decode cc pc = .ok (.iaload, 1)) (k1 : J Γ x (pc + 1) L (.int v :: st)) : J Γ x pc L (.int (nI t) :: .ref (Z.2.1 (26 + 6 * w)) :: st) := J_iald C (26 + 6 * w) (at_sha0 h) (vp_in_nI ht (by decide)) (by rw [nI_clamp (Nat.lt_trans ht (by decide))]; exact hv) d k1
theorem sa_heights (Z : EC) (x : St) {w : Nat} (h : w < 2) (f : Nat → Int32) : (wC Z x).set (26 + 6 * w) (Z.2.1 (26 + 6 * w), .inl (Z.2.2.1, 6, .inl f)) = wC Z (setA x (26 + 6 * w) f) := by
  match w, h with
  | 0, _ => rfl
  | 1, _ => rfl
theorem S_heights {w : Nat} (h : w < 2) (C : CJ l0 Z (wC Z) Γ cc own rm n) {t : Nat} {v : Int32} (ht : t < 6) (d : decode cc pc = .ok (.iastore, 1)) (k1 : J Γ (setA x (26 + 6 * w) (upd (x.2.1 (26 + 6 * w)) t v)) (pc + 1) L st) : J Γ x pc L (.int v :: .int (nI t) :: .ref (Z.2.1 (26 + 6 * w)) :: st) := J_iast C (26 + 6 * w) (at_sha0 h) (vp_in_nI ht (by decide)) (x1 := setA x (26 + 6 * w) (upd (x.2.1 (26 + 6 * w)) t v)) (by rw [nI_clamp (Nat.lt_trans ht (by decide))]; exact (sa_heights Z x h _)) d k1
theorem L_depths {w : Nat} (h : w < 2) (C : CJ l0 Z (wC Z) Γ cc own rm n) {t : Nat} {v : Int32} (ht : t < 6) (hv : x.2.1 (27 + 6 * w) t = v) (d : decode cc pc = .ok (.iaload, 1)) (k1 : J Γ x (pc + 1) L (.int v :: st)) : J Γ x pc L (.int (nI t) :: .ref (Z.2.1 (27 + 6 * w)) :: st) := J_iald C (27 + 6 * w) (at_sha1 h) (vp_in_nI ht (by decide)) (by rw [nI_clamp (Nat.lt_trans ht (by decide))]; exact hv) d k1
theorem sa_depths (Z : EC) (x : St) {w : Nat} (h : w < 2) (f : Nat → Int32) : (wC Z x).set (27 + 6 * w) (Z.2.1 (27 + 6 * w), .inl (Z.2.2.1, 6, .inl f)) = wC Z (setA x (27 + 6 * w) f) := by
  match w, h with
  | 0, _ => rfl
  | 1, _ => rfl
theorem S_depths {w : Nat} (h : w < 2) (C : CJ l0 Z (wC Z) Γ cc own rm n) {t : Nat} {v : Int32} (ht : t < 6) (d : decode cc pc = .ok (.iastore, 1)) (k1 : J Γ (setA x (27 + 6 * w) (upd (x.2.1 (27 + 6 * w)) t v)) (pc + 1) L st) : J Γ x pc L (.int v :: .int (nI t) :: .ref (Z.2.1 (27 + 6 * w)) :: st) := J_iast C (27 + 6 * w) (at_sha1 h) (vp_in_nI ht (by decide)) (x1 := setA x (27 + 6 * w) (upd (x.2.1 (27 + 6 * w)) t v)) (by rw [nI_clamp (Nat.lt_trans ht (by decide))]; exact (sa_depths Z x h _)) d k1
theorem L_kindOf {w : Nat} (h : w < 2) (C : CJ l0 Z (wC Z) Γ cc own rm n) {t : Nat} {v : Int32} (ht : t < 6) (hv : x.2.1 (28 + 6 * w) t = v) (d : decode cc pc = .ok (.iaload, 1)) (k1 : J Γ x (pc + 1) L (.int v :: st)) : J Γ x pc L (.int (nI t) :: .ref (Z.2.1 (28 + 6 * w)) :: st) := J_iald C (28 + 6 * w) (at_sha2 h) (vp_in_nI ht (by decide)) (by rw [nI_clamp (Nat.lt_trans ht (by decide))]; exact hv) d k1
theorem sa_kindOf (Z : EC) (x : St) {w : Nat} (h : w < 2) (f : Nat → Int32) : (wC Z x).set (28 + 6 * w) (Z.2.1 (28 + 6 * w), .inl (Z.2.2.1, 6, .inl f)) = wC Z (setA x (28 + 6 * w) f) := by
  match w, h with
  | 0, _ => rfl
  | 1, _ => rfl
theorem S_kindOf {w : Nat} (h : w < 2) (C : CJ l0 Z (wC Z) Γ cc own rm n) {t : Nat} {v : Int32} (ht : t < 6) (d : decode cc pc = .ok (.iastore, 1)) (k1 : J Γ (setA x (28 + 6 * w) (upd (x.2.1 (28 + 6 * w)) t v)) (pc + 1) L st) : J Γ x pc L (.int v :: .int (nI t) :: .ref (Z.2.1 (28 + 6 * w)) :: st) := J_iast C (28 + 6 * w) (at_sha2 h) (vp_in_nI ht (by decide)) (x1 := setA x (28 + 6 * w) (upd (x.2.1 (28 + 6 * w)) t v)) (by rw [nI_clamp (Nat.lt_trans ht (by decide))]; exact (sa_kindOf Z x h _)) d k1
theorem L_seats {w : Nat} (h : w < 2) (C : CJ l0 Z (wC Z) Γ cc own rm n) {t : Nat} {v : Int32} (ht : t < 6) (hv : x.2.1 (29 + 6 * w) t = v) (d : decode cc pc = .ok (.iaload, 1)) (k1 : J Γ x (pc + 1) L (.int v :: st)) : J Γ x pc L (.int (nI t) :: .ref (Z.2.1 (29 + 6 * w)) :: st) := J_iald C (29 + 6 * w) (at_sha3 h) (vp_in_nI ht (by decide)) (by rw [nI_clamp (Nat.lt_trans ht (by decide))]; exact hv) d k1
theorem sa_seats (Z : EC) (x : St) {w : Nat} (h : w < 2) (f : Nat → Int32) : (wC Z x).set (29 + 6 * w) (Z.2.1 (29 + 6 * w), .inl (Z.2.2.1, 6, .inl f)) = wC Z (setA x (29 + 6 * w) f) := by
  match w, h with
  | 0, _ => rfl
  | 1, _ => rfl
theorem S_seats {w : Nat} (h : w < 2) (C : CJ l0 Z (wC Z) Γ cc own rm n) {t : Nat} {v : Int32} (ht : t < 6) (d : decode cc pc = .ok (.iastore, 1)) (k1 : J Γ (setA x (29 + 6 * w) (upd (x.2.1 (29 + 6 * w)) t v)) (pc + 1) L st) : J Γ x pc L (.int v :: .int (nI t) :: .ref (Z.2.1 (29 + 6 * w)) :: st) := J_iast C (29 + 6 * w) (at_sha3 h) (vp_in_nI ht (by decide)) (x1 := setA x (29 + 6 * w) (upd (x.2.1 (29 + 6 * w)) t v)) (by rw [nI_clamp (Nat.lt_trans ht (by decide))]; exact (sa_seats Z x h _)) d k1
theorem L_views {w : Nat} (h : w < 2) (C : CJ l0 Z (wC Z) Γ cc own rm n) {t : Nat} {v : Int32} (ht : t < 6) (hv : x.2.1 (30 + 6 * w) t = v) (d : decode cc pc = .ok (.iaload, 1)) (k1 : J Γ x (pc + 1) L (.int v :: st)) : J Γ x pc L (.int (nI t) :: .ref (Z.2.1 (30 + 6 * w)) :: st) := J_iald C (30 + 6 * w) (at_sha4 h) (vp_in_nI ht (by decide)) (by rw [nI_clamp (Nat.lt_trans ht (by decide))]; exact hv) d k1
theorem sa_views (Z : EC) (x : St) {w : Nat} (h : w < 2) (f : Nat → Int32) : (wC Z x).set (30 + 6 * w) (Z.2.1 (30 + 6 * w), .inl (Z.2.2.1, 6, .inl f)) = wC Z (setA x (30 + 6 * w) f) := by
  match w, h with
  | 0, _ => rfl
  | 1, _ => rfl
theorem S_views {w : Nat} (h : w < 2) (C : CJ l0 Z (wC Z) Γ cc own rm n) {t : Nat} {v : Int32} (ht : t < 6) (d : decode cc pc = .ok (.iastore, 1)) (k1 : J Γ (setA x (30 + 6 * w) (upd (x.2.1 (30 + 6 * w)) t v)) (pc + 1) L st) : J Γ x pc L (.int v :: .int (nI t) :: .ref (Z.2.1 (30 + 6 * w)) :: st) := J_iast C (30 + 6 * w) (at_sha4 h) (vp_in_nI ht (by decide)) (x1 := setA x (30 + 6 * w) (upd (x.2.1 (30 + 6 * w)) t v)) (by rw [nI_clamp (Nat.lt_trans ht (by decide))]; exact (sa_views Z x h _)) d k1
theorem L_sheets (C : CJ l0 Z (wC Z) Γ cc own rm n) {k : Nat} (h : k < 4) (d : decode cc pc = .ok (.aaload, 1)) (k1 : J Γ x (pc + 1) L (.ref (Z.2.1 (2 + k)) :: st)) : J Γ x pc L (.int (nI k) :: .ref (Z.2.1 1) :: st) := J_aald C 1 1 rfl rfl rfl (vp_in_nI h (by decide)) (by rw [nI_clamp (Nat.lt_trans h (by decide))]) d k1
theorem L_behind (C : CJ l0 Z (wC Z) Γ cc own rm n) {k : Nat} (h : k < 6) (d : decode cc pc = .ok (.aaload, 1)) (k1 : J Γ x (pc + 1) L (.ref (Z.2.1 (17 + k)) :: st)) : J Γ x pc L (.int (nI k) :: .ref (Z.2.1 16) :: st) := J_aald C 16 2 rfl rfl rfl (vp_in_nI h (by decide)) (by rw [nI_clamp (Nat.lt_trans h (by decide))]) d k1
end JW
section JM
variable {l0 : Launch} {Z : EC} {Γ : CTX Mt} {x : Mt} {cc : ByteArray} {own : String} {rm : Room} {n pc : Nat} {L : List (Option Value)} {st : List Value}
theorem G6_fault (C : CJ l0 Z (wM Z) Γ cc own rm n) {idx : Nat} (hl : Cond.fieldLink own idx "TideSeatsModel" "fault" "I" ∈ wsL_law) (d : decode cc pc = .ok (.getfield idx, 3)) (k1 : J Γ x (pc + 3) L (.int (x.1 0) :: st)) : J Γ x pc L (.ref (Z.2.1 0) :: st) := J_get C inlX6 0 rfl rfl 0 (by decide) hl rfl rfl d k1
theorem P6_fault (C : CJ l0 Z (wM Z) Γ cc own rm n) {idx : Nat} (hl : Cond.fieldLink own idx "TideSeatsModel" "fault" "I" ∈ wsL_law) {v : Int32} (d : decode cc pc = .ok (.putfield idx, 3)) (k1 : J Γ (mI x 0 v) (pc + 3) L st) : J Γ x pc L (.int v :: .ref (Z.2.1 0) :: st) := J_put C inlX6 tyX6 tyX6_ok nmX6 0 rfl rfl 0 (by decide) hl rfl rfl (ty := .int) (tyX6_ok 0 (by decide)) rfl rfl (Nat.le_of_ble_eq_true rfl) rfl d k1
theorem G6_trace (C : CJ l0 Z (wM Z) Γ cc own rm n) {idx : Nat} (hl : Cond.fieldLink own idx "TideSeatsModel" "trace" "I" ∈ wsL_law) (d : decode cc pc = .ok (.getfield idx, 3)) (k1 : J Γ x (pc + 3) L (.int (x.1 1) :: st)) : J Γ x pc L (.ref (Z.2.1 0) :: st) := J_get C inlX6 0 rfl rfl 1 (by decide) hl rfl rfl d k1
theorem P6_trace (C : CJ l0 Z (wM Z) Γ cc own rm n) {idx : Nat} (hl : Cond.fieldLink own idx "TideSeatsModel" "trace" "I" ∈ wsL_law) {v : Int32} (d : decode cc pc = .ok (.putfield idx, 3)) (k1 : J Γ (mI x 1 v) (pc + 3) L st) : J Γ x pc L (.int v :: .ref (Z.2.1 0) :: st) := J_put C inlX6 tyX6 tyX6_ok nmX6 0 rfl rfl 1 (by decide) hl rfl rfl (ty := .int) (tyX6_ok 1 (by decide)) rfl rfl (Nat.le_of_ble_eq_true rfl) rfl d k1
theorem G6_sorts (C : CJ l0 Z (wM Z) Γ cc own rm n) {idx : Nat} (hl : Cond.fieldLink own idx "TideSeatsModel" "sorts" "[I" ∈ wsL_law) (d : decode cc pc = .ok (.getfield idx, 3)) (k1 : J Γ x (pc + 3) L (.ref (Z.2.1 2) :: st)) : J Γ x pc L (.ref (Z.2.1 0) :: st) := J_get C inlX6 0 rfl rfl 2 (by decide) hl rfl rfl d k1
theorem LM_sorts (C : CJ l0 Z (wM Z) Γ cc own rm n) {t : Nat} {v : Int32} (ht : t < 4) (hv : x.2 2 t = v) (d : decode cc pc = .ok (.iaload, 1)) (k1 : J Γ x (pc + 1) L (.int v :: st)) : J Γ x pc L (.int (nI t) :: .ref (Z.2.1 2) :: st) := J_iald C 1 rfl (vp_in_nI ht (by decide)) (by rw [nI_clamp (Nat.lt_trans ht (by decide))]; exact hv) d k1
theorem SM_sorts (C : CJ l0 Z (wM Z) Γ cc own rm n) {t : Nat} {v : Int32} (ht : t < 4) (d : decode cc pc = .ok (.iastore, 1)) (k1 : J Γ (mA x 2 (upd (x.2 2) t v)) (pc + 1) L st) : J Γ x pc L (.int v :: .int (nI t) :: .ref (Z.2.1 2) :: st) := J_iast C 1 rfl (vp_in_nI ht (by decide)) (x1 := mA x 2 (upd (x.2 2) t v)) (by rw [nI_clamp (Nat.lt_trans ht (by decide))]; rfl) d k1
theorem G6_sheetLong (C : CJ l0 Z (wM Z) Γ cc own rm n) {idx : Nat} (hl : Cond.fieldLink own idx "TideSeatsModel" "sheetLong" "[I" ∈ wsL_law) (d : decode cc pc = .ok (.getfield idx, 3)) (k1 : J Γ x (pc + 3) L (.ref (Z.2.1 3) :: st)) : J Γ x pc L (.ref (Z.2.1 0) :: st) := J_get C inlX6 0 rfl rfl 3 (by decide) hl rfl rfl d k1
theorem LM_sheetLong (C : CJ l0 Z (wM Z) Γ cc own rm n) {t : Nat} {v : Int32} (ht : t < 4) (hv : x.2 3 t = v) (d : decode cc pc = .ok (.iaload, 1)) (k1 : J Γ x (pc + 1) L (.int v :: st)) : J Γ x pc L (.int (nI t) :: .ref (Z.2.1 3) :: st) := J_iald C 2 rfl (vp_in_nI ht (by decide)) (by rw [nI_clamp (Nat.lt_trans ht (by decide))]; exact hv) d k1
theorem SM_sheetLong (C : CJ l0 Z (wM Z) Γ cc own rm n) {t : Nat} {v : Int32} (ht : t < 4) (d : decode cc pc = .ok (.iastore, 1)) (k1 : J Γ (mA x 3 (upd (x.2 3) t v)) (pc + 1) L st) : J Γ x pc L (.int v :: .int (nI t) :: .ref (Z.2.1 3) :: st) := J_iast C 2 rfl (vp_in_nI ht (by decide)) (x1 := mA x 3 (upd (x.2 3) t v)) (by rw [nI_clamp (Nat.lt_trans ht (by decide))]; rfl) d k1
theorem G6_cells (C : CJ l0 Z (wM Z) Γ cc own rm n) {idx : Nat} (hl : Cond.fieldLink own idx "TideSeatsModel" "cells" "[I" ∈ wsL_law) (d : decode cc pc = .ok (.getfield idx, 3)) (k1 : J Γ x (pc + 3) L (.ref (Z.2.1 4) :: st)) : J Γ x pc L (.ref (Z.2.1 0) :: st) := J_get C inlX6 0 rfl rfl 4 (by decide) hl rfl rfl d k1
theorem LM_cells (C : CJ l0 Z (wM Z) Γ cc own rm n) {t : Nat} {v : Int32} (ht : t < 240) (hv : x.2 4 t = v) (d : decode cc pc = .ok (.iaload, 1)) (k1 : J Γ x (pc + 1) L (.int v :: st)) : J Γ x pc L (.int (nI t) :: .ref (Z.2.1 4) :: st) := J_iald C 3 rfl (vp_in_nI ht (by decide)) (by rw [nI_clamp (Nat.lt_trans ht (by decide))]; exact hv) d k1
theorem SM_cells (C : CJ l0 Z (wM Z) Γ cc own rm n) {t : Nat} {v : Int32} (ht : t < 240) (d : decode cc pc = .ok (.iastore, 1)) (k1 : J Γ (mA x 4 (upd (x.2 4) t v)) (pc + 1) L st) : J Γ x pc L (.int v :: .int (nI t) :: .ref (Z.2.1 4) :: st) := J_iast C 3 rfl (vp_in_nI ht (by decide)) (x1 := mA x 4 (upd (x.2 4) t v)) (by rw [nI_clamp (Nat.lt_trans ht (by decide))]; rfl) d k1
theorem G6_pools (C : CJ l0 Z (wM Z) Γ cc own rm n) {idx : Nat} (hl : Cond.fieldLink own idx "TideSeatsModel" "pools" "I" ∈ wsL_law) (d : decode cc pc = .ok (.getfield idx, 3)) (k1 : J Γ x (pc + 3) L (.int (x.1 5) :: st)) : J Γ x pc L (.ref (Z.2.1 0) :: st) := J_get C inlX6 0 rfl rfl 5 (by decide) hl rfl rfl d k1
theorem P6_pools (C : CJ l0 Z (wM Z) Γ cc own rm n) {idx : Nat} (hl : Cond.fieldLink own idx "TideSeatsModel" "pools" "I" ∈ wsL_law) {v : Int32} (d : decode cc pc = .ok (.putfield idx, 3)) (k1 : J Γ (mI x 5 v) (pc + 3) L st) : J Γ x pc L (.int v :: .ref (Z.2.1 0) :: st) := J_put C inlX6 tyX6 tyX6_ok nmX6 0 rfl rfl 5 (by decide) hl rfl rfl (ty := .int) (tyX6_ok 5 (by decide)) rfl rfl (Nat.le_of_ble_eq_true rfl) rfl d k1
theorem G6_members (C : CJ l0 Z (wM Z) Γ cc own rm n) {idx : Nat} (hl : Cond.fieldLink own idx "TideSeatsModel" "members" "I" ∈ wsL_law) (d : decode cc pc = .ok (.getfield idx, 3)) (k1 : J Γ x (pc + 3) L (.int (x.1 6) :: st)) : J Γ x pc L (.ref (Z.2.1 0) :: st) := J_get C inlX6 0 rfl rfl 6 (by decide) hl rfl rfl d k1
theorem P6_members (C : CJ l0 Z (wM Z) Γ cc own rm n) {idx : Nat} (hl : Cond.fieldLink own idx "TideSeatsModel" "members" "I" ∈ wsL_law) {v : Int32} (d : decode cc pc = .ok (.putfield idx, 3)) (k1 : J Γ (mI x 6 v) (pc + 3) L st) : J Γ x pc L (.int v :: .ref (Z.2.1 0) :: st) := J_put C inlX6 tyX6 tyX6_ok nmX6 0 rfl rfl 6 (by decide) hl rfl rfl (ty := .int) (tyX6_ok 6 (by decide)) rfl rfl (Nat.le_of_ble_eq_true rfl) rfl d k1
theorem G6_stream (C : CJ l0 Z (wM Z) Γ cc own rm n) {idx : Nat} (hl : Cond.fieldLink own idx "TideSeatsModel" "stream" "I" ∈ wsL_law) (d : decode cc pc = .ok (.getfield idx, 3)) (k1 : J Γ x (pc + 3) L (.int (x.1 7) :: st)) : J Γ x pc L (.ref (Z.2.1 0) :: st) := J_get C inlX6 0 rfl rfl 7 (by decide) hl rfl rfl d k1
theorem P6_stream (C : CJ l0 Z (wM Z) Γ cc own rm n) {idx : Nat} (hl : Cond.fieldLink own idx "TideSeatsModel" "stream" "I" ∈ wsL_law) {v : Int32} (d : decode cc pc = .ok (.putfield idx, 3)) (k1 : J Γ (mI x 7 v) (pc + 3) L st) : J Γ x pc L (.int v :: .ref (Z.2.1 0) :: st) := J_put C inlX6 tyX6 tyX6_ok nmX6 0 rfl rfl 7 (by decide) hl rfl rfl (ty := .int) (tyX6_ok 7 (by decide)) rfl rfl (Nat.le_of_ble_eq_true rfl) rfl d k1
theorem G6_mild (C : CJ l0 Z (wM Z) Γ cc own rm n) {idx : Nat} (hl : Cond.fieldLink own idx "TideSeatsModel" "mild" "I" ∈ wsL_law) (d : decode cc pc = .ok (.getfield idx, 3)) (k1 : J Γ x (pc + 3) L (.int (x.1 8) :: st)) : J Γ x pc L (.ref (Z.2.1 0) :: st) := J_get C inlX6 0 rfl rfl 8 (by decide) hl rfl rfl d k1
theorem P6_mild (C : CJ l0 Z (wM Z) Γ cc own rm n) {idx : Nat} (hl : Cond.fieldLink own idx "TideSeatsModel" "mild" "I" ∈ wsL_law) {v : Int32} (d : decode cc pc = .ok (.putfield idx, 3)) (k1 : J Γ (mI x 8 v) (pc + 3) L st) : J Γ x pc L (.int v :: .ref (Z.2.1 0) :: st) := J_put C inlX6 tyX6 tyX6_ok nmX6 0 rfl rfl 8 (by decide) hl rfl rfl (ty := .int) (tyX6_ok 8 (by decide)) rfl rfl (Nat.le_of_ble_eq_true rfl) rfl d k1
theorem G6_leapNow (C : CJ l0 Z (wM Z) Γ cc own rm n) {idx : Nat} (hl : Cond.fieldLink own idx "TideSeatsModel" "leapNow" "I" ∈ wsL_law) (d : decode cc pc = .ok (.getfield idx, 3)) (k1 : J Γ x (pc + 3) L (.int (x.1 9) :: st)) : J Γ x pc L (.ref (Z.2.1 0) :: st) := J_get C inlX6 0 rfl rfl 9 (by decide) hl rfl rfl d k1
theorem P6_leapNow (C : CJ l0 Z (wM Z) Γ cc own rm n) {idx : Nat} (hl : Cond.fieldLink own idx "TideSeatsModel" "leapNow" "I" ∈ wsL_law) {v : Int32} (d : decode cc pc = .ok (.putfield idx, 3)) (k1 : J Γ (mI x 9 v) (pc + 3) L st) : J Γ x pc L (.int v :: .ref (Z.2.1 0) :: st) := J_put C inlX6 tyX6 tyX6_ok nmX6 0 rfl rfl 9 (by decide) hl rfl rfl (ty := .int) (tyX6_ok 9 (by decide)) rfl rfl (Nat.le_of_ble_eq_true rfl) rfl d k1
theorem G6_height (C : CJ l0 Z (wM Z) Γ cc own rm n) {idx : Nat} (hl : Cond.fieldLink own idx "TideSeatsModel" "height" "[I" ∈ wsL_law) (d : decode cc pc = .ok (.getfield idx, 3)) (k1 : J Γ x (pc + 3) L (.ref (Z.2.1 10) :: st)) : J Γ x pc L (.ref (Z.2.1 0) :: st) := J_get C inlX6 0 rfl rfl 10 (by decide) hl rfl rfl d k1
theorem LM_height (C : CJ l0 Z (wM Z) Γ cc own rm n) {t : Nat} {v : Int32} (ht : t < 6) (hv : x.2 10 t = v) (d : decode cc pc = .ok (.iaload, 1)) (k1 : J Γ x (pc + 1) L (.int v :: st)) : J Γ x pc L (.int (nI t) :: .ref (Z.2.1 10) :: st) := J_iald C 4 rfl (vp_in_nI ht (by decide)) (by rw [nI_clamp (Nat.lt_trans ht (by decide))]; exact hv) d k1
theorem SM_height (C : CJ l0 Z (wM Z) Γ cc own rm n) {t : Nat} {v : Int32} (ht : t < 6) (d : decode cc pc = .ok (.iastore, 1)) (k1 : J Γ (mA x 10 (upd (x.2 10) t v)) (pc + 1) L st) : J Γ x pc L (.int v :: .int (nI t) :: .ref (Z.2.1 10) :: st) := J_iast C 4 rfl (vp_in_nI ht (by decide)) (x1 := mA x 10 (upd (x.2 10) t v)) (by rw [nI_clamp (Nat.lt_trans ht (by decide))]; rfl) d k1
theorem G6_depth (C : CJ l0 Z (wM Z) Γ cc own rm n) {idx : Nat} (hl : Cond.fieldLink own idx "TideSeatsModel" "depth" "[I" ∈ wsL_law) (d : decode cc pc = .ok (.getfield idx, 3)) (k1 : J Γ x (pc + 3) L (.ref (Z.2.1 11) :: st)) : J Γ x pc L (.ref (Z.2.1 0) :: st) := J_get C inlX6 0 rfl rfl 11 (by decide) hl rfl rfl d k1
theorem LM_depth (C : CJ l0 Z (wM Z) Γ cc own rm n) {t : Nat} {v : Int32} (ht : t < 6) (hv : x.2 11 t = v) (d : decode cc pc = .ok (.iaload, 1)) (k1 : J Γ x (pc + 1) L (.int v :: st)) : J Γ x pc L (.int (nI t) :: .ref (Z.2.1 11) :: st) := J_iald C 5 rfl (vp_in_nI ht (by decide)) (by rw [nI_clamp (Nat.lt_trans ht (by decide))]; exact hv) d k1
theorem SM_depth (C : CJ l0 Z (wM Z) Γ cc own rm n) {t : Nat} {v : Int32} (ht : t < 6) (d : decode cc pc = .ok (.iastore, 1)) (k1 : J Γ (mA x 11 (upd (x.2 11) t v)) (pc + 1) L st) : J Γ x pc L (.int v :: .int (nI t) :: .ref (Z.2.1 11) :: st) := J_iast C 5 rfl (vp_in_nI ht (by decide)) (x1 := mA x 11 (upd (x.2 11) t v)) (by rw [nI_clamp (Nat.lt_trans ht (by decide))]; rfl) d k1
theorem G6_kind (C : CJ l0 Z (wM Z) Γ cc own rm n) {idx : Nat} (hl : Cond.fieldLink own idx "TideSeatsModel" "kind" "[I" ∈ wsL_law) (d : decode cc pc = .ok (.getfield idx, 3)) (k1 : J Γ x (pc + 3) L (.ref (Z.2.1 12) :: st)) : J Γ x pc L (.ref (Z.2.1 0) :: st) := J_get C inlX6 0 rfl rfl 12 (by decide) hl rfl rfl d k1
theorem LM_kind (C : CJ l0 Z (wM Z) Γ cc own rm n) {t : Nat} {v : Int32} (ht : t < 6) (hv : x.2 12 t = v) (d : decode cc pc = .ok (.iaload, 1)) (k1 : J Γ x (pc + 1) L (.int v :: st)) : J Γ x pc L (.int (nI t) :: .ref (Z.2.1 12) :: st) := J_iald C 6 rfl (vp_in_nI ht (by decide)) (by rw [nI_clamp (Nat.lt_trans ht (by decide))]; exact hv) d k1
theorem SM_kind (C : CJ l0 Z (wM Z) Γ cc own rm n) {t : Nat} {v : Int32} (ht : t < 6) (d : decode cc pc = .ok (.iastore, 1)) (k1 : J Γ (mA x 12 (upd (x.2 12) t v)) (pc + 1) L st) : J Γ x pc L (.int v :: .int (nI t) :: .ref (Z.2.1 12) :: st) := J_iast C 6 rfl (vp_in_nI ht (by decide)) (x1 := mA x 12 (upd (x.2 12) t v)) (by rw [nI_clamp (Nat.lt_trans ht (by decide))]; rfl) d k1
theorem G6_poolOf (C : CJ l0 Z (wM Z) Γ cc own rm n) {idx : Nat} (hl : Cond.fieldLink own idx "TideSeatsModel" "poolOf" "[I" ∈ wsL_law) (d : decode cc pc = .ok (.getfield idx, 3)) (k1 : J Γ x (pc + 3) L (.ref (Z.2.1 13) :: st)) : J Γ x pc L (.ref (Z.2.1 0) :: st) := J_get C inlX6 0 rfl rfl 13 (by decide) hl rfl rfl d k1
theorem LM_poolOf (C : CJ l0 Z (wM Z) Γ cc own rm n) {t : Nat} {v : Int32} (ht : t < 6) (hv : x.2 13 t = v) (d : decode cc pc = .ok (.iaload, 1)) (k1 : J Γ x (pc + 1) L (.int v :: st)) : J Γ x pc L (.int (nI t) :: .ref (Z.2.1 13) :: st) := J_iald C 7 rfl (vp_in_nI ht (by decide)) (by rw [nI_clamp (Nat.lt_trans ht (by decide))]; exact hv) d k1
theorem SM_poolOf (C : CJ l0 Z (wM Z) Γ cc own rm n) {t : Nat} {v : Int32} (ht : t < 6) (d : decode cc pc = .ok (.iastore, 1)) (k1 : J Γ (mA x 13 (upd (x.2 13) t v)) (pc + 1) L st) : J Γ x pc L (.int v :: .int (nI t) :: .ref (Z.2.1 13) :: st) := J_iast C 7 rfl (vp_in_nI ht (by decide)) (x1 := mA x 13 (upd (x.2 13) t v)) (by rw [nI_clamp (Nat.lt_trans ht (by decide))]; rfl) d k1
theorem G6_view (C : CJ l0 Z (wM Z) Γ cc own rm n) {idx : Nat} (hl : Cond.fieldLink own idx "TideSeatsModel" "view" "[I" ∈ wsL_law) (d : decode cc pc = .ok (.getfield idx, 3)) (k1 : J Γ x (pc + 3) L (.ref (Z.2.1 14) :: st)) : J Γ x pc L (.ref (Z.2.1 0) :: st) := J_get C inlX6 0 rfl rfl 14 (by decide) hl rfl rfl d k1
theorem LM_view (C : CJ l0 Z (wM Z) Γ cc own rm n) {t : Nat} {v : Int32} (ht : t < 6) (hv : x.2 14 t = v) (d : decode cc pc = .ok (.iaload, 1)) (k1 : J Γ x (pc + 1) L (.int v :: st)) : J Γ x pc L (.int (nI t) :: .ref (Z.2.1 14) :: st) := J_iald C 8 rfl (vp_in_nI ht (by decide)) (by rw [nI_clamp (Nat.lt_trans ht (by decide))]; exact hv) d k1
theorem SM_view (C : CJ l0 Z (wM Z) Γ cc own rm n) {t : Nat} {v : Int32} (ht : t < 6) (d : decode cc pc = .ok (.iastore, 1)) (k1 : J Γ (mA x 14 (upd (x.2 14) t v)) (pc + 1) L st) : J Γ x pc L (.int v :: .int (nI t) :: .ref (Z.2.1 14) :: st) := J_iast C 8 rfl (vp_in_nI ht (by decide)) (x1 := mA x 14 (upd (x.2 14) t v)) (by rw [nI_clamp (Nat.lt_trans ht (by decide))]; rfl) d k1
theorem G6_at (C : CJ l0 Z (wM Z) Γ cc own rm n) {idx : Nat} (hl : Cond.fieldLink own idx "TideSeatsModel" "at" "I" ∈ wsL_law) (d : decode cc pc = .ok (.getfield idx, 3)) (k1 : J Γ x (pc + 3) L (.int (x.1 15) :: st)) : J Γ x pc L (.ref (Z.2.1 0) :: st) := J_get C inlX6 0 rfl rfl 15 (by decide) hl rfl rfl d k1
theorem P6_at (C : CJ l0 Z (wM Z) Γ cc own rm n) {idx : Nat} (hl : Cond.fieldLink own idx "TideSeatsModel" "at" "I" ∈ wsL_law) {v : Int32} (d : decode cc pc = .ok (.putfield idx, 3)) (k1 : J Γ (mI x 15 v) (pc + 3) L st) : J Γ x pc L (.int v :: .ref (Z.2.1 0) :: st) := J_put C inlX6 tyX6 tyX6_ok nmX6 0 rfl rfl 15 (by decide) hl rfl rfl (ty := .int) (tyX6_ok 15 (by decide)) rfl rfl (Nat.le_of_ble_eq_true rfl) rfl d k1
theorem G6_readStream (C : CJ l0 Z (wM Z) Γ cc own rm n) {idx : Nat} (hl : Cond.fieldLink own idx "TideSeatsModel" "readStream" "I" ∈ wsL_law) (d : decode cc pc = .ok (.getfield idx, 3)) (k1 : J Γ x (pc + 3) L (.int (x.1 16) :: st)) : J Γ x pc L (.ref (Z.2.1 0) :: st) := J_get C inlX6 0 rfl rfl 16 (by decide) hl rfl rfl d k1
theorem P6_readStream (C : CJ l0 Z (wM Z) Γ cc own rm n) {idx : Nat} (hl : Cond.fieldLink own idx "TideSeatsModel" "readStream" "I" ∈ wsL_law) {v : Int32} (d : decode cc pc = .ok (.putfield idx, 3)) (k1 : J Γ (mI x 16 v) (pc + 3) L st) : J Γ x pc L (.int v :: .ref (Z.2.1 0) :: st) := J_put C inlX6 tyX6 tyX6_ok nmX6 0 rfl rfl 16 (by decide) hl rfl rfl (ty := .int) (tyX6_ok 16 (by decide)) rfl rfl (Nat.le_of_ble_eq_true rfl) rfl d k1
theorem G6_readMild (C : CJ l0 Z (wM Z) Γ cc own rm n) {idx : Nat} (hl : Cond.fieldLink own idx "TideSeatsModel" "readMild" "I" ∈ wsL_law) (d : decode cc pc = .ok (.getfield idx, 3)) (k1 : J Γ x (pc + 3) L (.int (x.1 17) :: st)) : J Γ x pc L (.ref (Z.2.1 0) :: st) := J_get C inlX6 0 rfl rfl 17 (by decide) hl rfl rfl d k1
theorem P6_readMild (C : CJ l0 Z (wM Z) Γ cc own rm n) {idx : Nat} (hl : Cond.fieldLink own idx "TideSeatsModel" "readMild" "I" ∈ wsL_law) {v : Int32} (d : decode cc pc = .ok (.putfield idx, 3)) (k1 : J Γ (mI x 17 v) (pc + 3) L st) : J Γ x pc L (.int v :: .ref (Z.2.1 0) :: st) := J_put C inlX6 tyX6 tyX6_ok nmX6 0 rfl rfl 17 (by decide) hl rfl rfl (ty := .int) (tyX6_ok 17 (by decide)) rfl rfl (Nat.le_of_ble_eq_true rfl) rfl d k1
theorem G6_readLeap (C : CJ l0 Z (wM Z) Γ cc own rm n) {idx : Nat} (hl : Cond.fieldLink own idx "TideSeatsModel" "readLeap" "I" ∈ wsL_law) (d : decode cc pc = .ok (.getfield idx, 3)) (k1 : J Γ x (pc + 3) L (.int (x.1 18) :: st)) : J Γ x pc L (.ref (Z.2.1 0) :: st) := J_get C inlX6 0 rfl rfl 18 (by decide) hl rfl rfl d k1
theorem P6_readLeap (C : CJ l0 Z (wM Z) Γ cc own rm n) {idx : Nat} (hl : Cond.fieldLink own idx "TideSeatsModel" "readLeap" "I" ∈ wsL_law) {v : Int32} (d : decode cc pc = .ok (.putfield idx, 3)) (k1 : J Γ (mI x 18 v) (pc + 3) L st) : J Γ x pc L (.int v :: .ref (Z.2.1 0) :: st) := J_put C inlX6 tyX6 tyX6_ok nmX6 0 rfl rfl 18 (by decide) hl rfl rfl (ty := .int) (tyX6_ok 18 (by decide)) rfl rfl (Nat.le_of_ble_eq_true rfl) rfl d k1
theorem G6_readPools (C : CJ l0 Z (wM Z) Γ cc own rm n) {idx : Nat} (hl : Cond.fieldLink own idx "TideSeatsModel" "readPools" "I" ∈ wsL_law) (d : decode cc pc = .ok (.getfield idx, 3)) (k1 : J Γ x (pc + 3) L (.int (x.1 19) :: st)) : J Γ x pc L (.ref (Z.2.1 0) :: st) := J_get C inlX6 0 rfl rfl 19 (by decide) hl rfl rfl d k1
theorem P6_readPools (C : CJ l0 Z (wM Z) Γ cc own rm n) {idx : Nat} (hl : Cond.fieldLink own idx "TideSeatsModel" "readPools" "I" ∈ wsL_law) {v : Int32} (d : decode cc pc = .ok (.putfield idx, 3)) (k1 : J Γ (mI x 19 v) (pc + 3) L st) : J Γ x pc L (.int v :: .ref (Z.2.1 0) :: st) := J_put C inlX6 tyX6 tyX6_ok nmX6 0 rfl rfl 19 (by decide) hl rfl rfl (ty := .int) (tyX6_ok 19 (by decide)) rfl rfl (Nat.le_of_ble_eq_true rfl) rfl d k1
theorem G6_readMembers (C : CJ l0 Z (wM Z) Γ cc own rm n) {idx : Nat} (hl : Cond.fieldLink own idx "TideSeatsModel" "readMembers" "I" ∈ wsL_law) (d : decode cc pc = .ok (.getfield idx, 3)) (k1 : J Γ x (pc + 3) L (.int (x.1 20) :: st)) : J Γ x pc L (.ref (Z.2.1 0) :: st) := J_get C inlX6 0 rfl rfl 20 (by decide) hl rfl rfl d k1
theorem P6_readMembers (C : CJ l0 Z (wM Z) Γ cc own rm n) {idx : Nat} (hl : Cond.fieldLink own idx "TideSeatsModel" "readMembers" "I" ∈ wsL_law) {v : Int32} (d : decode cc pc = .ok (.putfield idx, 3)) (k1 : J Γ (mI x 20 v) (pc + 3) L st) : J Γ x pc L (.int v :: .ref (Z.2.1 0) :: st) := J_put C inlX6 tyX6 tyX6_ok nmX6 0 rfl rfl 20 (by decide) hl rfl rfl (ty := .int) (tyX6_ok 20 (by decide)) rfl rfl (Nat.le_of_ble_eq_true rfl) rfl d k1
theorem G6_readHeight (C : CJ l0 Z (wM Z) Γ cc own rm n) {idx : Nat} (hl : Cond.fieldLink own idx "TideSeatsModel" "readHeight" "[I" ∈ wsL_law) (d : decode cc pc = .ok (.getfield idx, 3)) (k1 : J Γ x (pc + 3) L (.ref (Z.2.1 21) :: st)) : J Γ x pc L (.ref (Z.2.1 0) :: st) := J_get C inlX6 0 rfl rfl 21 (by decide) hl rfl rfl d k1
theorem LM_readHeight (C : CJ l0 Z (wM Z) Γ cc own rm n) {t : Nat} {v : Int32} (ht : t < 6) (hv : x.2 21 t = v) (d : decode cc pc = .ok (.iaload, 1)) (k1 : J Γ x (pc + 1) L (.int v :: st)) : J Γ x pc L (.int (nI t) :: .ref (Z.2.1 21) :: st) := J_iald C 9 rfl (vp_in_nI ht (by decide)) (by rw [nI_clamp (Nat.lt_trans ht (by decide))]; exact hv) d k1
theorem SM_readHeight (C : CJ l0 Z (wM Z) Γ cc own rm n) {t : Nat} {v : Int32} (ht : t < 6) (d : decode cc pc = .ok (.iastore, 1)) (k1 : J Γ (mA x 21 (upd (x.2 21) t v)) (pc + 1) L st) : J Γ x pc L (.int v :: .int (nI t) :: .ref (Z.2.1 21) :: st) := J_iast C 9 rfl (vp_in_nI ht (by decide)) (x1 := mA x 21 (upd (x.2 21) t v)) (by rw [nI_clamp (Nat.lt_trans ht (by decide))]; rfl) d k1
theorem G6_readDepth (C : CJ l0 Z (wM Z) Γ cc own rm n) {idx : Nat} (hl : Cond.fieldLink own idx "TideSeatsModel" "readDepth" "[I" ∈ wsL_law) (d : decode cc pc = .ok (.getfield idx, 3)) (k1 : J Γ x (pc + 3) L (.ref (Z.2.1 22) :: st)) : J Γ x pc L (.ref (Z.2.1 0) :: st) := J_get C inlX6 0 rfl rfl 22 (by decide) hl rfl rfl d k1
theorem LM_readDepth (C : CJ l0 Z (wM Z) Γ cc own rm n) {t : Nat} {v : Int32} (ht : t < 6) (hv : x.2 22 t = v) (d : decode cc pc = .ok (.iaload, 1)) (k1 : J Γ x (pc + 1) L (.int v :: st)) : J Γ x pc L (.int (nI t) :: .ref (Z.2.1 22) :: st) := J_iald C 10 rfl (vp_in_nI ht (by decide)) (by rw [nI_clamp (Nat.lt_trans ht (by decide))]; exact hv) d k1
theorem SM_readDepth (C : CJ l0 Z (wM Z) Γ cc own rm n) {t : Nat} {v : Int32} (ht : t < 6) (d : decode cc pc = .ok (.iastore, 1)) (k1 : J Γ (mA x 22 (upd (x.2 22) t v)) (pc + 1) L st) : J Γ x pc L (.int v :: .int (nI t) :: .ref (Z.2.1 22) :: st) := J_iast C 10 rfl (vp_in_nI ht (by decide)) (x1 := mA x 22 (upd (x.2 22) t v)) (by rw [nI_clamp (Nat.lt_trans ht (by decide))]; rfl) d k1
theorem G6_readKind (C : CJ l0 Z (wM Z) Γ cc own rm n) {idx : Nat} (hl : Cond.fieldLink own idx "TideSeatsModel" "readKind" "[I" ∈ wsL_law) (d : decode cc pc = .ok (.getfield idx, 3)) (k1 : J Γ x (pc + 3) L (.ref (Z.2.1 23) :: st)) : J Γ x pc L (.ref (Z.2.1 0) :: st) := J_get C inlX6 0 rfl rfl 23 (by decide) hl rfl rfl d k1
theorem LM_readKind (C : CJ l0 Z (wM Z) Γ cc own rm n) {t : Nat} {v : Int32} (ht : t < 6) (hv : x.2 23 t = v) (d : decode cc pc = .ok (.iaload, 1)) (k1 : J Γ x (pc + 1) L (.int v :: st)) : J Γ x pc L (.int (nI t) :: .ref (Z.2.1 23) :: st) := J_iald C 11 rfl (vp_in_nI ht (by decide)) (by rw [nI_clamp (Nat.lt_trans ht (by decide))]; exact hv) d k1
theorem SM_readKind (C : CJ l0 Z (wM Z) Γ cc own rm n) {t : Nat} {v : Int32} (ht : t < 6) (d : decode cc pc = .ok (.iastore, 1)) (k1 : J Γ (mA x 23 (upd (x.2 23) t v)) (pc + 1) L st) : J Γ x pc L (.int v :: .int (nI t) :: .ref (Z.2.1 23) :: st) := J_iast C 11 rfl (vp_in_nI ht (by decide)) (x1 := mA x 23 (upd (x.2 23) t v)) (by rw [nI_clamp (Nat.lt_trans ht (by decide))]; rfl) d k1
theorem G6_readPoolOf (C : CJ l0 Z (wM Z) Γ cc own rm n) {idx : Nat} (hl : Cond.fieldLink own idx "TideSeatsModel" "readPoolOf" "[I" ∈ wsL_law) (d : decode cc pc = .ok (.getfield idx, 3)) (k1 : J Γ x (pc + 3) L (.ref (Z.2.1 24) :: st)) : J Γ x pc L (.ref (Z.2.1 0) :: st) := J_get C inlX6 0 rfl rfl 24 (by decide) hl rfl rfl d k1
theorem LM_readPoolOf (C : CJ l0 Z (wM Z) Γ cc own rm n) {t : Nat} {v : Int32} (ht : t < 6) (hv : x.2 24 t = v) (d : decode cc pc = .ok (.iaload, 1)) (k1 : J Γ x (pc + 1) L (.int v :: st)) : J Γ x pc L (.int (nI t) :: .ref (Z.2.1 24) :: st) := J_iald C 12 rfl (vp_in_nI ht (by decide)) (by rw [nI_clamp (Nat.lt_trans ht (by decide))]; exact hv) d k1
theorem SM_readPoolOf (C : CJ l0 Z (wM Z) Γ cc own rm n) {t : Nat} {v : Int32} (ht : t < 6) (d : decode cc pc = .ok (.iastore, 1)) (k1 : J Γ (mA x 24 (upd (x.2 24) t v)) (pc + 1) L st) : J Γ x pc L (.int v :: .int (nI t) :: .ref (Z.2.1 24) :: st) := J_iast C 12 rfl (vp_in_nI ht (by decide)) (x1 := mA x 24 (upd (x.2 24) t v)) (by rw [nI_clamp (Nat.lt_trans ht (by decide))]; rfl) d k1
theorem G6_readView (C : CJ l0 Z (wM Z) Γ cc own rm n) {idx : Nat} (hl : Cond.fieldLink own idx "TideSeatsModel" "readView" "[I" ∈ wsL_law) (d : decode cc pc = .ok (.getfield idx, 3)) (k1 : J Γ x (pc + 3) L (.ref (Z.2.1 25) :: st)) : J Γ x pc L (.ref (Z.2.1 0) :: st) := J_get C inlX6 0 rfl rfl 25 (by decide) hl rfl rfl d k1
theorem LM_readView (C : CJ l0 Z (wM Z) Γ cc own rm n) {t : Nat} {v : Int32} (ht : t < 6) (hv : x.2 25 t = v) (d : decode cc pc = .ok (.iaload, 1)) (k1 : J Γ x (pc + 1) L (.int v :: st)) : J Γ x pc L (.int (nI t) :: .ref (Z.2.1 25) :: st) := J_iald C 13 rfl (vp_in_nI ht (by decide)) (by rw [nI_clamp (Nat.lt_trans ht (by decide))]; exact hv) d k1
theorem SM_readView (C : CJ l0 Z (wM Z) Γ cc own rm n) {t : Nat} {v : Int32} (ht : t < 6) (d : decode cc pc = .ok (.iastore, 1)) (k1 : J Γ (mA x 25 (upd (x.2 25) t v)) (pc + 1) L st) : J Γ x pc L (.int v :: .int (nI t) :: .ref (Z.2.1 25) :: st) := J_iast C 13 rfl (vp_in_nI ht (by decide)) (x1 := mA x 25 (upd (x.2 25) t v)) (by rw [nI_clamp (Nat.lt_trans ht (by decide))]; rfl) d k1
theorem G6_kept (C : CJ l0 Z (wM Z) Γ cc own rm n) {idx : Nat} (hl : Cond.fieldLink own idx "TideSeatsModel" "kept" "[I" ∈ wsL_law) (d : decode cc pc = .ok (.getfield idx, 3)) (k1 : J Γ x (pc + 3) L (.ref (Z.2.1 26) :: st)) : J Γ x pc L (.ref (Z.2.1 0) :: st) := J_get C inlX6 0 rfl rfl 26 (by decide) hl rfl rfl d k1
theorem LM_kept (C : CJ l0 Z (wM Z) Γ cc own rm n) {t : Nat} {v : Int32} (ht : t < 6) (hv : x.2 26 t = v) (d : decode cc pc = .ok (.iaload, 1)) (k1 : J Γ x (pc + 1) L (.int v :: st)) : J Γ x pc L (.int (nI t) :: .ref (Z.2.1 26) :: st) := J_iald C 14 rfl (vp_in_nI ht (by decide)) (by rw [nI_clamp (Nat.lt_trans ht (by decide))]; exact hv) d k1
theorem SM_kept (C : CJ l0 Z (wM Z) Γ cc own rm n) {t : Nat} {v : Int32} (ht : t < 6) (d : decode cc pc = .ok (.iastore, 1)) (k1 : J Γ (mA x 26 (upd (x.2 26) t v)) (pc + 1) L st) : J Γ x pc L (.int v :: .int (nI t) :: .ref (Z.2.1 26) :: st) := J_iast C 14 rfl (vp_in_nI ht (by decide)) (x1 := mA x 26 (upd (x.2 26) t v)) (by rw [nI_clamp (Nat.lt_trans ht (by decide))]; rfl) d k1
theorem G6_moved (C : CJ l0 Z (wM Z) Γ cc own rm n) {idx : Nat} (hl : Cond.fieldLink own idx "TideSeatsModel" "moved" "I" ∈ wsL_law) (d : decode cc pc = .ok (.getfield idx, 3)) (k1 : J Γ x (pc + 3) L (.int (x.1 27) :: st)) : J Γ x pc L (.ref (Z.2.1 0) :: st) := J_get C inlX6 0 rfl rfl 27 (by decide) hl rfl rfl d k1
theorem P6_moved (C : CJ l0 Z (wM Z) Γ cc own rm n) {idx : Nat} (hl : Cond.fieldLink own idx "TideSeatsModel" "moved" "I" ∈ wsL_law) {v : Int32} (d : decode cc pc = .ok (.putfield idx, 3)) (k1 : J Γ (mI x 27 v) (pc + 3) L st) : J Γ x pc L (.int v :: .ref (Z.2.1 0) :: st) := J_put C inlX6 tyX6 tyX6_ok nmX6 0 rfl rfl 27 (by decide) hl rfl rfl (ty := .int) (tyX6_ok 27 (by decide)) rfl rfl (Nat.le_of_ble_eq_true rfl) rfl d k1
theorem G6_left (C : CJ l0 Z (wM Z) Γ cc own rm n) {idx : Nat} (hl : Cond.fieldLink own idx "TideSeatsModel" "left" "[I" ∈ wsL_law) (d : decode cc pc = .ok (.getfield idx, 3)) (k1 : J Γ x (pc + 3) L (.ref (Z.2.1 28) :: st)) : J Γ x pc L (.ref (Z.2.1 0) :: st) := J_get C inlX6 0 rfl rfl 28 (by decide) hl rfl rfl d k1
theorem LM_left (C : CJ l0 Z (wM Z) Γ cc own rm n) {t : Nat} {v : Int32} (ht : t < 6) (hv : x.2 28 t = v) (d : decode cc pc = .ok (.iaload, 1)) (k1 : J Γ x (pc + 1) L (.int v :: st)) : J Γ x pc L (.int (nI t) :: .ref (Z.2.1 28) :: st) := J_iald C 15 rfl (vp_in_nI ht (by decide)) (by rw [nI_clamp (Nat.lt_trans ht (by decide))]; exact hv) d k1
theorem SM_left (C : CJ l0 Z (wM Z) Γ cc own rm n) {t : Nat} {v : Int32} (ht : t < 6) (d : decode cc pc = .ok (.iastore, 1)) (k1 : J Γ (mA x 28 (upd (x.2 28) t v)) (pc + 1) L st) : J Γ x pc L (.int v :: .int (nI t) :: .ref (Z.2.1 28) :: st) := J_iast C 15 rfl (vp_in_nI ht (by decide)) (x1 := mA x 28 (upd (x.2 28) t v)) (by rw [nI_clamp (Nat.lt_trans ht (by decide))]; rfl) d k1
theorem G6_readings (C : CJ l0 Z (wM Z) Γ cc own rm n) {idx : Nat} (hl : Cond.fieldLink own idx "TideSeatsModel" "readings" "I" ∈ wsL_law) (d : decode cc pc = .ok (.getfield idx, 3)) (k1 : J Γ x (pc + 3) L (.int (x.1 29) :: st)) : J Γ x pc L (.ref (Z.2.1 0) :: st) := J_get C inlX6 0 rfl rfl 29 (by decide) hl rfl rfl d k1
theorem P6_readings (C : CJ l0 Z (wM Z) Γ cc own rm n) {idx : Nat} (hl : Cond.fieldLink own idx "TideSeatsModel" "readings" "I" ∈ wsL_law) {v : Int32} (d : decode cc pc = .ok (.putfield idx, 3)) (k1 : J Γ (mI x 29 v) (pc + 3) L st) : J Γ x pc L (.int v :: .ref (Z.2.1 0) :: st) := J_put C inlX6 tyX6 tyX6_ok nmX6 0 rfl rfl 29 (by decide) hl rfl rfl (ty := .int) (tyX6_ok 29 (by decide)) rfl rfl (Nat.le_of_ble_eq_true rfl) rfl d k1
theorem G6_readWho (C : CJ l0 Z (wM Z) Γ cc own rm n) {idx : Nat} (hl : Cond.fieldLink own idx "TideSeatsModel" "readWho" "[I" ∈ wsL_law) (d : decode cc pc = .ok (.getfield idx, 3)) (k1 : J Γ x (pc + 3) L (.ref (Z.2.1 30) :: st)) : J Γ x pc L (.ref (Z.2.1 0) :: st) := J_get C inlX6 0 rfl rfl 30 (by decide) hl rfl rfl d k1
theorem LM_readWho (C : CJ l0 Z (wM Z) Γ cc own rm n) {t : Nat} {v : Int32} (ht : t < 8) (hv : x.2 30 t = v) (d : decode cc pc = .ok (.iaload, 1)) (k1 : J Γ x (pc + 1) L (.int v :: st)) : J Γ x pc L (.int (nI t) :: .ref (Z.2.1 30) :: st) := J_iald C 16 rfl (vp_in_nI ht (by decide)) (by rw [nI_clamp (Nat.lt_trans ht (by decide))]; exact hv) d k1
theorem SM_readWho (C : CJ l0 Z (wM Z) Γ cc own rm n) {t : Nat} {v : Int32} (ht : t < 8) (d : decode cc pc = .ok (.iastore, 1)) (k1 : J Γ (mA x 30 (upd (x.2 30) t v)) (pc + 1) L st) : J Γ x pc L (.int v :: .int (nI t) :: .ref (Z.2.1 30) :: st) := J_iast C 16 rfl (vp_in_nI ht (by decide)) (x1 := mA x 30 (upd (x.2 30) t v)) (by rw [nI_clamp (Nat.lt_trans ht (by decide))]; rfl) d k1
theorem G6_readTide (C : CJ l0 Z (wM Z) Γ cc own rm n) {idx : Nat} (hl : Cond.fieldLink own idx "TideSeatsModel" "readTide" "[I" ∈ wsL_law) (d : decode cc pc = .ok (.getfield idx, 3)) (k1 : J Γ x (pc + 3) L (.ref (Z.2.1 31) :: st)) : J Γ x pc L (.ref (Z.2.1 0) :: st) := J_get C inlX6 0 rfl rfl 31 (by decide) hl rfl rfl d k1
theorem LM_readTide (C : CJ l0 Z (wM Z) Γ cc own rm n) {t : Nat} {v : Int32} (ht : t < 8) (hv : x.2 31 t = v) (d : decode cc pc = .ok (.iaload, 1)) (k1 : J Γ x (pc + 1) L (.int v :: st)) : J Γ x pc L (.int (nI t) :: .ref (Z.2.1 31) :: st) := J_iald C 17 rfl (vp_in_nI ht (by decide)) (by rw [nI_clamp (Nat.lt_trans ht (by decide))]; exact hv) d k1
theorem SM_readTide (C : CJ l0 Z (wM Z) Γ cc own rm n) {t : Nat} {v : Int32} (ht : t < 8) (d : decode cc pc = .ok (.iastore, 1)) (k1 : J Γ (mA x 31 (upd (x.2 31) t v)) (pc + 1) L st) : J Γ x pc L (.int v :: .int (nI t) :: .ref (Z.2.1 31) :: st) := J_iast C 17 rfl (vp_in_nI ht (by decide)) (x1 := mA x 31 (upd (x.2 31) t v)) (by rw [nI_clamp (Nat.lt_trans ht (by decide))]; rfl) d k1
theorem G6_readTo (C : CJ l0 Z (wM Z) Γ cc own rm n) {idx : Nat} (hl : Cond.fieldLink own idx "TideSeatsModel" "readTo" "[I" ∈ wsL_law) (d : decode cc pc = .ok (.getfield idx, 3)) (k1 : J Γ x (pc + 3) L (.ref (Z.2.1 32) :: st)) : J Γ x pc L (.ref (Z.2.1 0) :: st) := J_get C inlX6 0 rfl rfl 32 (by decide) hl rfl rfl d k1
theorem LM_readTo (C : CJ l0 Z (wM Z) Γ cc own rm n) {t : Nat} {v : Int32} (ht : t < 8) (hv : x.2 32 t = v) (d : decode cc pc = .ok (.iaload, 1)) (k1 : J Γ x (pc + 1) L (.int v :: st)) : J Γ x pc L (.int (nI t) :: .ref (Z.2.1 32) :: st) := J_iald C 18 rfl (vp_in_nI ht (by decide)) (by rw [nI_clamp (Nat.lt_trans ht (by decide))]; exact hv) d k1
theorem SM_readTo (C : CJ l0 Z (wM Z) Γ cc own rm n) {t : Nat} {v : Int32} (ht : t < 8) (d : decode cc pc = .ok (.iastore, 1)) (k1 : J Γ (mA x 32 (upd (x.2 32) t v)) (pc + 1) L st) : J Γ x pc L (.int v :: .int (nI t) :: .ref (Z.2.1 32) :: st) := J_iast C 18 rfl (vp_in_nI ht (by decide)) (x1 := mA x 32 (upd (x.2 32) t v)) (by rw [nI_clamp (Nat.lt_trans ht (by decide))]; rfl) d k1
end JM
end
section
theorem zz_probe : True := trivial
end
