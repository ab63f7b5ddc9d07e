theorem wdm_1 : ∀ w ∈ wsL_law_r1, w ∈ wsL_law := fun _ h => List.mem_append_left _ (List.mem_append_left _ (List.mem_append_left _ (List.mem_append_left _ (List.mem_append_left _ (List.mem_append_left _ (List.mem_append_left _ (List.mem_append_left _ (List.mem_append_left _ (h)))))))))
theorem wd_1_0 : Cond.classLink RL 7 RX5 ∈ wsL_law := wdm_1 _ (List.mem_of_getElem? (i := 0) rfl)
theorem wd_1_1 : Cond.instantiable RX5 8 ∈ wsL_law := wdm_1 _ (List.mem_of_getElem? (i := 1) rfl)
theorem wd_1_2 : Cond.initialized RX5 ∈ wsL_law := wdm_1 _ (List.mem_of_getElem? (i := 2) rfl)
theorem wd_1_3 : Cond.classLink RL 10 RX6 ∈ wsL_law := wdm_1 _ (List.mem_of_getElem? (i := 3) rfl)
theorem wd_1_4 : Cond.instantiable RX6 33 ∈ wsL_law := wdm_1 _ (List.mem_of_getElem? (i := 4) rfl)
theorem wd_1_5 : Cond.initialized RX6 ∈ wsL_law := wdm_1 _ (List.mem_of_getElem? (i := 5) rfl)
theorem wd_1_6 : Cond.methodLink RL 9 yX5_init ∈ wsL_law := wdm_1 _ (List.mem_of_getElem? (i := 6) rfl)
theorem wd_1_7 : Cond.instanceMethod yX5_init ∈ wsL_law := wdm_1 _ (List.mem_of_getElem? (i := 7) rfl)
theorem wd_1_8 : Cond.code yX5_init cX5_init 2 none ∈ wsL_law := wdm_1 _ (List.mem_of_getElem? (i := 8) rfl)
theorem wd_1_9 : Cond.methodLink RX5 3 objectInit ∈ wsL_law := wdm_1 _ (List.mem_of_getElem? (i := 9) rfl)
theorem wd_1_10 : Cond.instanceMethod objectInit ∈ wsL_law := wdm_1 _ (List.mem_of_getElem? (i := 10) rfl)
theorem wd_1_11 : Cond.code objectInit ⟨#[0xb1]⟩ 1 none ∈ wsL_law := wdm_1 _ (List.mem_of_getElem? (i := 11) rfl)
theorem wd_1_12 : Cond.classLink RX5 11 RX3 ∈ wsL_law := wdm_1 _ (List.mem_of_getElem? (i := 12) rfl)
theorem wd_1_13 : Cond.fieldLink RX5 13 "TideSeats" "sheets" "[LTideSeats$Sheet;" ∈ wsL_law := wdm_1 _ (List.mem_of_getElem? (i := 13) rfl)
theorem wd_1_14 : Cond.instantiable RX3 4 ∈ wsL_law := wdm_1 _ (List.mem_of_getElem? (i := 14) rfl)
theorem wd_1_15 : Cond.initialized RX3 ∈ wsL_law := wdm_1 _ (List.mem_of_getElem? (i := 15) rfl)
theorem wd_1_16 : Cond.classLink RX5 18 RX0 ∈ wsL_law := wdm_1 _ (List.mem_of_getElem? (i := 16) rfl)
theorem wd_1_17 : Cond.instantiable RX0 4 ∈ wsL_law := wdm_1 _ (List.mem_of_getElem? (i := 17) rfl)
theorem wd_1_18 : Cond.initialized RX0 ∈ wsL_law := wdm_1 _ (List.mem_of_getElem? (i := 18) rfl)
theorem wd_1_19 : Cond.fieldLink RX5 21 "TideSeats" "reader" "LTideSeats$Reader;" ∈ wsL_law := wdm_1 _ (List.mem_of_getElem? (i := 19) rfl)
theorem wd_1_20 : Cond.classLink RX5 25 RX1 ∈ wsL_law := wdm_1 _ (List.mem_of_getElem? (i := 20) rfl)
theorem wd_1_21 : Cond.instantiable RX1 4 ∈ wsL_law := wdm_1 _ (List.mem_of_getElem? (i := 21) rfl)
theorem wd_1_22 : Cond.initialized RX1 ∈ wsL_law := wdm_1 _ (List.mem_of_getElem? (i := 22) rfl)
theorem wd_1_23 : Cond.fieldLink RX5 28 "TideSeats" "readings" "LTideSeats$Readings;" ∈ wsL_law := wdm_1 _ (List.mem_of_getElem? (i := 23) rfl)
theorem wdm_2 : ∀ w ∈ wsL_law_r2, w ∈ wsL_law := fun _ h => List.mem_append_left _ (List.mem_append_left _ (List.mem_append_left _ (List.mem_append_left _ (List.mem_append_left _ (List.mem_append_left _ (List.mem_append_left _ (List.mem_append_left _ (List.mem_append_right _ (List.mem_append_left _ (h))))))))))
theorem wd_2_0 : Cond.classLink RX5 32 RX2 ∈ wsL_law := wdm_2 _ (List.mem_of_getElem? (i := 0) rfl)
theorem wd_2_1 : Cond.instantiable RX2 6 ∈ wsL_law := wdm_2 _ (List.mem_of_getElem? (i := 1) rfl)
theorem wd_2_2 : Cond.initialized RX2 ∈ wsL_law := wdm_2 _ (List.mem_of_getElem? (i := 2) rfl)
theorem wd_2_3 : Cond.fieldLink RX5 35 "TideSeats" "route" "LTideSeats$Route;" ∈ wsL_law := wdm_2 _ (List.mem_of_getElem? (i := 3) rfl)
theorem wd_2_4 : Cond.classLink RX5 39 RX4 ∈ wsL_law := wdm_2 _ (List.mem_of_getElem? (i := 4) rfl)
theorem wd_2_5 : Cond.instantiable RX4 10 ∈ wsL_law := wdm_2 _ (List.mem_of_getElem? (i := 5) rfl)
theorem wd_2_6 : Cond.initialized RX4 ∈ wsL_law := wdm_2 _ (List.mem_of_getElem? (i := 6) rfl)
theorem wd_2_7 : Cond.fieldLink RX5 42 "TideSeats" "shore" "LTideSeats$Shore;" ∈ wsL_law := wdm_2 _ (List.mem_of_getElem? (i := 7) rfl)
theorem wd_2_8 : Cond.fieldLink RX5 46 "TideSeats" "trial" "LTideSeats$Shore;" ∈ wsL_law := wdm_2 _ (List.mem_of_getElem? (i := 8) rfl)
theorem wd_2_9 : Cond.instanceMethod yX3_init ∈ wsL_law := wdm_2 _ (List.mem_of_getElem? (i := 9) rfl)
theorem wd_2_10 : Cond.code yX3_init cX3_init 1 none ∈ wsL_law := wdm_2 _ (List.mem_of_getElem? (i := 10) rfl)
theorem wd_2_11 : Cond.methodLink RX3 3 objectInit ∈ wsL_law := wdm_2 _ (List.mem_of_getElem? (i := 11) rfl)
theorem wd_2_12 : Cond.arrayClass .int ∈ wsL_law := wdm_2 _ (List.mem_of_getElem? (i := 12) rfl)
theorem wd_2_13 : Cond.fieldLink RX3 9 "TideSeats$Sheet" "cells" "[I" ∈ wsL_law := wdm_2 _ (List.mem_of_getElem? (i := 13) rfl)
theorem wd_2_14 : Cond.instanceMethod yX0_init ∈ wsL_law := wdm_2 _ (List.mem_of_getElem? (i := 14) rfl)
theorem wd_2_15 : Cond.code yX0_init cX0_init 1 none ∈ wsL_law := wdm_2 _ (List.mem_of_getElem? (i := 15) rfl)
theorem wd_2_16 : Cond.methodLink RX0 3 objectInit ∈ wsL_law := wdm_2 _ (List.mem_of_getElem? (i := 16) rfl)
theorem wd_2_17 : Cond.instanceMethod yX1_init ∈ wsL_law := wdm_2 _ (List.mem_of_getElem? (i := 17) rfl)
theorem wd_2_18 : Cond.code yX1_init cX1_init 1 none ∈ wsL_law := wdm_2 _ (List.mem_of_getElem? (i := 18) rfl)
theorem wd_2_19 : Cond.methodLink RX1 3 objectInit ∈ wsL_law := wdm_2 _ (List.mem_of_getElem? (i := 19) rfl)
theorem wd_2_20 : Cond.fieldLink RX1 9 "TideSeats$Readings" "who" "[I" ∈ wsL_law := wdm_2 _ (List.mem_of_getElem? (i := 20) rfl)
theorem wd_2_21 : Cond.fieldLink RX1 15 "TideSeats$Readings" "when" "[I" ∈ wsL_law := wdm_2 _ (List.mem_of_getElem? (i := 21) rfl)
theorem wd_2_22 : Cond.fieldLink RX1 18 "TideSeats$Readings" "where" "[I" ∈ wsL_law := wdm_2 _ (List.mem_of_getElem? (i := 22) rfl)
theorem wd_2_23 : Cond.instanceMethod yX2_init ∈ wsL_law := wdm_2 _ (List.mem_of_getElem? (i := 23) rfl)
theorem wdm_3 : ∀ w ∈ wsL_law_r3, w ∈ wsL_law := fun _ h => List.mem_append_left _ (List.mem_append_left _ (List.mem_append_left _ (List.mem_append_left _ (List.mem_append_left _ (List.mem_append_left _ (List.mem_append_left _ (List.mem_append_left _ (List.mem_append_right _ (List.mem_append_right _ (List.mem_append_left _ (h)))))))))))
theorem wd_3_0 : Cond.code yX2_init cX2_init 1 none ∈ wsL_law := wdm_3 _ (List.mem_of_getElem? (i := 0) rfl)
theorem wd_3_1 : Cond.methodLink RX2 3 objectInit ∈ wsL_law := wdm_3 _ (List.mem_of_getElem? (i := 1) rfl)
theorem wd_3_2 : Cond.classLink RX2 11 "[[I" ∈ wsL_law := wdm_3 _ (List.mem_of_getElem? (i := 2) rfl)
theorem wd_3_3 : Cond.fieldLink RX2 13 "TideSeats$Route" "behind" "[[I" ∈ wsL_law := wdm_3 _ (List.mem_of_getElem? (i := 3) rfl)
theorem wd_3_4 : Cond.fieldLink RX2 16 "TideSeats$Route" "far" "[I" ∈ wsL_law := wdm_3 _ (List.mem_of_getElem? (i := 4) rfl)
theorem wd_3_5 : Cond.fieldLink RX2 20 "TideSeats$Route" "row" "[I" ∈ wsL_law := wdm_3 _ (List.mem_of_getElem? (i := 5) rfl)
theorem wd_3_6 : Cond.instanceMethod yX4_init ∈ wsL_law := wdm_3 _ (List.mem_of_getElem? (i := 6) rfl)
theorem wd_3_7 : Cond.code yX4_init cX4_init 1 none ∈ wsL_law := wdm_3 _ (List.mem_of_getElem? (i := 7) rfl)
theorem wd_3_8 : Cond.methodLink RX4 3 objectInit ∈ wsL_law := wdm_3 _ (List.mem_of_getElem? (i := 8) rfl)
theorem wd_3_9 : Cond.fieldLink RX4 9 "TideSeats$Shore" "heights" "[I" ∈ wsL_law := wdm_3 _ (List.mem_of_getElem? (i := 9) rfl)
theorem wd_3_10 : Cond.fieldLink RX4 15 "TideSeats$Shore" "depths" "[I" ∈ wsL_law := wdm_3 _ (List.mem_of_getElem? (i := 10) rfl)
theorem wd_3_11 : Cond.fieldLink RX4 18 "TideSeats$Shore" "kindOf" "[I" ∈ wsL_law := wdm_3 _ (List.mem_of_getElem? (i := 11) rfl)
theorem wd_3_12 : Cond.fieldLink RX4 21 "TideSeats$Shore" "seats" "[I" ∈ wsL_law := wdm_3 _ (List.mem_of_getElem? (i := 12) rfl)
theorem wd_3_13 : Cond.fieldLink RX4 24 "TideSeats$Shore" "views" "[I" ∈ wsL_law := wdm_3 _ (List.mem_of_getElem? (i := 13) rfl)
theorem wd_3_14 : Cond.methodLink RL 12 yX6_init ∈ wsL_law := wdm_3 _ (List.mem_of_getElem? (i := 14) rfl)
theorem wd_3_15 : Cond.instanceMethod yX6_init ∈ wsL_law := wdm_3 _ (List.mem_of_getElem? (i := 15) rfl)
theorem wd_3_16 : Cond.code yX6_init cX6_init 1 none ∈ wsL_law := wdm_3 _ (List.mem_of_getElem? (i := 16) rfl)
theorem wd_3_17 : Cond.methodLink RX6 1 objectInit ∈ wsL_law := wdm_3 _ (List.mem_of_getElem? (i := 17) rfl)
theorem wd_3_18 : Cond.fieldLink RX6 9 "TideSeatsModel" "sorts" "[I" ∈ wsL_law := wdm_3 _ (List.mem_of_getElem? (i := 18) rfl)
theorem wd_3_19 : Cond.fieldLink RX6 13 "TideSeatsModel" "sheetLong" "[I" ∈ wsL_law := wdm_3 _ (List.mem_of_getElem? (i := 19) rfl)
theorem wd_3_20 : Cond.fieldLink RX6 16 "TideSeatsModel" "cells" "[I" ∈ wsL_law := wdm_3 _ (List.mem_of_getElem? (i := 20) rfl)
theorem wd_3_21 : Cond.fieldLink RX6 19 "TideSeatsModel" "height" "[I" ∈ wsL_law := wdm_3 _ (List.mem_of_getElem? (i := 21) rfl)
theorem wd_3_22 : Cond.fieldLink RX6 22 "TideSeatsModel" "depth" "[I" ∈ wsL_law := wdm_3 _ (List.mem_of_getElem? (i := 22) rfl)
theorem wd_3_23 : Cond.fieldLink RX6 25 "TideSeatsModel" "kind" "[I" ∈ wsL_law := wdm_3 _ (List.mem_of_getElem? (i := 23) rfl)
theorem wdm_4 : ∀ w ∈ wsL_law_r4, w ∈ wsL_law := fun _ h => List.mem_append_left _ (List.mem_append_left _ (List.mem_append_left _ (List.mem_append_left _ (List.mem_append_left _ (List.mem_append_left _ (List.mem_append_left _ (List.mem_append_left _ (List.mem_append_right _ (List.mem_append_right _ (List.mem_append_right _ (List.mem_append_left _ (h))))))))))))
theorem wd_4_0 : Cond.fieldLink RX6 28 "TideSeatsModel" "poolOf" "[I" ∈ wsL_law := wdm_4 _ (List.mem_of_getElem? (i := 0) rfl)
theorem wd_4_1 : Cond.fieldLink RX6 31 "TideSeatsModel" "view" "[I" ∈ wsL_law := wdm_4 _ (List.mem_of_getElem? (i := 1) rfl)
theorem wd_4_2 : Cond.fieldLink RX6 34 "TideSeatsModel" "readHeight" "[I" ∈ wsL_law := wdm_4 _ (List.mem_of_getElem? (i := 2) rfl)
theorem wd_4_3 : Cond.fieldLink RX6 37 "TideSeatsModel" "readDepth" "[I" ∈ wsL_law := wdm_4 _ (List.mem_of_getElem? (i := 3) rfl)
theorem wd_4_4 : Cond.fieldLink RX6 40 "TideSeatsModel" "readKind" "[I" ∈ wsL_law := wdm_4 _ (List.mem_of_getElem? (i := 4) rfl)
theorem wd_4_5 : Cond.fieldLink RX6 43 "TideSeatsModel" "readPoolOf" "[I" ∈ wsL_law := wdm_4 _ (List.mem_of_getElem? (i := 5) rfl)
theorem wd_4_6 : Cond.fieldLink RX6 46 "TideSeatsModel" "readView" "[I" ∈ wsL_law := wdm_4 _ (List.mem_of_getElem? (i := 6) rfl)
theorem wd_4_7 : Cond.fieldLink RX6 49 "TideSeatsModel" "kept" "[I" ∈ wsL_law := wdm_4 _ (List.mem_of_getElem? (i := 7) rfl)
theorem wd_4_8 : Cond.fieldLink RX6 52 "TideSeatsModel" "left" "[I" ∈ wsL_law := wdm_4 _ (List.mem_of_getElem? (i := 8) rfl)
theorem wd_4_9 : Cond.fieldLink RX6 55 "TideSeatsModel" "readWho" "[I" ∈ wsL_law := wdm_4 _ (List.mem_of_getElem? (i := 9) rfl)
theorem wd_4_10 : Cond.fieldLink RX6 58 "TideSeatsModel" "readTide" "[I" ∈ wsL_law := wdm_4 _ (List.mem_of_getElem? (i := 10) rfl)
theorem wd_4_11 : Cond.fieldLink RX6 61 "TideSeatsModel" "readTo" "[I" ∈ wsL_law := wdm_4 _ (List.mem_of_getElem? (i := 11) rfl)
theorem wd_4_12 : Cond.methodLink RL 13 yX5_shore ∈ wsL_law := wdm_4 _ (List.mem_of_getElem? (i := 12) rfl)
theorem wd_4_13 : Cond.instanceMethod yX5_shore ∈ wsL_law := wdm_4 _ (List.mem_of_getElem? (i := 13) rfl)
theorem wd_4_14 : Cond.selects RX5 yX5_shore yX5_shore ∈ wsL_law := wdm_4 _ (List.mem_of_getElem? (i := 14) rfl)
theorem wd_4_15 : Cond.code yX5_shore cX5_shore 6 (some .int) ∈ wsL_law := wdm_4 _ (List.mem_of_getElem? (i := 15) rfl)
theorem wd_4_16 : Cond.fieldLink RX5 49 "TideSeats" "latestFault" "I" ∈ wsL_law := wdm_4 _ (List.mem_of_getElem? (i := 16) rfl)
theorem wd_4_17 : Cond.fieldLink RX5 83 "TideSeats$Readings" "count" "I" ∈ wsL_law := wdm_4 _ (List.mem_of_getElem? (i := 17) rfl)
theorem wd_4_18 : Cond.fieldLink RX5 86 "TideSeats$Shore" "members" "I" ∈ wsL_law := wdm_4 _ (List.mem_of_getElem? (i := 18) rfl)
theorem wd_4_19 : Cond.methodLink RX5 53 yX5_isSheet ∈ wsL_law := wdm_4 _ (List.mem_of_getElem? (i := 19) rfl)
theorem wd_4_20 : Cond.static yX5_isSheet ∈ wsL_law := wdm_4 _ (List.mem_of_getElem? (i := 20) rfl)
theorem wd_4_21 : Cond.code yX5_isSheet cX5_isSheet 1 (some .boolean) ∈ wsL_law := wdm_4 _ (List.mem_of_getElem? (i := 21) rfl)
theorem wd_4_22 : Cond.methodLink RX5 120 yX5_isWithin ∈ wsL_law := wdm_4 _ (List.mem_of_getElem? (i := 22) rfl)
theorem wd_4_23 : Cond.static yX5_isWithin ∈ wsL_law := wdm_4 _ (List.mem_of_getElem? (i := 23) rfl)
theorem wdm_5 : ∀ w ∈ wsL_law_r5, w ∈ wsL_law := fun _ h => List.mem_append_left _ (List.mem_append_left _ (List.mem_append_left _ (List.mem_append_left _ (List.mem_append_left _ (List.mem_append_left _ (List.mem_append_left _ (List.mem_append_left _ (List.mem_append_right _ (List.mem_append_right _ (List.mem_append_right _ (List.mem_append_right _ (List.mem_append_left _ (h)))))))))))))
theorem wd_5_0 : Cond.code yX5_isWithin cX5_isWithin 3 (some .boolean) ∈ wsL_law := wdm_5 _ (List.mem_of_getElem? (i := 0) rfl)
theorem wd_5_1 : Cond.methodLink RX5 57 yX5_isLane ∈ wsL_law := wdm_5 _ (List.mem_of_getElem? (i := 1) rfl)
theorem wd_5_2 : Cond.static yX5_isLane ∈ wsL_law := wdm_5 _ (List.mem_of_getElem? (i := 2) rfl)
theorem wd_5_3 : Cond.code yX5_isLane cX5_isLane 1 (some .boolean) ∈ wsL_law := wdm_5 _ (List.mem_of_getElem? (i := 3) rfl)
theorem wd_5_4 : Cond.methodLink RX5 60 yX5_rowFault ∈ wsL_law := wdm_5 _ (List.mem_of_getElem? (i := 4) rfl)
theorem wd_5_5 : Cond.static yX5_rowFault ∈ wsL_law := wdm_5 _ (List.mem_of_getElem? (i := 5) rfl)
theorem wd_5_6 : Cond.code yX5_rowFault cX5_rowFault 4 (some .int) ∈ wsL_law := wdm_5 _ (List.mem_of_getElem? (i := 6) rfl)
theorem wd_5_7 : Cond.fieldLink RX5 269 "TideSeats$Sheet" "isThere" "Z" ∈ wsL_law := wdm_5 _ (List.mem_of_getElem? (i := 7) rfl)
theorem wd_5_8 : Cond.fieldLink RX5 279 "TideSeats$Sheet" "lane" "I" ∈ wsL_law := wdm_5 _ (List.mem_of_getElem? (i := 8) rfl)
theorem wd_5_9 : Cond.methodLink RX5 273 yX3_has ∈ wsL_law := wdm_5 _ (List.mem_of_getElem? (i := 9) rfl)
theorem wd_5_10 : Cond.instanceMethod yX3_has ∈ wsL_law := wdm_5 _ (List.mem_of_getElem? (i := 10) rfl)
theorem wd_5_11 : Cond.selects RX3 yX3_has yX3_has ∈ wsL_law := wdm_5 _ (List.mem_of_getElem? (i := 11) rfl)
theorem wd_5_12 : Cond.code yX3_has cX3_has 3 (some .boolean) ∈ wsL_law := wdm_5 _ (List.mem_of_getElem? (i := 12) rfl)
theorem wd_5_13 : Cond.fieldLink RX3 23 "TideSeats$Sheet" "size" "I" ∈ wsL_law := wdm_5 _ (List.mem_of_getElem? (i := 13) rfl)
theorem wd_5_14 : Cond.methodLink RX5 64 yX5_faulted ∈ wsL_law := wdm_5 _ (List.mem_of_getElem? (i := 14) rfl)
theorem wd_5_15 : Cond.instanceMethod yX5_faulted ∈ wsL_law := wdm_5 _ (List.mem_of_getElem? (i := 15) rfl)
theorem wd_5_16 : Cond.selects RX5 yX5_faulted yX5_faulted ∈ wsL_law := wdm_5 _ (List.mem_of_getElem? (i := 16) rfl)
theorem wd_5_17 : Cond.code yX5_faulted cX5_faulted 2 (some .int) ∈ wsL_law := wdm_5 _ (List.mem_of_getElem? (i := 17) rfl)
theorem wd_5_18 : Cond.methodLink RX5 68 yX0_begin ∈ wsL_law := wdm_5 _ (List.mem_of_getElem? (i := 18) rfl)
theorem wd_5_19 : Cond.instanceMethod yX0_begin ∈ wsL_law := wdm_5 _ (List.mem_of_getElem? (i := 19) rfl)
theorem wd_5_20 : Cond.selects RX0 yX0_begin yX0_begin ∈ wsL_law := wdm_5 _ (List.mem_of_getElem? (i := 20) rfl)
theorem wd_5_21 : Cond.code yX0_begin cX0_begin 4 none ∈ wsL_law := wdm_5 _ (List.mem_of_getElem? (i := 21) rfl)
theorem wd_5_22 : Cond.fieldLink RX0 9 "TideSeats$Reader" "sheet" "LTideSeats$Sheet;" ∈ wsL_law := wdm_5 _ (List.mem_of_getElem? (i := 22) rfl)
theorem wd_5_23 : Cond.fieldLink RX0 15 "TideSeats$Reader" "start" "I" ∈ wsL_law := wdm_5 _ (List.mem_of_getElem? (i := 23) rfl)
theorem wdm_6 : ∀ w ∈ wsL_law_r6, w ∈ wsL_law := fun _ h => List.mem_append_left _ (List.mem_append_left _ (List.mem_append_left _ (List.mem_append_left _ (List.mem_append_left _ (List.mem_append_left _ (List.mem_append_left _ (List.mem_append_left _ (List.mem_append_right _ (List.mem_append_right _ (List.mem_append_right _ (List.mem_append_right _ (List.mem_append_right _ (List.mem_append_left _ (h))))))))))))))
theorem wd_6_0 : Cond.fieldLink RX0 19 "TideSeats$Reader" "end" "I" ∈ wsL_law := wdm_6 _ (List.mem_of_getElem? (i := 0) rfl)
theorem wd_6_1 : Cond.fieldLink RX0 22 "TideSeats$Reader" "at" "I" ∈ wsL_law := wdm_6 _ (List.mem_of_getElem? (i := 1) rfl)
theorem wd_6_2 : Cond.methodLink RX5 72 yX4_readsAll ∈ wsL_law := wdm_6 _ (List.mem_of_getElem? (i := 2) rfl)
theorem wd_6_3 : Cond.instanceMethod yX4_readsAll ∈ wsL_law := wdm_6 _ (List.mem_of_getElem? (i := 3) rfl)
theorem wd_6_4 : Cond.selects RX4 yX4_readsAll yX4_readsAll ∈ wsL_law := wdm_6 _ (List.mem_of_getElem? (i := 4) rfl)
theorem wd_6_5 : Cond.code yX4_readsAll cX4_readsAll 2 (some .boolean) ∈ wsL_law := wdm_6 _ (List.mem_of_getElem? (i := 5) rfl)
theorem wd_6_6 : Cond.methodLink RX4 43 yX4_readsHead ∈ wsL_law := wdm_6 _ (List.mem_of_getElem? (i := 6) rfl)
theorem wd_6_7 : Cond.instanceMethod yX4_readsHead ∈ wsL_law := wdm_6 _ (List.mem_of_getElem? (i := 7) rfl)
theorem wd_6_8 : Cond.selects RX4 yX4_readsHead yX4_readsHead ∈ wsL_law := wdm_6 _ (List.mem_of_getElem? (i := 8) rfl)
theorem wd_6_9 : Cond.code yX4_readsHead cX4_readsHead 2 (some .boolean) ∈ wsL_law := wdm_6 _ (List.mem_of_getElem? (i := 9) rfl)
theorem wd_6_10 : Cond.fieldLink RX4 27 "TideSeats$Shore" "stream" "I" ∈ wsL_law := wdm_6 _ (List.mem_of_getElem? (i := 10) rfl)
theorem wd_6_11 : Cond.fieldLink RX4 31 "TideSeats$Shore" "mild" "I" ∈ wsL_law := wdm_6 _ (List.mem_of_getElem? (i := 11) rfl)
theorem wd_6_12 : Cond.fieldLink RX4 34 "TideSeats$Shore" "reach" "I" ∈ wsL_law := wdm_6 _ (List.mem_of_getElem? (i := 12) rfl)
theorem wd_6_13 : Cond.methodLink RX4 59 yX0_takes ∈ wsL_law := wdm_6 _ (List.mem_of_getElem? (i := 13) rfl)
theorem wd_6_14 : Cond.instanceMethod yX0_takes ∈ wsL_law := wdm_6 _ (List.mem_of_getElem? (i := 14) rfl)
theorem wd_6_15 : Cond.selects RX0 yX0_takes yX0_takes ∈ wsL_law := wdm_6 _ (List.mem_of_getElem? (i := 15) rfl)
theorem wd_6_16 : Cond.code yX0_takes cX0_takes 2 (some .boolean) ∈ wsL_law := wdm_6 _ (List.mem_of_getElem? (i := 16) rfl)
theorem wd_6_17 : Cond.fieldLink RX0 29 "TideSeats$Sheet" "cells" "[I" ∈ wsL_law := wdm_6 _ (List.mem_of_getElem? (i := 17) rfl)
theorem wd_6_18 : Cond.methodLink RX0 25 yX0_isAtEnd ∈ wsL_law := wdm_6 _ (List.mem_of_getElem? (i := 18) rfl)
theorem wd_6_19 : Cond.instanceMethod yX0_isAtEnd ∈ wsL_law := wdm_6 _ (List.mem_of_getElem? (i := 19) rfl)
theorem wd_6_20 : Cond.selects RX0 yX0_isAtEnd yX0_isAtEnd ∈ wsL_law := wdm_6 _ (List.mem_of_getElem? (i := 20) rfl)
theorem wd_6_21 : Cond.code yX0_isAtEnd cX0_isAtEnd 1 (some .boolean) ∈ wsL_law := wdm_6 _ (List.mem_of_getElem? (i := 21) rfl)
theorem wd_6_22 : Cond.methodLink RX4 63 yX0_digit ∈ wsL_law := wdm_6 _ (List.mem_of_getElem? (i := 22) rfl)
theorem wd_6_23 : Cond.instanceMethod yX0_digit ∈ wsL_law := wdm_6 _ (List.mem_of_getElem? (i := 23) rfl)
theorem wdm_7 : ∀ w ∈ wsL_law_r7, w ∈ wsL_law := fun _ h => List.mem_append_left _ (List.mem_append_left _ (List.mem_append_left _ (List.mem_append_left _ (List.mem_append_left _ (List.mem_append_left _ (List.mem_append_left _ (List.mem_append_left _ (List.mem_append_right _ (List.mem_append_right _ (List.mem_append_right _ (List.mem_append_right _ (List.mem_append_right _ (List.mem_append_right _ (List.mem_append_left _ (h)))))))))))))))
theorem wd_7_0 : Cond.selects RX0 yX0_digit yX0_digit ∈ wsL_law := wdm_7 _ (List.mem_of_getElem? (i := 0) rfl)
theorem wd_7_1 : Cond.code yX0_digit cX0_digit 4 (some .int) ∈ wsL_law := wdm_7 _ (List.mem_of_getElem? (i := 1) rfl)
theorem wd_7_2 : Cond.methodLink RX4 47 yX4_readsPools ∈ wsL_law := wdm_7 _ (List.mem_of_getElem? (i := 2) rfl)
theorem wd_7_3 : Cond.instanceMethod yX4_readsPools ∈ wsL_law := wdm_7 _ (List.mem_of_getElem? (i := 3) rfl)
theorem wd_7_4 : Cond.selects RX4 yX4_readsPools yX4_readsPools ∈ wsL_law := wdm_7 _ (List.mem_of_getElem? (i := 4) rfl)
theorem wd_7_5 : Cond.code yX4_readsPools cX4_readsPools 2 (some .boolean) ∈ wsL_law := wdm_7 _ (List.mem_of_getElem? (i := 5) rfl)
theorem wd_7_6 : Cond.fieldLink RX4 37 "TideSeats$Shore" "pools" "I" ∈ wsL_law := wdm_7 _ (List.mem_of_getElem? (i := 6) rfl)
theorem wd_7_7 : Cond.methodLink RX4 67 yX4_readsPool ∈ wsL_law := wdm_7 _ (List.mem_of_getElem? (i := 7) rfl)
theorem wd_7_8 : Cond.instanceMethod yX4_readsPool ∈ wsL_law := wdm_7 _ (List.mem_of_getElem? (i := 8) rfl)
theorem wd_7_9 : Cond.selects RX4 yX4_readsPool yX4_readsPool ∈ wsL_law := wdm_7 _ (List.mem_of_getElem? (i := 9) rfl)
theorem wd_7_10 : Cond.code yX4_readsPool cX4_readsPool 2 (some .boolean) ∈ wsL_law := wdm_7 _ (List.mem_of_getElem? (i := 10) rfl)
theorem wd_7_11 : Cond.methodLink RX4 50 yX4_readsMembers ∈ wsL_law := wdm_7 _ (List.mem_of_getElem? (i := 11) rfl)
theorem wd_7_12 : Cond.instanceMethod yX4_readsMembers ∈ wsL_law := wdm_7 _ (List.mem_of_getElem? (i := 12) rfl)
theorem wd_7_13 : Cond.selects RX4 yX4_readsMembers yX4_readsMembers ∈ wsL_law := wdm_7 _ (List.mem_of_getElem? (i := 13) rfl)
theorem wd_7_14 : Cond.code yX4_readsMembers cX4_readsMembers 2 (some .boolean) ∈ wsL_law := wdm_7 _ (List.mem_of_getElem? (i := 14) rfl)
theorem wd_7_15 : Cond.fieldLink RX4 40 "TideSeats$Shore" "members" "I" ∈ wsL_law := wdm_7 _ (List.mem_of_getElem? (i := 15) rfl)
theorem wd_7_16 : Cond.methodLink RX4 70 yX4_readsMember ∈ wsL_law := wdm_7 _ (List.mem_of_getElem? (i := 16) rfl)
theorem wd_7_17 : Cond.instanceMethod yX4_readsMember ∈ wsL_law := wdm_7 _ (List.mem_of_getElem? (i := 17) rfl)
theorem wd_7_18 : Cond.selects RX4 yX4_readsMember yX4_readsMember ∈ wsL_law := wdm_7 _ (List.mem_of_getElem? (i := 18) rfl)
theorem wd_7_19 : Cond.code yX4_readsMember cX4_readsMember 2 (some .boolean) ∈ wsL_law := wdm_7 _ (List.mem_of_getElem? (i := 19) rfl)
theorem wd_7_20 : Cond.methodLink RX4 73 yX0_kind ∈ wsL_law := wdm_7 _ (List.mem_of_getElem? (i := 20) rfl)
theorem wd_7_21 : Cond.instanceMethod yX0_kind ∈ wsL_law := wdm_7 _ (List.mem_of_getElem? (i := 21) rfl)
theorem wd_7_22 : Cond.selects RX0 yX0_kind yX0_kind ∈ wsL_law := wdm_7 _ (List.mem_of_getElem? (i := 22) rfl)
theorem wd_7_23 : Cond.code yX0_kind cX0_kind 1 (some .int) ∈ wsL_law := wdm_7 _ (List.mem_of_getElem? (i := 23) rfl)
theorem wdm_8 : ∀ w ∈ wsL_law_r8, w ∈ wsL_law := fun _ h => List.mem_append_left _ (List.mem_append_left _ (List.mem_append_left _ (List.mem_append_left _ (List.mem_append_left _ (List.mem_append_left _ (List.mem_append_left _ (List.mem_append_left _ (List.mem_append_right _ (List.mem_append_right _ (List.mem_append_right _ (List.mem_append_right _ (List.mem_append_right _ (List.mem_append_right _ (List.mem_append_right _ (List.mem_append_left _ (h))))))))))))))))
theorem wd_8_0 : Cond.methodLink RX0 39 yX0_takes ∈ wsL_law := wdm_8 _ (List.mem_of_getElem? (i := 0) rfl)
theorem wd_8_1 : Cond.methodLink RX4 53 yX0_isAtEnd ∈ wsL_law := wdm_8 _ (List.mem_of_getElem? (i := 1) rfl)
theorem wd_8_2 : Cond.methodLink RX5 76 yX0_place ∈ wsL_law := wdm_8 _ (List.mem_of_getElem? (i := 2) rfl)
theorem wd_8_3 : Cond.instanceMethod yX0_place ∈ wsL_law := wdm_8 _ (List.mem_of_getElem? (i := 3) rfl)
theorem wd_8_4 : Cond.selects RX0 yX0_place yX0_place ∈ wsL_law := wdm_8 _ (List.mem_of_getElem? (i := 4) rfl)
theorem wd_8_5 : Cond.code yX0_place cX0_place 1 (some .int) ∈ wsL_law := wdm_8 _ (List.mem_of_getElem? (i := 5) rfl)
theorem wd_8_6 : Cond.methodLink RX5 80 yX5_swapShores ∈ wsL_law := wdm_8 _ (List.mem_of_getElem? (i := 6) rfl)
theorem wd_8_7 : Cond.instanceMethod yX5_swapShores ∈ wsL_law := wdm_8 _ (List.mem_of_getElem? (i := 7) rfl)
theorem wd_8_8 : Cond.selects RX5 yX5_swapShores yX5_swapShores ∈ wsL_law := wdm_8 _ (List.mem_of_getElem? (i := 8) rfl)
theorem wd_8_9 : Cond.code yX5_swapShores cX5_swapShores 2 none ∈ wsL_law := wdm_8 _ (List.mem_of_getElem? (i := 9) rfl)
theorem wd_8_10 : Cond.methodLink RL 17 yX6_shore ∈ wsL_law := wdm_8 _ (List.mem_of_getElem? (i := 10) rfl)
theorem wd_8_11 : Cond.instanceMethod yX6_shore ∈ wsL_law := wdm_8 _ (List.mem_of_getElem? (i := 11) rfl)
theorem wd_8_12 : Cond.selects RX6 yX6_shore yX6_shore ∈ wsL_law := wdm_8 _ (List.mem_of_getElem? (i := 12) rfl)
theorem wd_8_13 : Cond.code yX6_shore cX6_shore 7 (some .int) ∈ wsL_law := wdm_8 _ (List.mem_of_getElem? (i := 13) rfl)
theorem wd_8_14 : Cond.fieldLink RX6 64 "TideSeatsModel" "fault" "I" ∈ wsL_law := wdm_8 _ (List.mem_of_getElem? (i := 14) rfl)
theorem wd_8_15 : Cond.fieldLink RX6 80 "TideSeatsModel" "at" "I" ∈ wsL_law := wdm_8 _ (List.mem_of_getElem? (i := 15) rfl)
theorem wd_8_16 : Cond.fieldLink RX6 77 "TideSeatsModel" "members" "I" ∈ wsL_law := wdm_8 _ (List.mem_of_getElem? (i := 16) rfl)
theorem wd_8_17 : Cond.methodLink RX6 83 yX6_isSheet ∈ wsL_law := wdm_8 _ (List.mem_of_getElem? (i := 17) rfl)
theorem wd_8_18 : Cond.static yX6_isSheet ∈ wsL_law := wdm_8 _ (List.mem_of_getElem? (i := 18) rfl)
theorem wd_8_19 : Cond.code yX6_isSheet cX6_isSheet 1 (some .boolean) ∈ wsL_law := wdm_8 _ (List.mem_of_getElem? (i := 19) rfl)
theorem wd_8_20 : Cond.methodLink RX6 70 yX6_within ∈ wsL_law := wdm_8 _ (List.mem_of_getElem? (i := 20) rfl)
theorem wd_8_21 : Cond.static yX6_within ∈ wsL_law := wdm_8 _ (List.mem_of_getElem? (i := 21) rfl)
theorem wd_8_22 : Cond.code yX6_within cX6_within 3 (some .boolean) ∈ wsL_law := wdm_8 _ (List.mem_of_getElem? (i := 22) rfl)
theorem wd_8_23 : Cond.methodLink RX6 87 yX6_isSort ∈ wsL_law := wdm_8 _ (List.mem_of_getElem? (i := 23) rfl)
theorem wdm_9 : ∀ w ∈ wsL_law_r9, w ∈ wsL_law := fun _ h => List.mem_append_left _ (List.mem_append_left _ (List.mem_append_left _ (List.mem_append_left _ (List.mem_append_left _ (List.mem_append_left _ (List.mem_append_left _ (List.mem_append_left _ (List.mem_append_right _ (List.mem_append_right _ (List.mem_append_right _ (List.mem_append_right _ (List.mem_append_right _ (List.mem_append_right _ (List.mem_append_right _ (List.mem_append_right _ (List.mem_append_left _ (h)))))))))))))))))
theorem wd_9_0 : Cond.static yX6_isSort ∈ wsL_law := wdm_9 _ (List.mem_of_getElem? (i := 0) rfl)
theorem wd_9_1 : Cond.code yX6_isSort cX6_isSort 1 (some .boolean) ∈ wsL_law := wdm_9 _ (List.mem_of_getElem? (i := 1) rfl)
theorem wd_9_2 : Cond.methodLink RX6 90 yX6_against ∈ wsL_law := wdm_9 _ (List.mem_of_getElem? (i := 2) rfl)
theorem wd_9_3 : Cond.instanceMethod yX6_against ∈ wsL_law := wdm_9 _ (List.mem_of_getElem? (i := 3) rfl)
theorem wd_9_4 : Cond.selects RX6 yX6_against yX6_against ∈ wsL_law := wdm_9 _ (List.mem_of_getElem? (i := 4) rfl)
theorem wd_9_5 : Cond.code yX6_against cX6_against 5 (some .int) ∈ wsL_law := wdm_9 _ (List.mem_of_getElem? (i := 5) rfl)
theorem wd_9_6 : Cond.methodLink RX6 94 yX6_fails ∈ wsL_law := wdm_9 _ (List.mem_of_getElem? (i := 6) rfl)
theorem wd_9_7 : Cond.instanceMethod yX6_fails ∈ wsL_law := wdm_9 _ (List.mem_of_getElem? (i := 7) rfl)
theorem wd_9_8 : Cond.selects RX6 yX6_fails yX6_fails ∈ wsL_law := wdm_9 _ (List.mem_of_getElem? (i := 8) rfl)
theorem wd_9_9 : Cond.code yX6_fails cX6_fails 2 (some .int) ∈ wsL_law := wdm_9 _ (List.mem_of_getElem? (i := 9) rfl)
theorem wd_9_10 : Cond.methodLink RX6 98 yX6_readShore ∈ wsL_law := wdm_9 _ (List.mem_of_getElem? (i := 10) rfl)
theorem wd_9_11 : Cond.instanceMethod yX6_readShore ∈ wsL_law := wdm_9 _ (List.mem_of_getElem? (i := 11) rfl)
theorem wd_9_12 : Cond.selects RX6 yX6_readShore yX6_readShore ∈ wsL_law := wdm_9 _ (List.mem_of_getElem? (i := 12) rfl)
theorem wd_9_13 : Cond.code yX6_readShore cX6_readShore 2 (some .boolean) ∈ wsL_law := wdm_9 _ (List.mem_of_getElem? (i := 13) rfl)
theorem wd_9_14 : Cond.fieldLink RX6 122 "TideSeatsModel" "readPools" "I" ∈ wsL_law := wdm_9 _ (List.mem_of_getElem? (i := 14) rfl)
theorem wd_9_15 : Cond.fieldLink RX6 125 "TideSeatsModel" "readMembers" "I" ∈ wsL_law := wdm_9 _ (List.mem_of_getElem? (i := 15) rfl)
theorem wd_9_16 : Cond.fieldLink RX6 104 "TideSeatsModel" "readStream" "I" ∈ wsL_law := wdm_9 _ (List.mem_of_getElem? (i := 16) rfl)
theorem wd_9_17 : Cond.fieldLink RX6 110 "TideSeatsModel" "readMild" "I" ∈ wsL_law := wdm_9 _ (List.mem_of_getElem? (i := 17) rfl)
theorem wd_9_18 : Cond.fieldLink RX6 116 "TideSeatsModel" "readLeap" "I" ∈ wsL_law := wdm_9 _ (List.mem_of_getElem? (i := 18) rfl)
theorem wd_9_19 : Cond.methodLink RX6 131 yX6_isSign ∈ wsL_law := wdm_9 _ (List.mem_of_getElem? (i := 19) rfl)
theorem wd_9_20 : Cond.instanceMethod yX6_isSign ∈ wsL_law := wdm_9 _ (List.mem_of_getElem? (i := 20) rfl)
theorem wd_9_21 : Cond.selects RX6 yX6_isSign yX6_isSign ∈ wsL_law := wdm_9 _ (List.mem_of_getElem? (i := 21) rfl)
theorem wd_9_22 : Cond.code yX6_isSign cX6_isSign 3 (some .boolean) ∈ wsL_law := wdm_9 _ (List.mem_of_getElem? (i := 22) rfl)
theorem wd_9_23 : Cond.methodLink RX6 135 yX6_digit ∈ wsL_law := wdm_9 _ (List.mem_of_getElem? (i := 23) rfl)
theorem wdm_10 : ∀ w ∈ wsL_law_r10, w ∈ wsL_law := fun _ h => List.mem_append_left _ (List.mem_append_left _ (List.mem_append_left _ (List.mem_append_left _ (List.mem_append_left _ (List.mem_append_left _ (List.mem_append_left _ (List.mem_append_left _ (List.mem_append_right _ (List.mem_append_right _ (List.mem_append_right _ (List.mem_append_right _ (List.mem_append_right _ (List.mem_append_right _ (List.mem_append_right _ (List.mem_append_right _ (List.mem_append_right _ (List.mem_append_left _ (h))))))))))))))))))
theorem wd_10_0 : Cond.instanceMethod yX6_digit ∈ wsL_law := wdm_10 _ (List.mem_of_getElem? (i := 0) rfl)
theorem wd_10_1 : Cond.selects RX6 yX6_digit yX6_digit ∈ wsL_law := wdm_10 _ (List.mem_of_getElem? (i := 1) rfl)
theorem wd_10_2 : Cond.code yX6_digit cX6_digit 4 (some .int) ∈ wsL_law := wdm_10 _ (List.mem_of_getElem? (i := 2) rfl)
theorem wd_10_3 : Cond.methodLink RX6 139 yX6_readPool ∈ wsL_law := wdm_10 _ (List.mem_of_getElem? (i := 3) rfl)
theorem wd_10_4 : Cond.instanceMethod yX6_readPool ∈ wsL_law := wdm_10 _ (List.mem_of_getElem? (i := 4) rfl)
theorem wd_10_5 : Cond.selects RX6 yX6_readPool yX6_readPool ∈ wsL_law := wdm_10 _ (List.mem_of_getElem? (i := 5) rfl)
theorem wd_10_6 : Cond.code yX6_readPool cX6_readPool 2 (some .boolean) ∈ wsL_law := wdm_10 _ (List.mem_of_getElem? (i := 6) rfl)
theorem wd_10_7 : Cond.methodLink RX6 142 yX6_readMember ∈ wsL_law := wdm_10 _ (List.mem_of_getElem? (i := 7) rfl)
theorem wd_10_8 : Cond.instanceMethod yX6_readMember ∈ wsL_law := wdm_10 _ (List.mem_of_getElem? (i := 8) rfl)
theorem wd_10_9 : Cond.selects RX6 yX6_readMember yX6_readMember ∈ wsL_law := wdm_10 _ (List.mem_of_getElem? (i := 9) rfl)
theorem wd_10_10 : Cond.code yX6_readMember cX6_readMember 3 (some .boolean) ∈ wsL_law := wdm_10 _ (List.mem_of_getElem? (i := 10) rfl)
theorem wd_10_11 : Cond.methodLink RX6 101 yX6_takeShore ∈ wsL_law := wdm_10 _ (List.mem_of_getElem? (i := 11) rfl)
theorem wd_10_12 : Cond.instanceMethod yX6_takeShore ∈ wsL_law := wdm_10 _ (List.mem_of_getElem? (i := 12) rfl)
theorem wd_10_13 : Cond.selects RX6 yX6_takeShore yX6_takeShore ∈ wsL_law := wdm_10 _ (List.mem_of_getElem? (i := 13) rfl)
theorem wd_10_14 : Cond.code yX6_takeShore cX6_takeShore 2 none ∈ wsL_law := wdm_10 _ (List.mem_of_getElem? (i := 14) rfl)
theorem wd_10_15 : Cond.fieldLink RX6 107 "TideSeatsModel" "stream" "I" ∈ wsL_law := wdm_10 _ (List.mem_of_getElem? (i := 15) rfl)
theorem wd_10_16 : Cond.fieldLink RX6 113 "TideSeatsModel" "mild" "I" ∈ wsL_law := wdm_10 _ (List.mem_of_getElem? (i := 16) rfl)
theorem wd_10_17 : Cond.fieldLink RX6 119 "TideSeatsModel" "leapNow" "I" ∈ wsL_law := wdm_10 _ (List.mem_of_getElem? (i := 17) rfl)
theorem wd_10_18 : Cond.fieldLink RX6 74 "TideSeatsModel" "pools" "I" ∈ wsL_law := wdm_10 _ (List.mem_of_getElem? (i := 18) rfl)
theorem wd_10_19 : Cond.fieldLink RX6 128 "TideSeatsModel" "readings" "I" ∈ wsL_law := wdm_10 _ (List.mem_of_getElem? (i := 19) rfl)
theorem wd_10_20 : Cond.methodLink RL 18 yX5_ofPool ∈ wsL_law := wdm_10 _ (List.mem_of_getElem? (i := 20) rfl)
theorem wd_10_21 : Cond.instanceMethod yX5_ofPool ∈ wsL_law := wdm_10 _ (List.mem_of_getElem? (i := 21) rfl)
theorem wd_10_22 : Cond.selects RX5 yX5_ofPool yX5_ofPool ∈ wsL_law := wdm_10 _ (List.mem_of_getElem? (i := 22) rfl)
theorem wd_10_23 : Cond.code yX5_ofPool cX5_ofPool 3 (some .int) ∈ wsL_law := wdm_10 _ (List.mem_of_getElem? (i := 23) rfl)
theorem wdm_11 : ∀ w ∈ wsL_law_r11, w ∈ wsL_law := fun _ h => List.mem_append_left _ (List.mem_append_left _ (List.mem_append_left _ (List.mem_append_left _ (List.mem_append_left _ (List.mem_append_left _ (List.mem_append_left _ (List.mem_append_left _ (List.mem_append_right _ (List.mem_append_right _ (List.mem_append_right _ (List.mem_append_right _ (List.mem_append_right _ (List.mem_append_right _ (List.mem_append_right _ (List.mem_append_right _ (List.mem_append_right _ (List.mem_append_right _ (List.mem_append_left _ (h)))))))))))))))))))
theorem wd_11_0 : Cond.fieldLink RX5 92 "TideSeats$Shore" "heights" "[I" ∈ wsL_law := wdm_11 _ (List.mem_of_getElem? (i := 0) rfl)
theorem wd_11_1 : Cond.fieldLink RX5 96 "TideSeats$Shore" "depths" "[I" ∈ wsL_law := wdm_11 _ (List.mem_of_getElem? (i := 1) rfl)
theorem wd_11_2 : Cond.methodLink RX5 89 yX5_isPool ∈ wsL_law := wdm_11 _ (List.mem_of_getElem? (i := 2) rfl)
theorem wd_11_3 : Cond.instanceMethod yX5_isPool ∈ wsL_law := wdm_11 _ (List.mem_of_getElem? (i := 3) rfl)
theorem wd_11_4 : Cond.selects RX5 yX5_isPool yX5_isPool ∈ wsL_law := wdm_11 _ (List.mem_of_getElem? (i := 4) rfl)
theorem wd_11_5 : Cond.code yX5_isPool cX5_isPool 2 (some .boolean) ∈ wsL_law := wdm_11 _ (List.mem_of_getElem? (i := 5) rfl)
theorem wd_11_6 : Cond.fieldLink RX5 203 "TideSeats$Shore" "pools" "I" ∈ wsL_law := wdm_11 _ (List.mem_of_getElem? (i := 6) rfl)
theorem wd_11_7 : Cond.methodLink RX5 99 yX4_sittersOf ∈ wsL_law := wdm_11 _ (List.mem_of_getElem? (i := 7) rfl)
theorem wd_11_8 : Cond.instanceMethod yX4_sittersOf ∈ wsL_law := wdm_11 _ (List.mem_of_getElem? (i := 8) rfl)
theorem wd_11_9 : Cond.selects RX4 yX4_sittersOf yX4_sittersOf ∈ wsL_law := wdm_11 _ (List.mem_of_getElem? (i := 9) rfl)
theorem wd_11_10 : Cond.code yX4_sittersOf cX4_sittersOf 4 (some .int) ∈ wsL_law := wdm_11 _ (List.mem_of_getElem? (i := 10) rfl)
theorem wd_11_11 : Cond.methodLink RX5 102 yX4_spanOf ∈ wsL_law := wdm_11 _ (List.mem_of_getElem? (i := 11) rfl)
theorem wd_11_12 : Cond.instanceMethod yX4_spanOf ∈ wsL_law := wdm_11 _ (List.mem_of_getElem? (i := 12) rfl)
theorem wd_11_13 : Cond.selects RX4 yX4_spanOf yX4_spanOf ∈ wsL_law := wdm_11 _ (List.mem_of_getElem? (i := 13) rfl)
theorem wd_11_14 : Cond.code yX4_spanOf cX4_spanOf 2 (some .int) ∈ wsL_law := wdm_11 _ (List.mem_of_getElem? (i := 14) rfl)
theorem wd_11_15 : Cond.methodLink RX4 86 yX4_sittersIn ∈ wsL_law := wdm_11 _ (List.mem_of_getElem? (i := 15) rfl)
theorem wd_11_16 : Cond.instanceMethod yX4_sittersIn ∈ wsL_law := wdm_11 _ (List.mem_of_getElem? (i := 16) rfl)
theorem wd_11_17 : Cond.selects RX4 yX4_sittersIn yX4_sittersIn ∈ wsL_law := wdm_11 _ (List.mem_of_getElem? (i := 17) rfl)
theorem wd_11_18 : Cond.code yX4_sittersIn cX4_sittersIn 2 (some .int) ∈ wsL_law := wdm_11 _ (List.mem_of_getElem? (i := 18) rfl)
theorem wd_11_19 : Cond.methodLink RX4 77 yX4_sittersOf ∈ wsL_law := wdm_11 _ (List.mem_of_getElem? (i := 19) rfl)
theorem wd_11_20 : Cond.methodLink RX4 81 yJ6_bitCount_0f7a4 ∈ wsL_law := wdm_11 _ (List.mem_of_getElem? (i := 20) rfl)
theorem wd_11_21 : Cond.static yJ6_bitCount_0f7a4 ∈ wsL_law := wdm_11 _ (List.mem_of_getElem? (i := 21) rfl)
theorem wd_11_22 : Cond.initialized RJ6 ∈ wsL_law := wdm_11 _ (List.mem_of_getElem? (i := 22) rfl)
theorem wd_11_23 : Cond.code yJ6_bitCount_0f7a4 cJ6_bitCount_0f7a4 1 (some .int) ∈ wsL_law := wdm_11 _ (List.mem_of_getElem? (i := 23) rfl)
theorem wdm_12 : ∀ w ∈ wsL_law_r12, w ∈ wsL_law := fun _ h => List.mem_append_left _ (List.mem_append_left _ (List.mem_append_left _ (List.mem_append_left _ (List.mem_append_left _ (List.mem_append_left _ (List.mem_append_left _ (List.mem_append_left _ (List.mem_append_right _ (List.mem_append_right _ (List.mem_append_right _ (List.mem_append_right _ (List.mem_append_right _ (List.mem_append_right _ (List.mem_append_right _ (List.mem_append_right _ (List.mem_append_right _ (List.mem_append_right _ (List.mem_append_right _ (List.mem_append_left _ (h))))))))))))))))))))
theorem wd_12_0 : Cond.constant RJ6 265 (1431655765) ∈ wsL_law := wdm_12 _ (List.mem_of_getElem? (i := 0) rfl)
theorem wd_12_1 : Cond.constant RJ6 266 (858993459) ∈ wsL_law := wdm_12 _ (List.mem_of_getElem? (i := 1) rfl)
theorem wd_12_2 : Cond.constant RJ6 267 (252645135) ∈ wsL_law := wdm_12 _ (List.mem_of_getElem? (i := 2) rfl)
theorem wd_12_3 : Cond.methodLink RL 22 yX6_ofPool ∈ wsL_law := wdm_12 _ (List.mem_of_getElem? (i := 3) rfl)
theorem wd_12_4 : Cond.instanceMethod yX6_ofPool ∈ wsL_law := wdm_12 _ (List.mem_of_getElem? (i := 4) rfl)
theorem wd_12_5 : Cond.selects RX6 yX6_ofPool yX6_ofPool ∈ wsL_law := wdm_12 _ (List.mem_of_getElem? (i := 5) rfl)
theorem wd_12_6 : Cond.code yX6_ofPool cX6_ofPool 3 (some .int) ∈ wsL_law := wdm_12 _ (List.mem_of_getElem? (i := 6) rfl)
theorem wd_12_7 : Cond.methodLink RX6 145 yX6_isPool ∈ wsL_law := wdm_12 _ (List.mem_of_getElem? (i := 7) rfl)
theorem wd_12_8 : Cond.instanceMethod yX6_isPool ∈ wsL_law := wdm_12 _ (List.mem_of_getElem? (i := 8) rfl)
theorem wd_12_9 : Cond.selects RX6 yX6_isPool yX6_isPool ∈ wsL_law := wdm_12 _ (List.mem_of_getElem? (i := 9) rfl)
theorem wd_12_10 : Cond.code yX6_isPool cX6_isPool 2 (some .boolean) ∈ wsL_law := wdm_12 _ (List.mem_of_getElem? (i := 10) rfl)
theorem wd_12_11 : Cond.methodLink RX6 148 yX6_sitters ∈ wsL_law := wdm_12 _ (List.mem_of_getElem? (i := 11) rfl)
theorem wd_12_12 : Cond.instanceMethod yX6_sitters ∈ wsL_law := wdm_12 _ (List.mem_of_getElem? (i := 12) rfl)
theorem wd_12_13 : Cond.selects RX6 yX6_sitters yX6_sitters ∈ wsL_law := wdm_12 _ (List.mem_of_getElem? (i := 13) rfl)
theorem wd_12_14 : Cond.code yX6_sitters cX6_sitters 4 (some .int) ∈ wsL_law := wdm_12 _ (List.mem_of_getElem? (i := 14) rfl)
theorem wd_12_15 : Cond.methodLink RX6 151 yX6_size ∈ wsL_law := wdm_12 _ (List.mem_of_getElem? (i := 15) rfl)
theorem wd_12_16 : Cond.static yX6_size ∈ wsL_law := wdm_12 _ (List.mem_of_getElem? (i := 16) rfl)
theorem wd_12_17 : Cond.code yX6_size cX6_size 3 (some .int) ∈ wsL_law := wdm_12 _ (List.mem_of_getElem? (i := 17) rfl)
theorem wd_12_18 : Cond.methodLink RL 23 yX5_ofMember ∈ wsL_law := wdm_12 _ (List.mem_of_getElem? (i := 18) rfl)
theorem wd_12_19 : Cond.instanceMethod yX5_ofMember ∈ wsL_law := wdm_12 _ (List.mem_of_getElem? (i := 19) rfl)
theorem wd_12_20 : Cond.selects RX5 yX5_ofMember yX5_ofMember ∈ wsL_law := wdm_12 _ (List.mem_of_getElem? (i := 20) rfl)
theorem wd_12_21 : Cond.code yX5_ofMember cX5_ofMember 3 (some .int) ∈ wsL_law := wdm_12 _ (List.mem_of_getElem? (i := 21) rfl)
theorem wd_12_22 : Cond.fieldLink RX5 108 "TideSeats$Shore" "kindOf" "[I" ∈ wsL_law := wdm_12 _ (List.mem_of_getElem? (i := 22) rfl)
theorem wd_12_23 : Cond.fieldLink RX5 111 "TideSeats$Shore" "seats" "[I" ∈ wsL_law := wdm_12 _ (List.mem_of_getElem? (i := 23) rfl)
theorem wdm_13 : ∀ w ∈ wsL_law_r13, w ∈ wsL_law := fun _ h => List.mem_append_left _ (List.mem_append_left _ (List.mem_append_left _ (List.mem_append_left _ (List.mem_append_left _ (List.mem_append_left _ (List.mem_append_left _ (List.mem_append_left _ (List.mem_append_right _ (List.mem_append_right _ (List.mem_append_right _ (List.mem_append_right _ (List.mem_append_right _ (List.mem_append_right _ (List.mem_append_right _ (List.mem_append_right _ (List.mem_append_right _ (List.mem_append_right _ (List.mem_append_right _ (List.mem_append_right _ (List.mem_append_left _ (h)))))))))))))))))))))
theorem wd_13_0 : Cond.fieldLink RX5 114 "TideSeats$Shore" "views" "[I" ∈ wsL_law := wdm_13 _ (List.mem_of_getElem? (i := 0) rfl)
theorem wd_13_1 : Cond.methodLink RX5 105 yX5_isMember ∈ wsL_law := wdm_13 _ (List.mem_of_getElem? (i := 1) rfl)
theorem wd_13_2 : Cond.instanceMethod yX5_isMember ∈ wsL_law := wdm_13 _ (List.mem_of_getElem? (i := 2) rfl)
theorem wd_13_3 : Cond.selects RX5 yX5_isMember yX5_isMember ∈ wsL_law := wdm_13 _ (List.mem_of_getElem? (i := 3) rfl)
theorem wd_13_4 : Cond.code yX5_isMember cX5_isMember 2 (some .boolean) ∈ wsL_law := wdm_13 _ (List.mem_of_getElem? (i := 4) rfl)
theorem wd_13_5 : Cond.methodLink RX5 117 yX4_stepsOf ∈ wsL_law := wdm_13 _ (List.mem_of_getElem? (i := 5) rfl)
theorem wd_13_6 : Cond.instanceMethod yX4_stepsOf ∈ wsL_law := wdm_13 _ (List.mem_of_getElem? (i := 6) rfl)
theorem wd_13_7 : Cond.selects RX4 yX4_stepsOf yX4_stepsOf ∈ wsL_law := wdm_13 _ (List.mem_of_getElem? (i := 7) rfl)
theorem wd_13_8 : Cond.code yX4_stepsOf cX4_stepsOf 2 (some .int) ∈ wsL_law := wdm_13 _ (List.mem_of_getElem? (i := 8) rfl)
theorem wd_13_9 : Cond.methodLink RL 26 yX6_ofMember ∈ wsL_law := wdm_13 _ (List.mem_of_getElem? (i := 9) rfl)
theorem wd_13_10 : Cond.instanceMethod yX6_ofMember ∈ wsL_law := wdm_13 _ (List.mem_of_getElem? (i := 10) rfl)
theorem wd_13_11 : Cond.selects RX6 yX6_ofMember yX6_ofMember ∈ wsL_law := wdm_13 _ (List.mem_of_getElem? (i := 11) rfl)
theorem wd_13_12 : Cond.code yX6_ofMember cX6_ofMember 3 (some .int) ∈ wsL_law := wdm_13 _ (List.mem_of_getElem? (i := 12) rfl)
theorem wd_13_13 : Cond.methodLink RX6 154 yX6_isMember ∈ wsL_law := wdm_13 _ (List.mem_of_getElem? (i := 13) rfl)
theorem wd_13_14 : Cond.instanceMethod yX6_isMember ∈ wsL_law := wdm_13 _ (List.mem_of_getElem? (i := 14) rfl)
theorem wd_13_15 : Cond.selects RX6 yX6_isMember yX6_isMember ∈ wsL_law := wdm_13 _ (List.mem_of_getElem? (i := 15) rfl)
theorem wd_13_16 : Cond.code yX6_isMember cX6_isMember 2 (some .boolean) ∈ wsL_law := wdm_13 _ (List.mem_of_getElem? (i := 16) rfl)
theorem wd_13_17 : Cond.methodLink RX6 157 yX6_farOf ∈ wsL_law := wdm_13 _ (List.mem_of_getElem? (i := 17) rfl)
theorem wd_13_18 : Cond.instanceMethod yX6_farOf ∈ wsL_law := wdm_13 _ (List.mem_of_getElem? (i := 18) rfl)
theorem wd_13_19 : Cond.selects RX6 yX6_farOf yX6_farOf ∈ wsL_law := wdm_13 _ (List.mem_of_getElem? (i := 19) rfl)
theorem wd_13_20 : Cond.code yX6_farOf cX6_farOf 2 (some .int) ∈ wsL_law := wdm_13 _ (List.mem_of_getElem? (i := 20) rfl)
theorem wd_13_21 : Cond.methodLink RL 27 yX5_raise ∈ wsL_law := wdm_13 _ (List.mem_of_getElem? (i := 21) rfl)
theorem wd_13_22 : Cond.instanceMethod yX5_raise ∈ wsL_law := wdm_13 _ (List.mem_of_getElem? (i := 22) rfl)
theorem wd_13_23 : Cond.selects RX5 yX5_raise yX5_raise ∈ wsL_law := wdm_13 _ (List.mem_of_getElem? (i := 23) rfl)
theorem wdm_14 : ∀ w ∈ wsL_law_r14, w ∈ wsL_law := fun _ h => List.mem_append_left _ (List.mem_append_left _ (List.mem_append_left _ (List.mem_append_left _ (List.mem_append_left _ (List.mem_append_left _ (List.mem_append_left _ (List.mem_append_left _ (List.mem_append_right _ (List.mem_append_right _ (List.mem_append_right _ (List.mem_append_right _ (List.mem_append_right _ (List.mem_append_right _ (List.mem_append_right _ (List.mem_append_right _ (List.mem_append_right _ (List.mem_append_right _ (List.mem_append_right _ (List.mem_append_right _ (List.mem_append_right _ (List.mem_append_left _ (h))))))))))))))))))))))
theorem wd_14_0 : Cond.code yX5_raise cX5_raise 4 (some .int) ∈ wsL_law := wdm_14 _ (List.mem_of_getElem? (i := 0) rfl)
theorem wd_14_1 : Cond.methodLink RL 30 yX6_raise ∈ wsL_law := wdm_14 _ (List.mem_of_getElem? (i := 1) rfl)
theorem wd_14_2 : Cond.instanceMethod yX6_raise ∈ wsL_law := wdm_14 _ (List.mem_of_getElem? (i := 2) rfl)
theorem wd_14_3 : Cond.selects RX6 yX6_raise yX6_raise ∈ wsL_law := wdm_14 _ (List.mem_of_getElem? (i := 3) rfl)
theorem wd_14_4 : Cond.code yX6_raise cX6_raise 4 (some .int) ∈ wsL_law := wdm_14 _ (List.mem_of_getElem? (i := 4) rfl)
theorem wd_14_5 : Cond.methodLink RL 31 yX5_sway ∈ wsL_law := wdm_14 _ (List.mem_of_getElem? (i := 5) rfl)
theorem wd_14_6 : Cond.instanceMethod yX5_sway ∈ wsL_law := wdm_14 _ (List.mem_of_getElem? (i := 6) rfl)
theorem wd_14_7 : Cond.selects RX5 yX5_sway yX5_sway ∈ wsL_law := wdm_14 _ (List.mem_of_getElem? (i := 7) rfl)
theorem wd_14_8 : Cond.code yX5_sway cX5_sway 4 (some .int) ∈ wsL_law := wdm_14 _ (List.mem_of_getElem? (i := 8) rfl)
theorem wd_14_9 : Cond.methodLink RX5 124 yX5_isDigit ∈ wsL_law := wdm_14 _ (List.mem_of_getElem? (i := 9) rfl)
theorem wd_14_10 : Cond.static yX5_isDigit ∈ wsL_law := wdm_14 _ (List.mem_of_getElem? (i := 10) rfl)
theorem wd_14_11 : Cond.code yX5_isDigit cX5_isDigit 1 (some .boolean) ∈ wsL_law := wdm_14 _ (List.mem_of_getElem? (i := 11) rfl)
theorem wd_14_12 : Cond.methodLink RL 34 yX6_sway ∈ wsL_law := wdm_14 _ (List.mem_of_getElem? (i := 12) rfl)
theorem wd_14_13 : Cond.instanceMethod yX6_sway ∈ wsL_law := wdm_14 _ (List.mem_of_getElem? (i := 13) rfl)
theorem wd_14_14 : Cond.selects RX6 yX6_sway yX6_sway ∈ wsL_law := wdm_14 _ (List.mem_of_getElem? (i := 14) rfl)
theorem wd_14_15 : Cond.code yX6_sway cX6_sway 4 (some .int) ∈ wsL_law := wdm_14 _ (List.mem_of_getElem? (i := 15) rfl)
theorem wd_14_16 : Cond.methodLink RX6 160 yX6_isDigit ∈ wsL_law := wdm_14 _ (List.mem_of_getElem? (i := 16) rfl)
theorem wd_14_17 : Cond.static yX6_isDigit ∈ wsL_law := wdm_14 _ (List.mem_of_getElem? (i := 17) rfl)
theorem wd_14_18 : Cond.code yX6_isDigit cX6_isDigit 1 (some .boolean) ∈ wsL_law := wdm_14 _ (List.mem_of_getElem? (i := 18) rfl)
theorem wd_14_19 : Cond.methodLink RL 35 yX5_seat ∈ wsL_law := wdm_14 _ (List.mem_of_getElem? (i := 19) rfl)
theorem wd_14_20 : Cond.instanceMethod yX5_seat ∈ wsL_law := wdm_14 _ (List.mem_of_getElem? (i := 20) rfl)
theorem wd_14_21 : Cond.selects RX5 yX5_seat yX5_seat ∈ wsL_law := wdm_14 _ (List.mem_of_getElem? (i := 21) rfl)
theorem wd_14_22 : Cond.code yX5_seat cX5_seat 4 (some .int) ∈ wsL_law := wdm_14 _ (List.mem_of_getElem? (i := 22) rfl)
theorem wd_14_23 : Cond.methodLink RL 38 yX6_seat ∈ wsL_law := wdm_14 _ (List.mem_of_getElem? (i := 23) rfl)
theorem wdm_15 : ∀ w ∈ wsL_law_r15, w ∈ wsL_law := fun _ h => List.mem_append_left _ (List.mem_append_left _ (List.mem_append_left _ (List.mem_append_left _ (List.mem_append_left _ (List.mem_append_left _ (List.mem_append_left _ (List.mem_append_left _ (List.mem_append_right _ (List.mem_append_right _ (List.mem_append_right _ (List.mem_append_right _ (List.mem_append_right _ (List.mem_append_right _ (List.mem_append_right _ (List.mem_append_right _ (List.mem_append_right _ (List.mem_append_right _ (List.mem_append_right _ (List.mem_append_right _ (List.mem_append_right _ (List.mem_append_right _ (List.mem_append_left _ (h)))))))))))))))))))))))
theorem wd_15_0 : Cond.instanceMethod yX6_seat ∈ wsL_law := wdm_15 _ (List.mem_of_getElem? (i := 0) rfl)
theorem wd_15_1 : Cond.selects RX6 yX6_seat yX6_seat ∈ wsL_law := wdm_15 _ (List.mem_of_getElem? (i := 1) rfl)
theorem wd_15_2 : Cond.code yX6_seat cX6_seat 4 (some .int) ∈ wsL_law := wdm_15 _ (List.mem_of_getElem? (i := 2) rfl)
theorem wd_15_3 : Cond.methodLink RL 39 yX5_flow ∈ wsL_law := wdm_15 _ (List.mem_of_getElem? (i := 3) rfl)
theorem wd_15_4 : Cond.instanceMethod yX5_flow ∈ wsL_law := wdm_15 _ (List.mem_of_getElem? (i := 4) rfl)
theorem wd_15_5 : Cond.selects RX5 yX5_flow yX5_flow ∈ wsL_law := wdm_15 _ (List.mem_of_getElem? (i := 5) rfl)
theorem wd_15_6 : Cond.code yX5_flow cX5_flow 4 (some .int) ∈ wsL_law := wdm_15 _ (List.mem_of_getElem? (i := 6) rfl)
theorem wd_15_7 : Cond.fieldLink RX5 131 "TideSeats$Shore" "stream" "I" ∈ wsL_law := wdm_15 _ (List.mem_of_getElem? (i := 7) rfl)
theorem wd_15_8 : Cond.methodLink RX5 127 yX5_refusalUnless ∈ wsL_law := wdm_15 _ (List.mem_of_getElem? (i := 8) rfl)
theorem wd_15_9 : Cond.instanceMethod yX5_refusalUnless ∈ wsL_law := wdm_15 _ (List.mem_of_getElem? (i := 9) rfl)
theorem wd_15_10 : Cond.selects RX5 yX5_refusalUnless yX5_refusalUnless ∈ wsL_law := wdm_15 _ (List.mem_of_getElem? (i := 10) rfl)
theorem wd_15_11 : Cond.code yX5_refusalUnless cX5_refusalUnless 2 (some .int) ∈ wsL_law := wdm_15 _ (List.mem_of_getElem? (i := 11) rfl)
theorem wd_15_12 : Cond.methodLink RX5 254 yX5_hasShore ∈ wsL_law := wdm_15 _ (List.mem_of_getElem? (i := 12) rfl)
theorem wd_15_13 : Cond.instanceMethod yX5_hasShore ∈ wsL_law := wdm_15 _ (List.mem_of_getElem? (i := 13) rfl)
theorem wd_15_14 : Cond.selects RX5 yX5_hasShore yX5_hasShore ∈ wsL_law := wdm_15 _ (List.mem_of_getElem? (i := 14) rfl)
theorem wd_15_15 : Cond.code yX5_hasShore cX5_hasShore 1 (some .boolean) ∈ wsL_law := wdm_15 _ (List.mem_of_getElem? (i := 15) rfl)
theorem wd_15_16 : Cond.methodLink RL 43 yX6_flow ∈ wsL_law := wdm_15 _ (List.mem_of_getElem? (i := 16) rfl)
theorem wd_15_17 : Cond.instanceMethod yX6_flow ∈ wsL_law := wdm_15 _ (List.mem_of_getElem? (i := 17) rfl)
theorem wd_15_18 : Cond.selects RX6 yX6_flow yX6_flow ∈ wsL_law := wdm_15 _ (List.mem_of_getElem? (i := 18) rfl)
theorem wd_15_19 : Cond.code yX6_flow cX6_flow 3 (some .int) ∈ wsL_law := wdm_15 _ (List.mem_of_getElem? (i := 19) rfl)
theorem wd_15_20 : Cond.methodLink RL 44 yX5_calm ∈ wsL_law := wdm_15 _ (List.mem_of_getElem? (i := 20) rfl)
theorem wd_15_21 : Cond.instanceMethod yX5_calm ∈ wsL_law := wdm_15 _ (List.mem_of_getElem? (i := 21) rfl)
theorem wd_15_22 : Cond.selects RX5 yX5_calm yX5_calm ∈ wsL_law := wdm_15 _ (List.mem_of_getElem? (i := 22) rfl)
theorem wd_15_23 : Cond.code yX5_calm cX5_calm 4 (some .int) ∈ wsL_law := wdm_15 _ (List.mem_of_getElem? (i := 23) rfl)
theorem wdm_16 : ∀ w ∈ wsL_law_r16, w ∈ wsL_law := fun _ h => List.mem_append_left _ (List.mem_append_left _ (List.mem_append_left _ (List.mem_append_left _ (List.mem_append_left _ (List.mem_append_left _ (List.mem_append_left _ (List.mem_append_left _ (List.mem_append_right _ (List.mem_append_right _ (List.mem_append_right _ (List.mem_append_right _ (List.mem_append_right _ (List.mem_append_right _ (List.mem_append_right _ (List.mem_append_right _ (List.mem_append_right _ (List.mem_append_right _ (List.mem_append_right _ (List.mem_append_right _ (List.mem_append_right _ (List.mem_append_right _ (List.mem_append_right _ (List.mem_append_left _ (h))))))))))))))))))))))))
theorem wd_16_0 : Cond.fieldLink RX5 134 "TideSeats$Shore" "mild" "I" ∈ wsL_law := wdm_16 _ (List.mem_of_getElem? (i := 0) rfl)
theorem wd_16_1 : Cond.methodLink RL 47 yX6_calm ∈ wsL_law := wdm_16 _ (List.mem_of_getElem? (i := 1) rfl)
theorem wd_16_2 : Cond.instanceMethod yX6_calm ∈ wsL_law := wdm_16 _ (List.mem_of_getElem? (i := 2) rfl)
theorem wd_16_3 : Cond.selects RX6 yX6_calm yX6_calm ∈ wsL_law := wdm_16 _ (List.mem_of_getElem? (i := 3) rfl)
theorem wd_16_4 : Cond.code yX6_calm cX6_calm 3 (some .int) ∈ wsL_law := wdm_16 _ (List.mem_of_getElem? (i := 4) rfl)
theorem wd_16_5 : Cond.methodLink RL 48 yX5_leap ∈ wsL_law := wdm_16 _ (List.mem_of_getElem? (i := 5) rfl)
theorem wd_16_6 : Cond.instanceMethod yX5_leap ∈ wsL_law := wdm_16 _ (List.mem_of_getElem? (i := 6) rfl)
theorem wd_16_7 : Cond.selects RX5 yX5_leap yX5_leap ∈ wsL_law := wdm_16 _ (List.mem_of_getElem? (i := 7) rfl)
theorem wd_16_8 : Cond.code yX5_leap cX5_leap 4 (some .int) ∈ wsL_law := wdm_16 _ (List.mem_of_getElem? (i := 8) rfl)
theorem wd_16_9 : Cond.fieldLink RX5 137 "TideSeats$Shore" "reach" "I" ∈ wsL_law := wdm_16 _ (List.mem_of_getElem? (i := 9) rfl)
theorem wd_16_10 : Cond.methodLink RL 51 yX6_leap ∈ wsL_law := wdm_16 _ (List.mem_of_getElem? (i := 10) rfl)
theorem wd_16_11 : Cond.instanceMethod yX6_leap ∈ wsL_law := wdm_16 _ (List.mem_of_getElem? (i := 11) rfl)
theorem wd_16_12 : Cond.selects RX6 yX6_leap yX6_leap ∈ wsL_law := wdm_16 _ (List.mem_of_getElem? (i := 12) rfl)
theorem wd_16_13 : Cond.code yX6_leap cX6_leap 3 (some .int) ∈ wsL_law := wdm_16 _ (List.mem_of_getElem? (i := 13) rfl)
theorem wd_16_14 : Cond.methodLink RL 52 yX5_washed ∈ wsL_law := wdm_16 _ (List.mem_of_getElem? (i := 14) rfl)
theorem wd_16_15 : Cond.instanceMethod yX5_washed ∈ wsL_law := wdm_16 _ (List.mem_of_getElem? (i := 15) rfl)
theorem wd_16_16 : Cond.selects RX5 yX5_washed yX5_washed ∈ wsL_law := wdm_16 _ (List.mem_of_getElem? (i := 16) rfl)
theorem wd_16_17 : Cond.code yX5_washed cX5_washed 3 (some .int) ∈ wsL_law := wdm_16 _ (List.mem_of_getElem? (i := 17) rfl)
theorem wd_16_18 : Cond.methodLink RX5 140 yX4_washedBy ∈ wsL_law := wdm_16 _ (List.mem_of_getElem? (i := 18) rfl)
theorem wd_16_19 : Cond.instanceMethod yX4_washedBy ∈ wsL_law := wdm_16 _ (List.mem_of_getElem? (i := 19) rfl)
theorem wd_16_20 : Cond.selects RX4 yX4_washedBy yX4_washedBy ∈ wsL_law := wdm_16 _ (List.mem_of_getElem? (i := 20) rfl)
theorem wd_16_21 : Cond.code yX4_washedBy cX4_washedBy 4 (some .int) ∈ wsL_law := wdm_16 _ (List.mem_of_getElem? (i := 21) rfl)
theorem wd_16_22 : Cond.methodLink RX4 93 yX4_isWashed ∈ wsL_law := wdm_16 _ (List.mem_of_getElem? (i := 22) rfl)
theorem wd_16_23 : Cond.instanceMethod yX4_isWashed ∈ wsL_law := wdm_16 _ (List.mem_of_getElem? (i := 23) rfl)
theorem wdm_17 : ∀ w ∈ wsL_law_r17, w ∈ wsL_law := fun _ h => List.mem_append_left _ (List.mem_append_left _ (List.mem_append_left _ (List.mem_append_left _ (List.mem_append_left _ (List.mem_append_left _ (List.mem_append_left _ (List.mem_append_left _ (List.mem_append_right _ (List.mem_append_right _ (List.mem_append_right _ (List.mem_append_right _ (List.mem_append_right _ (List.mem_append_right _ (List.mem_append_right _ (List.mem_append_right _ (List.mem_append_right _ (List.mem_append_right _ (List.mem_append_right _ (List.mem_append_right _ (List.mem_append_right _ (List.mem_append_right _ (List.mem_append_right _ (List.mem_append_right _ (List.mem_append_left _ (h)))))))))))))))))))))))))
theorem wd_17_0 : Cond.selects RX4 yX4_isWashed yX4_isWashed ∈ wsL_law := wdm_17 _ (List.mem_of_getElem? (i := 0) rfl)
theorem wd_17_1 : Cond.code yX4_isWashed cX4_isWashed 3 (some .boolean) ∈ wsL_law := wdm_17 _ (List.mem_of_getElem? (i := 1) rfl)
theorem wd_17_2 : Cond.methodLink RL 55 yX6_washed ∈ wsL_law := wdm_17 _ (List.mem_of_getElem? (i := 2) rfl)
theorem wd_17_3 : Cond.instanceMethod yX6_washed ∈ wsL_law := wdm_17 _ (List.mem_of_getElem? (i := 3) rfl)
theorem wd_17_4 : Cond.selects RX6 yX6_washed yX6_washed ∈ wsL_law := wdm_17 _ (List.mem_of_getElem? (i := 4) rfl)
theorem wd_17_5 : Cond.code yX6_washed cX6_washed 2 (some .int) ∈ wsL_law := wdm_17 _ (List.mem_of_getElem? (i := 5) rfl)
theorem wd_17_6 : Cond.methodLink RX6 163 yX6_washedBy ∈ wsL_law := wdm_17 _ (List.mem_of_getElem? (i := 6) rfl)
theorem wd_17_7 : Cond.instanceMethod yX6_washedBy ∈ wsL_law := wdm_17 _ (List.mem_of_getElem? (i := 7) rfl)
theorem wd_17_8 : Cond.selects RX6 yX6_washedBy yX6_washedBy ∈ wsL_law := wdm_17 _ (List.mem_of_getElem? (i := 8) rfl)
theorem wd_17_9 : Cond.code yX6_washedBy cX6_washedBy 4 (some .int) ∈ wsL_law := wdm_17 _ (List.mem_of_getElem? (i := 9) rfl)
theorem wd_17_10 : Cond.methodLink RL 56 yX5_carried ∈ wsL_law := wdm_17 _ (List.mem_of_getElem? (i := 10) rfl)
theorem wd_17_11 : Cond.instanceMethod yX5_carried ∈ wsL_law := wdm_17 _ (List.mem_of_getElem? (i := 11) rfl)
theorem wd_17_12 : Cond.selects RX5 yX5_carried yX5_carried ∈ wsL_law := wdm_17 _ (List.mem_of_getElem? (i := 12) rfl)
theorem wd_17_13 : Cond.code yX5_carried cX5_carried 3 (some .int) ∈ wsL_law := wdm_17 _ (List.mem_of_getElem? (i := 13) rfl)
theorem wd_17_14 : Cond.methodLink RX5 143 yX4_seatBehind ∈ wsL_law := wdm_17 _ (List.mem_of_getElem? (i := 14) rfl)
theorem wd_17_15 : Cond.instanceMethod yX4_seatBehind ∈ wsL_law := wdm_17 _ (List.mem_of_getElem? (i := 15) rfl)
theorem wd_17_16 : Cond.selects RX4 yX4_seatBehind yX4_seatBehind ∈ wsL_law := wdm_17 _ (List.mem_of_getElem? (i := 16) rfl)
theorem wd_17_17 : Cond.code yX4_seatBehind cX4_seatBehind 3 (some .int) ∈ wsL_law := wdm_17 _ (List.mem_of_getElem? (i := 17) rfl)
theorem wd_17_18 : Cond.methodLink RX4 103 yX4_poolBehind ∈ wsL_law := wdm_17 _ (List.mem_of_getElem? (i := 18) rfl)
theorem wd_17_19 : Cond.instanceMethod yX4_poolBehind ∈ wsL_law := wdm_17 _ (List.mem_of_getElem? (i := 19) rfl)
theorem wd_17_20 : Cond.selects RX4 yX4_poolBehind yX4_poolBehind ∈ wsL_law := wdm_17 _ (List.mem_of_getElem? (i := 20) rfl)
theorem wd_17_21 : Cond.code yX4_poolBehind cX4_poolBehind 6 (some .int) ∈ wsL_law := wdm_17 _ (List.mem_of_getElem? (i := 21) rfl)
theorem wd_17_22 : Cond.methodLink RX4 97 yX4_stepsOf ∈ wsL_law := wdm_17 _ (List.mem_of_getElem? (i := 22) rfl)
theorem wd_17_23 : Cond.methodLink RX4 100 yX4_nextWashed ∈ wsL_law := wdm_17 _ (List.mem_of_getElem? (i := 23) rfl)
theorem wdm_18 : ∀ w ∈ wsL_law_r18, w ∈ wsL_law := fun _ h => List.mem_append_left _ (List.mem_append_left _ (List.mem_append_left _ (List.mem_append_left _ (List.mem_append_left _ (List.mem_append_left _ (List.mem_append_left _ (List.mem_append_left _ (List.mem_append_right _ (List.mem_append_right _ (List.mem_append_right _ (List.mem_append_right _ (List.mem_append_right _ (List.mem_append_right _ (List.mem_append_right _ (List.mem_append_right _ (List.mem_append_right _ (List.mem_append_right _ (List.mem_append_right _ (List.mem_append_right _ (List.mem_append_right _ (List.mem_append_right _ (List.mem_append_right _ (List.mem_append_right _ (List.mem_append_right _ (List.mem_append_left _ (h))))))))))))))))))))))))))
theorem wd_18_0 : Cond.instanceMethod yX4_nextWashed ∈ wsL_law := wdm_18 _ (List.mem_of_getElem? (i := 0) rfl)
theorem wd_18_1 : Cond.selects RX4 yX4_nextWashed yX4_nextWashed ∈ wsL_law := wdm_18 _ (List.mem_of_getElem? (i := 1) rfl)
theorem wd_18_2 : Cond.code yX4_nextWashed cX4_nextWashed 5 (some .int) ∈ wsL_law := wdm_18 _ (List.mem_of_getElem? (i := 2) rfl)
theorem wd_18_3 : Cond.methodLink RL 59 yX6_carried ∈ wsL_law := wdm_18 _ (List.mem_of_getElem? (i := 3) rfl)
theorem wd_18_4 : Cond.instanceMethod yX6_carried ∈ wsL_law := wdm_18 _ (List.mem_of_getElem? (i := 4) rfl)
theorem wd_18_5 : Cond.selects RX6 yX6_carried yX6_carried ∈ wsL_law := wdm_18 _ (List.mem_of_getElem? (i := 5) rfl)
theorem wd_18_6 : Cond.code yX6_carried cX6_carried 3 (some .int) ∈ wsL_law := wdm_18 _ (List.mem_of_getElem? (i := 6) rfl)
theorem wd_18_7 : Cond.methodLink RX6 166 yX6_carriedFrom ∈ wsL_law := wdm_18 _ (List.mem_of_getElem? (i := 7) rfl)
theorem wd_18_8 : Cond.instanceMethod yX6_carriedFrom ∈ wsL_law := wdm_18 _ (List.mem_of_getElem? (i := 8) rfl)
theorem wd_18_9 : Cond.selects RX6 yX6_carriedFrom yX6_carriedFrom ∈ wsL_law := wdm_18 _ (List.mem_of_getElem? (i := 9) rfl)
theorem wd_18_10 : Cond.code yX6_carriedFrom cX6_carriedFrom 6 (some .int) ∈ wsL_law := wdm_18 _ (List.mem_of_getElem? (i := 10) rfl)
theorem wd_18_11 : Cond.methodLink RL 60 yX5_tide ∈ wsL_law := wdm_18 _ (List.mem_of_getElem? (i := 11) rfl)
theorem wd_18_12 : Cond.instanceMethod yX5_tide ∈ wsL_law := wdm_18 _ (List.mem_of_getElem? (i := 12) rfl)
theorem wd_18_13 : Cond.selects RX5 yX5_tide yX5_tide ∈ wsL_law := wdm_18 _ (List.mem_of_getElem? (i := 13) rfl)
theorem wd_18_14 : Cond.code yX5_tide cX5_tide 3 (some .int) ∈ wsL_law := wdm_18 _ (List.mem_of_getElem? (i := 14) rfl)
theorem wd_18_15 : Cond.methodLink RX5 147 yX4_carryAll ∈ wsL_law := wdm_18 _ (List.mem_of_getElem? (i := 15) rfl)
theorem wd_18_16 : Cond.instanceMethod yX4_carryAll ∈ wsL_law := wdm_18 _ (List.mem_of_getElem? (i := 16) rfl)
theorem wd_18_17 : Cond.selects RX4 yX4_carryAll yX4_carryAll ∈ wsL_law := wdm_18 _ (List.mem_of_getElem? (i := 17) rfl)
theorem wd_18_18 : Cond.code yX4_carryAll cX4_carryAll 5 (some .int) ∈ wsL_law := wdm_18 _ (List.mem_of_getElem? (i := 18) rfl)
theorem wd_18_19 : Cond.methodLink RX4 107 yX4_seatBehind ∈ wsL_law := wdm_18 _ (List.mem_of_getElem? (i := 19) rfl)
theorem wd_18_20 : Cond.static yX5_oneIf ∈ wsL_law := wdm_18 _ (List.mem_of_getElem? (i := 20) rfl)
theorem wd_18_21 : Cond.code yX5_oneIf cX5_oneIf 1 (some .int) ∈ wsL_law := wdm_18 _ (List.mem_of_getElem? (i := 21) rfl)
theorem wd_18_22 : Cond.methodLink RL 63 yX6_tide ∈ wsL_law := wdm_18 _ (List.mem_of_getElem? (i := 22) rfl)
theorem wd_18_23 : Cond.instanceMethod yX6_tide ∈ wsL_law := wdm_18 _ (List.mem_of_getElem? (i := 23) rfl)
theorem wdm_19 : ∀ w ∈ wsL_law_r19, w ∈ wsL_law := fun _ h => List.mem_append_left _ (List.mem_append_left _ (List.mem_append_left _ (List.mem_append_left _ (List.mem_append_left _ (List.mem_append_left _ (List.mem_append_left _ (List.mem_append_left _ (List.mem_append_right _ (List.mem_append_right _ (List.mem_append_right _ (List.mem_append_right _ (List.mem_append_right _ (List.mem_append_right _ (List.mem_append_right _ (List.mem_append_right _ (List.mem_append_right _ (List.mem_append_right _ (List.mem_append_right _ (List.mem_append_right _ (List.mem_append_right _ (List.mem_append_right _ (List.mem_append_right _ (List.mem_append_right _ (List.mem_append_right _ (List.mem_append_right _ (List.mem_append_left _ (h)))))))))))))))))))))))))))
theorem wd_19_0 : Cond.selects RX6 yX6_tide yX6_tide ∈ wsL_law := wdm_19 _ (List.mem_of_getElem? (i := 0) rfl)
theorem wd_19_1 : Cond.code yX6_tide cX6_tide 2 (some .int) ∈ wsL_law := wdm_19 _ (List.mem_of_getElem? (i := 1) rfl)
theorem wd_19_2 : Cond.methodLink RX6 169 yX6_carryAll ∈ wsL_law := wdm_19 _ (List.mem_of_getElem? (i := 2) rfl)
theorem wd_19_3 : Cond.instanceMethod yX6_carryAll ∈ wsL_law := wdm_19 _ (List.mem_of_getElem? (i := 3) rfl)
theorem wd_19_4 : Cond.selects RX6 yX6_carryAll yX6_carryAll ∈ wsL_law := wdm_19 _ (List.mem_of_getElem? (i := 4) rfl)
theorem wd_19_5 : Cond.code yX6_carryAll cX6_carryAll 5 (some .int) ∈ wsL_law := wdm_19 _ (List.mem_of_getElem? (i := 5) rfl)
theorem wd_19_6 : Cond.methodLink RL 64 yX5_ayes ∈ wsL_law := wdm_19 _ (List.mem_of_getElem? (i := 6) rfl)
theorem wd_19_7 : Cond.instanceMethod yX5_ayes ∈ wsL_law := wdm_19 _ (List.mem_of_getElem? (i := 7) rfl)
theorem wd_19_8 : Cond.selects RX5 yX5_ayes yX5_ayes ∈ wsL_law := wdm_19 _ (List.mem_of_getElem? (i := 8) rfl)
theorem wd_19_9 : Cond.code yX5_ayes cX5_ayes 3 (some .int) ∈ wsL_law := wdm_19 _ (List.mem_of_getElem? (i := 9) rfl)
theorem wd_19_10 : Cond.methodLink RX5 150 yX4_friendsOf ∈ wsL_law := wdm_19 _ (List.mem_of_getElem? (i := 10) rfl)
theorem wd_19_11 : Cond.instanceMethod yX4_friendsOf ∈ wsL_law := wdm_19 _ (List.mem_of_getElem? (i := 11) rfl)
theorem wd_19_12 : Cond.selects RX4 yX4_friendsOf yX4_friendsOf ∈ wsL_law := wdm_19 _ (List.mem_of_getElem? (i := 12) rfl)
theorem wd_19_13 : Cond.code yX4_friendsOf cX4_friendsOf 4 (some .int) ∈ wsL_law := wdm_19 _ (List.mem_of_getElem? (i := 13) rfl)
theorem wd_19_14 : Cond.methodLink RX4 110 Lib.Math.abs.name ∈ wsL_law := wdm_19 _ (List.mem_of_getElem? (i := 14) rfl)
theorem wd_19_15 : Cond.static Lib.Math.abs.name ∈ wsL_law := wdm_19 _ (List.mem_of_getElem? (i := 15) rfl)
theorem wd_19_16 : Cond.initialized "java/lang/Math" ∈ wsL_law := wdm_19 _ (List.mem_of_getElem? (i := 16) rfl)
theorem wd_19_17 : Cond.code Lib.Math.abs.name Lib.Math.abs.code 1 (some .int) ∈ wsL_law := wdm_19 _ (List.mem_of_getElem? (i := 17) rfl)
theorem wd_19_18 : Cond.methodLink RL 67 yX6_ayes ∈ wsL_law := wdm_19 _ (List.mem_of_getElem? (i := 18) rfl)
theorem wd_19_19 : Cond.instanceMethod yX6_ayes ∈ wsL_law := wdm_19 _ (List.mem_of_getElem? (i := 19) rfl)
theorem wd_19_20 : Cond.selects RX6 yX6_ayes yX6_ayes ∈ wsL_law := wdm_19 _ (List.mem_of_getElem? (i := 20) rfl)
theorem wd_19_21 : Cond.code yX6_ayes cX6_ayes 2 (some .int) ∈ wsL_law := wdm_19 _ (List.mem_of_getElem? (i := 21) rfl)
theorem wd_19_22 : Cond.methodLink RX6 179 yX6_ayesOf ∈ wsL_law := wdm_19 _ (List.mem_of_getElem? (i := 22) rfl)
theorem wd_19_23 : Cond.instanceMethod yX6_ayesOf ∈ wsL_law := wdm_19 _ (List.mem_of_getElem? (i := 23) rfl)
theorem wdm_20 : ∀ w ∈ wsL_law_r20, w ∈ wsL_law := fun _ h => List.mem_append_left _ (List.mem_append_left _ (List.mem_append_left _ (List.mem_append_left _ (List.mem_append_left _ (List.mem_append_left _ (List.mem_append_left _ (List.mem_append_left _ (List.mem_append_right _ (List.mem_append_right _ (List.mem_append_right _ (List.mem_append_right _ (List.mem_append_right _ (List.mem_append_right _ (List.mem_append_right _ (List.mem_append_right _ (List.mem_append_right _ (List.mem_append_right _ (List.mem_append_right _ (List.mem_append_right _ (List.mem_append_right _ (List.mem_append_right _ (List.mem_append_right _ (List.mem_append_right _ (List.mem_append_right _ (List.mem_append_right _ (List.mem_append_right _ (List.mem_append_left _ (h))))))))))))))))))))))))))))
theorem wd_20_0 : Cond.selects RX6 yX6_ayesOf yX6_ayesOf ∈ wsL_law := wdm_20 _ (List.mem_of_getElem? (i := 0) rfl)
theorem wd_20_1 : Cond.code yX6_ayesOf cX6_ayesOf 5 (some .int) ∈ wsL_law := wdm_20 _ (List.mem_of_getElem? (i := 1) rfl)
theorem wd_20_2 : Cond.methodLink RL 68 yX5_passes ∈ wsL_law := wdm_20 _ (List.mem_of_getElem? (i := 2) rfl)
theorem wd_20_3 : Cond.instanceMethod yX5_passes ∈ wsL_law := wdm_20 _ (List.mem_of_getElem? (i := 3) rfl)
theorem wd_20_4 : Cond.selects RX5 yX5_passes yX5_passes ∈ wsL_law := wdm_20 _ (List.mem_of_getElem? (i := 4) rfl)
theorem wd_20_5 : Cond.code yX5_passes cX5_passes 3 (some .int) ∈ wsL_law := wdm_20 _ (List.mem_of_getElem? (i := 5) rfl)
theorem wd_20_6 : Cond.methodLink RX5 153 yX4_poolsWon ∈ wsL_law := wdm_20 _ (List.mem_of_getElem? (i := 6) rfl)
theorem wd_20_7 : Cond.instanceMethod yX4_poolsWon ∈ wsL_law := wdm_20 _ (List.mem_of_getElem? (i := 7) rfl)
theorem wd_20_8 : Cond.selects RX4 yX4_poolsWon yX4_poolsWon ∈ wsL_law := wdm_20 _ (List.mem_of_getElem? (i := 8) rfl)
theorem wd_20_9 : Cond.code yX4_poolsWon cX4_poolsWon 5 (some .int) ∈ wsL_law := wdm_20 _ (List.mem_of_getElem? (i := 9) rfl)
theorem wd_20_10 : Cond.methodLink RL 71 yX6_passes ∈ wsL_law := wdm_20 _ (List.mem_of_getElem? (i := 10) rfl)
theorem wd_20_11 : Cond.instanceMethod yX6_passes ∈ wsL_law := wdm_20 _ (List.mem_of_getElem? (i := 11) rfl)
theorem wd_20_12 : Cond.selects RX6 yX6_passes yX6_passes ∈ wsL_law := wdm_20 _ (List.mem_of_getElem? (i := 12) rfl)
theorem wd_20_13 : Cond.code yX6_passes cX6_passes 2 (some .int) ∈ wsL_law := wdm_20 _ (List.mem_of_getElem? (i := 13) rfl)
theorem wd_20_14 : Cond.methodLink RX6 172 yX6_passesBy ∈ wsL_law := wdm_20 _ (List.mem_of_getElem? (i := 14) rfl)
theorem wd_20_15 : Cond.instanceMethod yX6_passesBy ∈ wsL_law := wdm_20 _ (List.mem_of_getElem? (i := 15) rfl)
theorem wd_20_16 : Cond.selects RX6 yX6_passesBy yX6_passesBy ∈ wsL_law := wdm_20 _ (List.mem_of_getElem? (i := 16) rfl)
theorem wd_20_17 : Cond.code yX6_passesBy cX6_passesBy 5 (some .int) ∈ wsL_law := wdm_20 _ (List.mem_of_getElem? (i := 17) rfl)
theorem wd_20_18 : Cond.methodLink RL 72 yX5_law ∈ wsL_law := wdm_20 _ (List.mem_of_getElem? (i := 18) rfl)
theorem wd_20_19 : Cond.instanceMethod yX5_law ∈ wsL_law := wdm_20 _ (List.mem_of_getElem? (i := 19) rfl)
theorem wd_20_20 : Cond.selects RX5 yX5_law yX5_law ∈ wsL_law := wdm_20 _ (List.mem_of_getElem? (i := 20) rfl)
theorem wd_20_21 : Cond.code yX5_law cX5_law 3 (some .int) ∈ wsL_law := wdm_20 _ (List.mem_of_getElem? (i := 21) rfl)
theorem wd_20_22 : Cond.methodLink RX5 156 yX4_isLawBy ∈ wsL_law := wdm_20 _ (List.mem_of_getElem? (i := 22) rfl)
theorem wd_20_23 : Cond.instanceMethod yX4_isLawBy ∈ wsL_law := wdm_20 _ (List.mem_of_getElem? (i := 23) rfl)
theorem wdm_21 : ∀ w ∈ wsL_law_r21, w ∈ wsL_law := fun _ h => List.mem_append_left _ (List.mem_append_left _ (List.mem_append_left _ (List.mem_append_left _ (List.mem_append_left _ (List.mem_append_left _ (List.mem_append_left _ (List.mem_append_left _ (List.mem_append_right _ (List.mem_append_right _ (List.mem_append_right _ (List.mem_append_right _ (List.mem_append_right _ (List.mem_append_right _ (List.mem_append_right _ (List.mem_append_right _ (List.mem_append_right _ (List.mem_append_right _ (List.mem_append_right _ (List.mem_append_right _ (List.mem_append_right _ (List.mem_append_right _ (List.mem_append_right _ (List.mem_append_right _ (List.mem_append_right _ (List.mem_append_right _ (List.mem_append_right _ (List.mem_append_right _ (List.mem_append_left _ (h)))))))))))))))))))))))))))))
theorem wd_21_0 : Cond.selects RX4 yX4_isLawBy yX4_isLawBy ∈ wsL_law := wdm_21 _ (List.mem_of_getElem? (i := 0) rfl)
theorem wd_21_1 : Cond.code yX4_isLawBy cX4_isLawBy 2 (some .boolean) ∈ wsL_law := wdm_21 _ (List.mem_of_getElem? (i := 1) rfl)
theorem wd_21_2 : Cond.methodLink RX4 115 yX4_poolsWon ∈ wsL_law := wdm_21 _ (List.mem_of_getElem? (i := 2) rfl)
theorem wd_21_3 : Cond.methodLink RX4 118 yX4_poolsSatIn ∈ wsL_law := wdm_21 _ (List.mem_of_getElem? (i := 3) rfl)
theorem wd_21_4 : Cond.instanceMethod yX4_poolsSatIn ∈ wsL_law := wdm_21 _ (List.mem_of_getElem? (i := 4) rfl)
theorem wd_21_5 : Cond.selects RX4 yX4_poolsSatIn yX4_poolsSatIn ∈ wsL_law := wdm_21 _ (List.mem_of_getElem? (i := 5) rfl)
theorem wd_21_6 : Cond.code yX4_poolsSatIn cX4_poolsSatIn 3 (some .int) ∈ wsL_law := wdm_21 _ (List.mem_of_getElem? (i := 6) rfl)
theorem wd_21_7 : Cond.methodLink RX5 159 yX5_oneIf ∈ wsL_law := wdm_21 _ (List.mem_of_getElem? (i := 7) rfl)
theorem wd_21_8 : Cond.methodLink RL 75 yX6_law ∈ wsL_law := wdm_21 _ (List.mem_of_getElem? (i := 8) rfl)
theorem wd_21_9 : Cond.instanceMethod yX6_law ∈ wsL_law := wdm_21 _ (List.mem_of_getElem? (i := 9) rfl)
theorem wd_21_10 : Cond.selects RX6 yX6_law yX6_law ∈ wsL_law := wdm_21 _ (List.mem_of_getElem? (i := 10) rfl)
theorem wd_21_11 : Cond.code yX6_law cX6_law 2 (some .int) ∈ wsL_law := wdm_21 _ (List.mem_of_getElem? (i := 11) rfl)
theorem wd_21_12 : Cond.methodLink RX6 182 yX6_isLawBy ∈ wsL_law := wdm_21 _ (List.mem_of_getElem? (i := 12) rfl)
theorem wd_21_13 : Cond.instanceMethod yX6_isLawBy ∈ wsL_law := wdm_21 _ (List.mem_of_getElem? (i := 13) rfl)
theorem wd_21_14 : Cond.selects RX6 yX6_isLawBy yX6_isLawBy ∈ wsL_law := wdm_21 _ (List.mem_of_getElem? (i := 14) rfl)
theorem wd_21_15 : Cond.code yX6_isLawBy cX6_isLawBy 2 (some .boolean) ∈ wsL_law := wdm_21 _ (List.mem_of_getElem? (i := 15) rfl)
theorem wd_21_16 : Cond.methodLink RX6 175 yX6_occupied ∈ wsL_law := wdm_21 _ (List.mem_of_getElem? (i := 16) rfl)
theorem wd_21_17 : Cond.instanceMethod yX6_occupied ∈ wsL_law := wdm_21 _ (List.mem_of_getElem? (i := 17) rfl)
theorem wd_21_18 : Cond.selects RX6 yX6_occupied yX6_occupied ∈ wsL_law := wdm_21 _ (List.mem_of_getElem? (i := 18) rfl)
theorem wd_21_19 : Cond.code yX6_occupied cX6_occupied 3 (some .int) ∈ wsL_law := wdm_21 _ (List.mem_of_getElem? (i := 19) rfl)
theorem wd_21_20 : Cond.methodLink RL 76 yX5_year ∈ wsL_law := wdm_21 _ (List.mem_of_getElem? (i := 20) rfl)
theorem wd_21_21 : Cond.instanceMethod yX5_year ∈ wsL_law := wdm_21 _ (List.mem_of_getElem? (i := 21) rfl)
theorem wd_21_22 : Cond.selects RX5 yX5_year yX5_year ∈ wsL_law := wdm_21 _ (List.mem_of_getElem? (i := 22) rfl)
theorem wd_21_23 : Cond.code yX5_year cX5_year 7 (some .int) ∈ wsL_law := wdm_21 _ (List.mem_of_getElem? (i := 23) rfl)
theorem wdm_22 : ∀ w ∈ wsL_law_r22, w ∈ wsL_law := fun _ h => List.mem_append_left _ (List.mem_append_left _ (List.mem_append_left _ (List.mem_append_left _ (List.mem_append_left _ (List.mem_append_left _ (List.mem_append_left _ (List.mem_append_left _ (List.mem_append_right _ (List.mem_append_right _ (List.mem_append_right _ (List.mem_append_right _ (List.mem_append_right _ (List.mem_append_right _ (List.mem_append_right _ (List.mem_append_right _ (List.mem_append_right _ (List.mem_append_right _ (List.mem_append_right _ (List.mem_append_right _ (List.mem_append_right _ (List.mem_append_right _ (List.mem_append_right _ (List.mem_append_right _ (List.mem_append_right _ (List.mem_append_right _ (List.mem_append_right _ (List.mem_append_right _ (List.mem_append_right _ (List.mem_append_left _ (h))))))))))))))))))))))))))))))
theorem wd_22_0 : Cond.methodLink RX5 162 yX5_isToldOfYears ∈ wsL_law := wdm_22 _ (List.mem_of_getElem? (i := 0) rfl)
theorem wd_22_1 : Cond.static yX5_isToldOfYears ∈ wsL_law := wdm_22 _ (List.mem_of_getElem? (i := 1) rfl)
theorem wd_22_2 : Cond.code yX5_isToldOfYears cX5_isToldOfYears 1 (some .boolean) ∈ wsL_law := wdm_22 _ (List.mem_of_getElem? (i := 2) rfl)
theorem wd_22_3 : Cond.methodLink RX5 165 yX5_refusalOfRow ∈ wsL_law := wdm_22 _ (List.mem_of_getElem? (i := 3) rfl)
theorem wd_22_4 : Cond.instanceMethod yX5_refusalOfRow ∈ wsL_law := wdm_22 _ (List.mem_of_getElem? (i := 4) rfl)
theorem wd_22_5 : Cond.selects RX5 yX5_refusalOfRow yX5_refusalOfRow ∈ wsL_law := wdm_22 _ (List.mem_of_getElem? (i := 5) rfl)
theorem wd_22_6 : Cond.code yX5_refusalOfRow cX5_refusalOfRow 7 (some .int) ∈ wsL_law := wdm_22 _ (List.mem_of_getElem? (i := 6) rfl)
theorem wd_22_7 : Cond.methodLink RX5 169 yX3_areWithin ∈ wsL_law := wdm_22 _ (List.mem_of_getElem? (i := 7) rfl)
theorem wd_22_8 : Cond.instanceMethod yX3_areWithin ∈ wsL_law := wdm_22 _ (List.mem_of_getElem? (i := 8) rfl)
theorem wd_22_9 : Cond.selects RX3 yX3_areWithin yX3_areWithin ∈ wsL_law := wdm_22 _ (List.mem_of_getElem? (i := 9) rfl)
theorem wd_22_10 : Cond.code yX3_areWithin cX3_areWithin 5 (some .boolean) ∈ wsL_law := wdm_22 _ (List.mem_of_getElem? (i := 10) rfl)
theorem wd_22_11 : Cond.methodLink RX5 172 yX5_yearTold ∈ wsL_law := wdm_22 _ (List.mem_of_getElem? (i := 11) rfl)
theorem wd_22_12 : Cond.instanceMethod yX5_yearTold ∈ wsL_law := wdm_22 _ (List.mem_of_getElem? (i := 12) rfl)
theorem wd_22_13 : Cond.selects RX5 yX5_yearTold yX5_yearTold ∈ wsL_law := wdm_22 _ (List.mem_of_getElem? (i := 13) rfl)
theorem wd_22_14 : Cond.code yX5_yearTold cX5_yearTold 8 (some .int) ∈ wsL_law := wdm_22 _ (List.mem_of_getElem? (i := 14) rfl)
theorem wd_22_15 : Cond.fieldLink RX5 183 "TideSeats$Sheet" "cells" "[I" ∈ wsL_law := wdm_22 _ (List.mem_of_getElem? (i := 15) rfl)
theorem wd_22_16 : Cond.methodLink RX5 175 yX5_firstWrong ∈ wsL_law := wdm_22 _ (List.mem_of_getElem? (i := 16) rfl)
theorem wd_22_17 : Cond.instanceMethod yX5_firstWrong ∈ wsL_law := wdm_22 _ (List.mem_of_getElem? (i := 17) rfl)
theorem wd_22_18 : Cond.selects RX5 yX5_firstWrong yX5_firstWrong ∈ wsL_law := wdm_22 _ (List.mem_of_getElem? (i := 18) rfl)
theorem wd_22_19 : Cond.code yX5_firstWrong cX5_firstWrong 5 (some .int) ∈ wsL_law := wdm_22 _ (List.mem_of_getElem? (i := 19) rfl)
theorem wd_22_20 : Cond.methodLink RX5 179 yX4_become ∈ wsL_law := wdm_22 _ (List.mem_of_getElem? (i := 20) rfl)
theorem wd_22_21 : Cond.instanceMethod yX4_become ∈ wsL_law := wdm_22 _ (List.mem_of_getElem? (i := 21) rfl)
theorem wd_22_22 : Cond.selects RX4 yX4_become yX4_become ∈ wsL_law := wdm_22 _ (List.mem_of_getElem? (i := 22) rfl)
theorem wd_22_23 : Cond.code yX4_become cX4_become 3 none ∈ wsL_law := wdm_22 _ (List.mem_of_getElem? (i := 23) rfl)
theorem wdm_23 : ∀ w ∈ wsL_law_r23, w ∈ wsL_law := fun _ h => List.mem_append_left _ (List.mem_append_left _ (List.mem_append_left _ (List.mem_append_left _ (List.mem_append_left _ (List.mem_append_left _ (List.mem_append_left _ (List.mem_append_left _ (List.mem_append_right _ (List.mem_append_right _ (List.mem_append_right _ (List.mem_append_right _ (List.mem_append_right _ (List.mem_append_right _ (List.mem_append_right _ (List.mem_append_right _ (List.mem_append_right _ (List.mem_append_right _ (List.mem_append_right _ (List.mem_append_right _ (List.mem_append_right _ (List.mem_append_right _ (List.mem_append_right _ (List.mem_append_right _ (List.mem_append_right _ (List.mem_append_right _ (List.mem_append_right _ (List.mem_append_right _ (List.mem_append_right _ (List.mem_append_right _ (List.mem_append_left _ (h)))))))))))))))))))))))))))))))
theorem wd_23_0 : Cond.methodLink RX5 186 yX5_endOfYear ∈ wsL_law := wdm_23 _ (List.mem_of_getElem? (i := 0) rfl)
theorem wd_23_1 : Cond.instanceMethod yX5_endOfYear ∈ wsL_law := wdm_23 _ (List.mem_of_getElem? (i := 1) rfl)
theorem wd_23_2 : Cond.selects RX5 yX5_endOfYear yX5_endOfYear ∈ wsL_law := wdm_23 _ (List.mem_of_getElem? (i := 2) rfl)
theorem wd_23_3 : Cond.code yX5_endOfYear cX5_endOfYear 3 (some .int) ∈ wsL_law := wdm_23 _ (List.mem_of_getElem? (i := 3) rfl)
theorem wd_23_4 : Cond.methodLink RX5 189 yX4_poolsSatIn ∈ wsL_law := wdm_23 _ (List.mem_of_getElem? (i := 4) rfl)
theorem wd_23_5 : Cond.methodLink RX5 192 yX4_fullestPool ∈ wsL_law := wdm_23 _ (List.mem_of_getElem? (i := 5) rfl)
theorem wd_23_6 : Cond.instanceMethod yX4_fullestPool ∈ wsL_law := wdm_23 _ (List.mem_of_getElem? (i := 6) rfl)
theorem wd_23_7 : Cond.selects RX4 yX4_fullestPool yX4_fullestPool ∈ wsL_law := wdm_23 _ (List.mem_of_getElem? (i := 7) rfl)
theorem wd_23_8 : Cond.code yX4_fullestPool cX4_fullestPool 3 (some .int) ∈ wsL_law := wdm_23 _ (List.mem_of_getElem? (i := 8) rfl)
theorem wd_23_9 : Cond.methodLink RL 80 yX6_year ∈ wsL_law := wdm_23 _ (List.mem_of_getElem? (i := 9) rfl)
theorem wd_23_10 : Cond.instanceMethod yX6_year ∈ wsL_law := wdm_23 _ (List.mem_of_getElem? (i := 10) rfl)
theorem wd_23_11 : Cond.selects RX6 yX6_year yX6_year ∈ wsL_law := wdm_23 _ (List.mem_of_getElem? (i := 11) rfl)
theorem wd_23_12 : Cond.code yX6_year cX6_year 11 (some .int) ∈ wsL_law := wdm_23 _ (List.mem_of_getElem? (i := 12) rfl)
theorem wd_23_13 : Cond.methodLink RX6 188 yX6_goYear ∈ wsL_law := wdm_23 _ (List.mem_of_getElem? (i := 13) rfl)
theorem wd_23_14 : Cond.instanceMethod yX6_goYear ∈ wsL_law := wdm_23 _ (List.mem_of_getElem? (i := 14) rfl)
theorem wd_23_15 : Cond.selects RX6 yX6_goYear yX6_goYear ∈ wsL_law := wdm_23 _ (List.mem_of_getElem? (i := 15) rfl)
theorem wd_23_16 : Cond.code yX6_goYear cX6_goYear 4 (some .int) ∈ wsL_law := wdm_23 _ (List.mem_of_getElem? (i := 16) rfl)
theorem wd_23_17 : Cond.fieldLink RX6 185 "TideSeatsModel" "moved" "I" ∈ wsL_law := wdm_23 _ (List.mem_of_getElem? (i := 17) rfl)
theorem wd_23_18 : Cond.methodLink RX6 192 yX6_tellYear ∈ wsL_law := wdm_23 _ (List.mem_of_getElem? (i := 18) rfl)
theorem wd_23_19 : Cond.instanceMethod yX6_tellYear ∈ wsL_law := wdm_23 _ (List.mem_of_getElem? (i := 19) rfl)
theorem wd_23_20 : Cond.selects RX6 yX6_tellYear yX6_tellYear ∈ wsL_law := wdm_23 _ (List.mem_of_getElem? (i := 20) rfl)
theorem wd_23_21 : Cond.code yX6_tellYear cX6_tellYear 4 (some .int) ∈ wsL_law := wdm_23 _ (List.mem_of_getElem? (i := 21) rfl)
theorem wd_23_22 : Cond.methodLink RL 81 yX5_best ∈ wsL_law := wdm_23 _ (List.mem_of_getElem? (i := 22) rfl)
theorem wd_23_23 : Cond.instanceMethod yX5_best ∈ wsL_law := wdm_23 _ (List.mem_of_getElem? (i := 23) rfl)
theorem wdm_24 : ∀ w ∈ wsL_law_r24, w ∈ wsL_law := fun _ h => List.mem_append_left _ (List.mem_append_left _ (List.mem_append_left _ (List.mem_append_left _ (List.mem_append_left _ (List.mem_append_left _ (List.mem_append_left _ (List.mem_append_left _ (List.mem_append_right _ (List.mem_append_right _ (List.mem_append_right _ (List.mem_append_right _ (List.mem_append_right _ (List.mem_append_right _ (List.mem_append_right _ (List.mem_append_right _ (List.mem_append_right _ (List.mem_append_right _ (List.mem_append_right _ (List.mem_append_right _ (List.mem_append_right _ (List.mem_append_right _ (List.mem_append_right _ (List.mem_append_right _ (List.mem_append_right _ (List.mem_append_right _ (List.mem_append_right _ (List.mem_append_right _ (List.mem_append_right _ (List.mem_append_right _ (List.mem_append_right _ (List.mem_append_left _ (h))))))))))))))))))))))))))))))))
theorem wd_24_0 : Cond.selects RX5 yX5_best yX5_best ∈ wsL_law := wdm_24 _ (List.mem_of_getElem? (i := 0) rfl)
theorem wd_24_1 : Cond.code yX5_best cX5_best 7 (some .int) ∈ wsL_law := wdm_24 _ (List.mem_of_getElem? (i := 1) rfl)
theorem wd_24_2 : Cond.methodLink RX5 195 yJ6_bitCount_0f7a4 ∈ wsL_law := wdm_24 _ (List.mem_of_getElem? (i := 2) rfl)
theorem wd_24_3 : Cond.methodLink RL 84 yX6_best ∈ wsL_law := wdm_24 _ (List.mem_of_getElem? (i := 3) rfl)
theorem wd_24_4 : Cond.instanceMethod yX6_best ∈ wsL_law := wdm_24 _ (List.mem_of_getElem? (i := 4) rfl)
theorem wd_24_5 : Cond.selects RX6 yX6_best yX6_best ∈ wsL_law := wdm_24 _ (List.mem_of_getElem? (i := 5) rfl)
theorem wd_24_6 : Cond.code yX6_best cX6_best 6 (some .int) ∈ wsL_law := wdm_24 _ (List.mem_of_getElem? (i := 6) rfl)
theorem wd_24_7 : Cond.methodLink RL 85 yX5_turn ∈ wsL_law := wdm_24 _ (List.mem_of_getElem? (i := 7) rfl)
theorem wd_24_8 : Cond.instanceMethod yX5_turn ∈ wsL_law := wdm_24 _ (List.mem_of_getElem? (i := 8) rfl)
theorem wd_24_9 : Cond.selects RX5 yX5_turn yX5_turn ∈ wsL_law := wdm_24 _ (List.mem_of_getElem? (i := 9) rfl)
theorem wd_24_10 : Cond.code yX5_turn cX5_turn 3 (some .int) ∈ wsL_law := wdm_24 _ (List.mem_of_getElem? (i := 10) rfl)
theorem wd_24_11 : Cond.methodLink RX5 200 yX5_fewestToTurn ∈ wsL_law := wdm_24 _ (List.mem_of_getElem? (i := 11) rfl)
theorem wd_24_12 : Cond.instanceMethod yX5_fewestToTurn ∈ wsL_law := wdm_24 _ (List.mem_of_getElem? (i := 12) rfl)
theorem wd_24_13 : Cond.selects RX5 yX5_fewestToTurn yX5_fewestToTurn ∈ wsL_law := wdm_24 _ (List.mem_of_getElem? (i := 13) rfl)
theorem wd_24_14 : Cond.code yX5_fewestToTurn cX5_fewestToTurn 4 (some .int) ∈ wsL_law := wdm_24 _ (List.mem_of_getElem? (i := 14) rfl)
theorem wd_24_15 : Cond.methodLink RL 88 yX6_turn ∈ wsL_law := wdm_24 _ (List.mem_of_getElem? (i := 15) rfl)
theorem wd_24_16 : Cond.instanceMethod yX6_turn ∈ wsL_law := wdm_24 _ (List.mem_of_getElem? (i := 16) rfl)
theorem wd_24_17 : Cond.selects RX6 yX6_turn yX6_turn ∈ wsL_law := wdm_24 _ (List.mem_of_getElem? (i := 17) rfl)
theorem wd_24_18 : Cond.code yX6_turn cX6_turn 5 (some .int) ∈ wsL_law := wdm_24 _ (List.mem_of_getElem? (i := 18) rfl)
theorem wd_24_19 : Cond.methodLink RL 89 yX5_drift ∈ wsL_law := wdm_24 _ (List.mem_of_getElem? (i := 19) rfl)
theorem wd_24_20 : Cond.instanceMethod yX5_drift ∈ wsL_law := wdm_24 _ (List.mem_of_getElem? (i := 20) rfl)
theorem wd_24_21 : Cond.selects RX5 yX5_drift yX5_drift ∈ wsL_law := wdm_24 _ (List.mem_of_getElem? (i := 21) rfl)
theorem wd_24_22 : Cond.code yX5_drift cX5_drift 8 (some .int) ∈ wsL_law := wdm_24 _ (List.mem_of_getElem? (i := 22) rfl)
theorem wd_24_23 : Cond.methodLink RX5 206 yX5_driftOf ∈ wsL_law := wdm_24 _ (List.mem_of_getElem? (i := 23) rfl)
theorem wdm_25 : ∀ w ∈ wsL_law_r25, w ∈ wsL_law := fun _ h => List.mem_append_left _ (List.mem_append_left _ (List.mem_append_left _ (List.mem_append_left _ (List.mem_append_left _ (List.mem_append_left _ (List.mem_append_left _ (List.mem_append_left _ (List.mem_append_right _ (List.mem_append_right _ (List.mem_append_right _ (List.mem_append_right _ (List.mem_append_right _ (List.mem_append_right _ (List.mem_append_right _ (List.mem_append_right _ (List.mem_append_right _ (List.mem_append_right _ (List.mem_append_right _ (List.mem_append_right _ (List.mem_append_right _ (List.mem_append_right _ (List.mem_append_right _ (List.mem_append_right _ (List.mem_append_right _ (List.mem_append_right _ (List.mem_append_right _ (List.mem_append_right _ (List.mem_append_right _ (List.mem_append_right _ (List.mem_append_right _ (List.mem_append_right _ (List.mem_append_left _ (h)))))))))))))))))))))))))))))))))
theorem wd_25_0 : Cond.instanceMethod yX5_driftOf ∈ wsL_law := wdm_25 _ (List.mem_of_getElem? (i := 0) rfl)
theorem wd_25_1 : Cond.selects RX5 yX5_driftOf yX5_driftOf ∈ wsL_law := wdm_25 _ (List.mem_of_getElem? (i := 1) rfl)
theorem wd_25_2 : Cond.code yX5_driftOf cX5_driftOf 7 (some .int) ∈ wsL_law := wdm_25 _ (List.mem_of_getElem? (i := 2) rfl)
theorem wd_25_3 : Cond.methodLink RX5 213 yX4_driftIn ∈ wsL_law := wdm_25 _ (List.mem_of_getElem? (i := 3) rfl)
theorem wd_25_4 : Cond.instanceMethod yX4_driftIn ∈ wsL_law := wdm_25 _ (List.mem_of_getElem? (i := 4) rfl)
theorem wd_25_5 : Cond.selects RX4 yX4_driftIn yX4_driftIn ∈ wsL_law := wdm_25 _ (List.mem_of_getElem? (i := 5) rfl)
theorem wd_25_6 : Cond.code yX4_driftIn cX4_driftIn 5 (some .int) ∈ wsL_law := wdm_25 _ (List.mem_of_getElem? (i := 6) rfl)
theorem wd_25_7 : Cond.methodLink RX5 210 yX5_originsOf ∈ wsL_law := wdm_25 _ (List.mem_of_getElem? (i := 7) rfl)
theorem wd_25_8 : Cond.instanceMethod yX5_originsOf ∈ wsL_law := wdm_25 _ (List.mem_of_getElem? (i := 8) rfl)
theorem wd_25_9 : Cond.selects RX5 yX5_originsOf yX5_originsOf ∈ wsL_law := wdm_25 _ (List.mem_of_getElem? (i := 9) rfl)
theorem wd_25_10 : Cond.code yX5_originsOf cX5_originsOf 7 (some .int) ∈ wsL_law := wdm_25 _ (List.mem_of_getElem? (i := 10) rfl)
theorem wd_25_11 : Cond.methodLink RL 93 yX6_drift ∈ wsL_law := wdm_25 _ (List.mem_of_getElem? (i := 11) rfl)
theorem wd_25_12 : Cond.instanceMethod yX6_drift ∈ wsL_law := wdm_25 _ (List.mem_of_getElem? (i := 12) rfl)
theorem wd_25_13 : Cond.selects RX6 yX6_drift yX6_drift ∈ wsL_law := wdm_25 _ (List.mem_of_getElem? (i := 13) rfl)
theorem wd_25_14 : Cond.code yX6_drift cX6_drift 11 (some .int) ∈ wsL_law := wdm_25 _ (List.mem_of_getElem? (i := 14) rfl)
theorem wd_25_15 : Cond.methodLink RX6 195 yX6_driftOf ∈ wsL_law := wdm_25 _ (List.mem_of_getElem? (i := 15) rfl)
theorem wd_25_16 : Cond.instanceMethod yX6_driftOf ∈ wsL_law := wdm_25 _ (List.mem_of_getElem? (i := 16) rfl)
theorem wd_25_17 : Cond.selects RX6 yX6_driftOf yX6_driftOf ∈ wsL_law := wdm_25 _ (List.mem_of_getElem? (i := 17) rfl)
theorem wd_25_18 : Cond.code yX6_driftOf cX6_driftOf 9 (some .int) ∈ wsL_law := wdm_25 _ (List.mem_of_getElem? (i := 18) rfl)
theorem wd_25_19 : Cond.methodLink RL 94 yX5_leaps ∈ wsL_law := wdm_25 _ (List.mem_of_getElem? (i := 19) rfl)
theorem wd_25_20 : Cond.instanceMethod yX5_leaps ∈ wsL_law := wdm_25 _ (List.mem_of_getElem? (i := 20) rfl)
theorem wd_25_21 : Cond.selects RX5 yX5_leaps yX5_leaps ∈ wsL_law := wdm_25 _ (List.mem_of_getElem? (i := 21) rfl)
theorem wd_25_22 : Cond.code yX5_leaps cX5_leaps 4 (some .int) ∈ wsL_law := wdm_25 _ (List.mem_of_getElem? (i := 22) rfl)
theorem wd_25_23 : Cond.fieldLink RX5 223 "TideSeats$Route" "length" "I" ∈ wsL_law := wdm_25 _ (List.mem_of_getElem? (i := 23) rfl)
theorem wdm_26 : ∀ w ∈ wsL_law_r26, w ∈ wsL_law := fun _ h => List.mem_append_left _ (List.mem_append_left _ (List.mem_append_left _ (List.mem_append_left _ (List.mem_append_left _ (List.mem_append_left _ (List.mem_append_left _ (List.mem_append_left _ (List.mem_append_right _ (List.mem_append_right _ (List.mem_append_right _ (List.mem_append_right _ (List.mem_append_right _ (List.mem_append_right _ (List.mem_append_right _ (List.mem_append_right _ (List.mem_append_right _ (List.mem_append_right _ (List.mem_append_right _ (List.mem_append_right _ (List.mem_append_right _ (List.mem_append_right _ (List.mem_append_right _ (List.mem_append_right _ (List.mem_append_right _ (List.mem_append_right _ (List.mem_append_right _ (List.mem_append_right _ (List.mem_append_right _ (List.mem_append_right _ (List.mem_append_right _ (List.mem_append_right _ (List.mem_append_right _ (List.mem_append_left _ (h))))))))))))))))))))))))))))))))))
theorem wd_26_0 : Cond.methodLink RX5 216 yX5_layLeaps ∈ wsL_law := wdm_26 _ (List.mem_of_getElem? (i := 0) rfl)
theorem wd_26_1 : Cond.instanceMethod yX5_layLeaps ∈ wsL_law := wdm_26 _ (List.mem_of_getElem? (i := 1) rfl)
theorem wd_26_2 : Cond.selects RX5 yX5_layLeaps yX5_layLeaps ∈ wsL_law := wdm_26 _ (List.mem_of_getElem? (i := 2) rfl)
theorem wd_26_3 : Cond.code yX5_layLeaps cX5_layLeaps 3 none ∈ wsL_law := wdm_26 _ (List.mem_of_getElem? (i := 3) rfl)
theorem wd_26_4 : Cond.methodLink RX5 229 yX2_begin ∈ wsL_law := wdm_26 _ (List.mem_of_getElem? (i := 4) rfl)
theorem wd_26_5 : Cond.instanceMethod yX2_begin ∈ wsL_law := wdm_26 _ (List.mem_of_getElem? (i := 5) rfl)
theorem wd_26_6 : Cond.selects RX2 yX2_begin yX2_begin ∈ wsL_law := wdm_26 _ (List.mem_of_getElem? (i := 6) rfl)
theorem wd_26_7 : Cond.code yX2_begin cX2_begin 3 none ∈ wsL_law := wdm_26 _ (List.mem_of_getElem? (i := 7) rfl)
theorem wd_26_8 : Cond.fieldLink RX2 23 "TideSeats$Route" "pools" "I" ∈ wsL_law := wdm_26 _ (List.mem_of_getElem? (i := 8) rfl)
theorem wd_26_9 : Cond.fieldLink RX2 27 "TideSeats$Route" "moves" "I" ∈ wsL_law := wdm_26 _ (List.mem_of_getElem? (i := 9) rfl)
theorem wd_26_10 : Cond.methodLink RX5 231 yX4_isInReach ∈ wsL_law := wdm_26 _ (List.mem_of_getElem? (i := 10) rfl)
theorem wd_26_11 : Cond.instanceMethod yX4_isInReach ∈ wsL_law := wdm_26 _ (List.mem_of_getElem? (i := 11) rfl)
theorem wd_26_12 : Cond.selects RX4 yX4_isInReach yX4_isInReach ∈ wsL_law := wdm_26 _ (List.mem_of_getElem? (i := 12) rfl)
theorem wd_26_13 : Cond.code yX4_isInReach cX4_isInReach 3 (some .boolean) ∈ wsL_law := wdm_26 _ (List.mem_of_getElem? (i := 13) rfl)
theorem wd_26_14 : Cond.methodLink RX5 235 yX2_lay ∈ wsL_law := wdm_26 _ (List.mem_of_getElem? (i := 14) rfl)
theorem wd_26_15 : Cond.instanceMethod yX2_lay ∈ wsL_law := wdm_26 _ (List.mem_of_getElem? (i := 15) rfl)
theorem wd_26_16 : Cond.selects RX2 yX2_lay yX2_lay ∈ wsL_law := wdm_26 _ (List.mem_of_getElem? (i := 16) rfl)
theorem wd_26_17 : Cond.code yX2_lay cX2_lay 4 none ∈ wsL_law := wdm_26 _ (List.mem_of_getElem? (i := 17) rfl)
theorem wd_26_18 : Cond.methodLink RX5 219 yX2_find ∈ wsL_law := wdm_26 _ (List.mem_of_getElem? (i := 18) rfl)
theorem wd_26_19 : Cond.instanceMethod yX2_find ∈ wsL_law := wdm_26 _ (List.mem_of_getElem? (i := 19) rfl)
theorem wd_26_20 : Cond.selects RX2 yX2_find yX2_find ∈ wsL_law := wdm_26 _ (List.mem_of_getElem? (i := 20) rfl)
theorem wd_26_21 : Cond.code yX2_find cX2_find 6 none ∈ wsL_law := wdm_26 _ (List.mem_of_getElem? (i := 21) rfl)
theorem wd_26_22 : Cond.fieldLink RX2 34 "TideSeats$Route" "length" "I" ∈ wsL_law := wdm_26 _ (List.mem_of_getElem? (i := 22) rfl)
theorem wd_26_23 : Cond.methodLink RX2 30 yX2_measure ∈ wsL_law := wdm_26 _ (List.mem_of_getElem? (i := 23) rfl)
theorem wdm_27 : ∀ w ∈ wsL_law_r27, w ∈ wsL_law := fun _ h => List.mem_append_left _ (List.mem_append_left _ (List.mem_append_left _ (List.mem_append_left _ (List.mem_append_left _ (List.mem_append_left _ (List.mem_append_left _ (List.mem_append_left _ (List.mem_append_right _ (List.mem_append_right _ (List.mem_append_right _ (List.mem_append_right _ (List.mem_append_right _ (List.mem_append_right _ (List.mem_append_right _ (List.mem_append_right _ (List.mem_append_right _ (List.mem_append_right _ (List.mem_append_right _ (List.mem_append_right _ (List.mem_append_right _ (List.mem_append_right _ (List.mem_append_right _ (List.mem_append_right _ (List.mem_append_right _ (List.mem_append_right _ (List.mem_append_right _ (List.mem_append_right _ (List.mem_append_right _ (List.mem_append_right _ (List.mem_append_right _ (List.mem_append_right _ (List.mem_append_right _ (List.mem_append_right _ (List.mem_append_left _ (h)))))))))))))))))))))))))))))))))))
theorem wd_27_0 : Cond.instanceMethod yX2_measure ∈ wsL_law := wdm_27 _ (List.mem_of_getElem? (i := 0) rfl)
theorem wd_27_1 : Cond.selects RX2 yX2_measure yX2_measure ∈ wsL_law := wdm_27 _ (List.mem_of_getElem? (i := 1) rfl)
theorem wd_27_2 : Cond.code yX2_measure cX2_measure 4 none ∈ wsL_law := wdm_27 _ (List.mem_of_getElem? (i := 2) rfl)
theorem wd_27_3 : Cond.methodLink RX2 37 yX2_moveTo ∈ wsL_law := wdm_27 _ (List.mem_of_getElem? (i := 3) rfl)
theorem wd_27_4 : Cond.instanceMethod yX2_moveTo ∈ wsL_law := wdm_27 _ (List.mem_of_getElem? (i := 4) rfl)
theorem wd_27_5 : Cond.selects RX2 yX2_moveTo yX2_moveTo ∈ wsL_law := wdm_27 _ (List.mem_of_getElem? (i := 5) rfl)
theorem wd_27_6 : Cond.code yX2_moveTo cX2_moveTo 4 (some .int) ∈ wsL_law := wdm_27 _ (List.mem_of_getElem? (i := 6) rfl)
theorem wd_27_7 : Cond.methodLink RX5 226 yX2_moveAt ∈ wsL_law := wdm_27 _ (List.mem_of_getElem? (i := 7) rfl)
theorem wd_27_8 : Cond.instanceMethod yX2_moveAt ∈ wsL_law := wdm_27 _ (List.mem_of_getElem? (i := 8) rfl)
theorem wd_27_9 : Cond.selects RX2 yX2_moveAt yX2_moveAt ∈ wsL_law := wdm_27 _ (List.mem_of_getElem? (i := 9) rfl)
theorem wd_27_10 : Cond.code yX2_moveAt cX2_moveAt 2 (some .int) ∈ wsL_law := wdm_27 _ (List.mem_of_getElem? (i := 10) rfl)
theorem wd_27_11 : Cond.methodLink RL 98 yX6_leaps ∈ wsL_law := wdm_27 _ (List.mem_of_getElem? (i := 11) rfl)
theorem wd_27_12 : Cond.instanceMethod yX6_leaps ∈ wsL_law := wdm_27 _ (List.mem_of_getElem? (i := 12) rfl)
theorem wd_27_13 : Cond.selects RX6 yX6_leaps yX6_leaps ∈ wsL_law := wdm_27 _ (List.mem_of_getElem? (i := 13) rfl)
theorem wd_27_14 : Cond.code yX6_leaps cX6_leaps 6 (some .int) ∈ wsL_law := wdm_27 _ (List.mem_of_getElem? (i := 14) rfl)
theorem wd_27_15 : Cond.methodLink RX6 201 yX6_findLeaps ∈ wsL_law := wdm_27 _ (List.mem_of_getElem? (i := 15) rfl)
theorem wd_27_16 : Cond.instanceMethod yX6_findLeaps ∈ wsL_law := wdm_27 _ (List.mem_of_getElem? (i := 16) rfl)
theorem wd_27_17 : Cond.selects RX6 yX6_findLeaps yX6_findLeaps ∈ wsL_law := wdm_27 _ (List.mem_of_getElem? (i := 17) rfl)
theorem wd_27_18 : Cond.code yX6_findLeaps cX6_findLeaps 5 none ∈ wsL_law := wdm_27 _ (List.mem_of_getElem? (i := 18) rfl)
theorem wd_27_19 : Cond.methodLink RX6 198 yX6_isLeap ∈ wsL_law := wdm_27 _ (List.mem_of_getElem? (i := 19) rfl)
theorem wd_27_20 : Cond.instanceMethod yX6_isLeap ∈ wsL_law := wdm_27 _ (List.mem_of_getElem? (i := 20) rfl)
theorem wd_27_21 : Cond.selects RX6 yX6_isLeap yX6_isLeap ∈ wsL_law := wdm_27 _ (List.mem_of_getElem? (i := 21) rfl)
theorem wd_27_22 : Cond.code yX6_isLeap cX6_isLeap 4 (some .boolean) ∈ wsL_law := wdm_27 _ (List.mem_of_getElem? (i := 22) rfl)
theorem wd_27_23 : Cond.methodLink RX6 205 yX6_nextLeap ∈ wsL_law := wdm_27 _ (List.mem_of_getElem? (i := 23) rfl)
theorem wdm_28 : ∀ w ∈ wsL_law_r28, w ∈ wsL_law := fun _ h => List.mem_append_left _ (List.mem_append_left _ (List.mem_append_left _ (List.mem_append_left _ (List.mem_append_left _ (List.mem_append_left _ (List.mem_append_left _ (List.mem_append_left _ (List.mem_append_right _ (List.mem_append_right _ (List.mem_append_right _ (List.mem_append_right _ (List.mem_append_right _ (List.mem_append_right _ (List.mem_append_right _ (List.mem_append_right _ (List.mem_append_right _ (List.mem_append_right _ (List.mem_append_right _ (List.mem_append_right _ (List.mem_append_right _ (List.mem_append_right _ (List.mem_append_right _ (List.mem_append_right _ (List.mem_append_right _ (List.mem_append_right _ (List.mem_append_right _ (List.mem_append_right _ (List.mem_append_right _ (List.mem_append_right _ (List.mem_append_right _ (List.mem_append_right _ (List.mem_append_right _ (List.mem_append_right _ (List.mem_append_right _ (List.mem_append_left _ (h))))))))))))))))))))))))))))))))))))
theorem wd_28_0 : Cond.instanceMethod yX6_nextLeap ∈ wsL_law := wdm_28 _ (List.mem_of_getElem? (i := 0) rfl)
theorem wd_28_1 : Cond.selects RX6 yX6_nextLeap yX6_nextLeap ∈ wsL_law := wdm_28 _ (List.mem_of_getElem? (i := 1) rfl)
theorem wd_28_2 : Cond.code yX6_nextLeap cX6_nextLeap 3 (some .int) ∈ wsL_law := wdm_28 _ (List.mem_of_getElem? (i := 2) rfl)
theorem wd_28_3 : Cond.methodLink RL 99 yX5_elect ∈ wsL_law := wdm_28 _ (List.mem_of_getElem? (i := 3) rfl)
theorem wd_28_4 : Cond.instanceMethod yX5_elect ∈ wsL_law := wdm_28 _ (List.mem_of_getElem? (i := 4) rfl)
theorem wd_28_5 : Cond.selects RX5 yX5_elect yX5_elect ∈ wsL_law := wdm_28 _ (List.mem_of_getElem? (i := 5) rfl)
theorem wd_28_6 : Cond.code yX5_elect cX5_elect 4 (some .int) ∈ wsL_law := wdm_28 _ (List.mem_of_getElem? (i := 6) rfl)
theorem wd_28_7 : Cond.methodLink RX5 239 yX5_layTides ∈ wsL_law := wdm_28 _ (List.mem_of_getElem? (i := 7) rfl)
theorem wd_28_8 : Cond.instanceMethod yX5_layTides ∈ wsL_law := wdm_28 _ (List.mem_of_getElem? (i := 8) rfl)
theorem wd_28_9 : Cond.selects RX5 yX5_layTides yX5_layTides ∈ wsL_law := wdm_28 _ (List.mem_of_getElem? (i := 9) rfl)
theorem wd_28_10 : Cond.code yX5_layTides cX5_layTides 4 none ∈ wsL_law := wdm_28 _ (List.mem_of_getElem? (i := 10) rfl)
theorem wd_28_11 : Cond.methodLink RX5 243 yX4_poolBehind ∈ wsL_law := wdm_28 _ (List.mem_of_getElem? (i := 11) rfl)
theorem wd_28_12 : Cond.methodLink RL 102 yX6_elect ∈ wsL_law := wdm_28 _ (List.mem_of_getElem? (i := 12) rfl)
theorem wd_28_13 : Cond.instanceMethod yX6_elect ∈ wsL_law := wdm_28 _ (List.mem_of_getElem? (i := 13) rfl)
theorem wd_28_14 : Cond.selects RX6 yX6_elect yX6_elect ∈ wsL_law := wdm_28 _ (List.mem_of_getElem? (i := 14) rfl)
theorem wd_28_15 : Cond.code yX6_elect cX6_elect 8 (some .int) ∈ wsL_law := wdm_28 _ (List.mem_of_getElem? (i := 15) rfl)
theorem wd_28_16 : Cond.methodLink RX6 208 yX6_findTides ∈ wsL_law := wdm_28 _ (List.mem_of_getElem? (i := 16) rfl)
theorem wd_28_17 : Cond.instanceMethod yX6_findTides ∈ wsL_law := wdm_28 _ (List.mem_of_getElem? (i := 17) rfl)
theorem wd_28_18 : Cond.selects RX6 yX6_findTides yX6_findTides ∈ wsL_law := wdm_28 _ (List.mem_of_getElem? (i := 18) rfl)
theorem wd_28_19 : Cond.code yX6_findTides cX6_findTides 6 none ∈ wsL_law := wdm_28 _ (List.mem_of_getElem? (i := 19) rfl)
theorem wd_28_20 : Cond.methodLink RX6 212 yX6_nextTide ∈ wsL_law := wdm_28 _ (List.mem_of_getElem? (i := 20) rfl)
theorem wd_28_21 : Cond.instanceMethod yX6_nextTide ∈ wsL_law := wdm_28 _ (List.mem_of_getElem? (i := 21) rfl)
theorem wd_28_22 : Cond.selects RX6 yX6_nextTide yX6_nextTide ∈ wsL_law := wdm_28 _ (List.mem_of_getElem? (i := 22) rfl)
theorem wd_28_23 : Cond.code yX6_nextTide cX6_nextTide 4 (some .int) ∈ wsL_law := wdm_28 _ (List.mem_of_getElem? (i := 23) rfl)
theorem wdm_29 : ∀ w ∈ wsL_law_r29, w ∈ wsL_law := fun _ h => List.mem_append_left _ (List.mem_append_left _ (List.mem_append_left _ (List.mem_append_left _ (List.mem_append_left _ (List.mem_append_left _ (List.mem_append_left _ (List.mem_append_left _ (List.mem_append_right _ (List.mem_append_right _ (List.mem_append_right _ (List.mem_append_right _ (List.mem_append_right _ (List.mem_append_right _ (List.mem_append_right _ (List.mem_append_right _ (List.mem_append_right _ (List.mem_append_right _ (List.mem_append_right _ (List.mem_append_right _ (List.mem_append_right _ (List.mem_append_right _ (List.mem_append_right _ (List.mem_append_right _ (List.mem_append_right _ (List.mem_append_right _ (List.mem_append_right _ (List.mem_append_right _ (List.mem_append_right _ (List.mem_append_right _ (List.mem_append_right _ (List.mem_append_right _ (List.mem_append_right _ (List.mem_append_right _ (List.mem_append_right _ (List.mem_append_right _ (List.mem_append_left _ (h)))))))))))))))))))))))))))))))))))))
theorem wd_29_0 : Cond.methodLink RL 103 yX5_reading ∈ wsL_law := wdm_29 _ (List.mem_of_getElem? (i := 0) rfl)
theorem wd_29_1 : Cond.instanceMethod yX5_reading ∈ wsL_law := wdm_29 _ (List.mem_of_getElem? (i := 1) rfl)
theorem wd_29_2 : Cond.selects RX5 yX5_reading yX5_reading ∈ wsL_law := wdm_29 _ (List.mem_of_getElem? (i := 2) rfl)
theorem wd_29_3 : Cond.code yX5_reading cX5_reading 4 (some .int) ∈ wsL_law := wdm_29 _ (List.mem_of_getElem? (i := 3) rfl)
theorem wd_29_4 : Cond.methodLink RX5 247 yX1_take ∈ wsL_law := wdm_29 _ (List.mem_of_getElem? (i := 4) rfl)
theorem wd_29_5 : Cond.instanceMethod yX1_take ∈ wsL_law := wdm_29 _ (List.mem_of_getElem? (i := 5) rfl)
theorem wd_29_6 : Cond.selects RX1 yX1_take yX1_take ∈ wsL_law := wdm_29 _ (List.mem_of_getElem? (i := 6) rfl)
theorem wd_29_7 : Cond.code yX1_take cX1_take 4 (some .int) ∈ wsL_law := wdm_29 _ (List.mem_of_getElem? (i := 7) rfl)
theorem wd_29_8 : Cond.fieldLink RX1 21 "TideSeats$Readings" "count" "I" ∈ wsL_law := wdm_29 _ (List.mem_of_getElem? (i := 8) rfl)
theorem wd_29_9 : Cond.methodLink RL 106 yX6_reading ∈ wsL_law := wdm_29 _ (List.mem_of_getElem? (i := 9) rfl)
theorem wd_29_10 : Cond.instanceMethod yX6_reading ∈ wsL_law := wdm_29 _ (List.mem_of_getElem? (i := 10) rfl)
theorem wd_29_11 : Cond.selects RX6 yX6_reading yX6_reading ∈ wsL_law := wdm_29 _ (List.mem_of_getElem? (i := 11) rfl)
theorem wd_29_12 : Cond.code yX6_reading cX6_reading 4 (some .int) ∈ wsL_law := wdm_29 _ (List.mem_of_getElem? (i := 12) rfl)
theorem wd_29_13 : Cond.methodLink RL 107 yX5_back ∈ wsL_law := wdm_29 _ (List.mem_of_getElem? (i := 13) rfl)
theorem wd_29_14 : Cond.instanceMethod yX5_back ∈ wsL_law := wdm_29 _ (List.mem_of_getElem? (i := 14) rfl)
theorem wd_29_15 : Cond.selects RX5 yX5_back yX5_back ∈ wsL_law := wdm_29 _ (List.mem_of_getElem? (i := 15) rfl)
theorem wd_29_16 : Cond.code yX5_back cX5_back 2 (some .int) ∈ wsL_law := wdm_29 _ (List.mem_of_getElem? (i := 16) rfl)
theorem wd_29_17 : Cond.methodLink RL 110 yX6_back ∈ wsL_law := wdm_29 _ (List.mem_of_getElem? (i := 17) rfl)
theorem wd_29_18 : Cond.instanceMethod yX6_back ∈ wsL_law := wdm_29 _ (List.mem_of_getElem? (i := 18) rfl)
theorem wd_29_19 : Cond.selects RX6 yX6_back yX6_back ∈ wsL_law := wdm_29 _ (List.mem_of_getElem? (i := 19) rfl)
theorem wd_29_20 : Cond.code yX6_back cX6_back 2 (some .int) ∈ wsL_law := wdm_29 _ (List.mem_of_getElem? (i := 20) rfl)
theorem wd_29_21 : Cond.methodLink RL 111 yX5_heights ∈ wsL_law := wdm_29 _ (List.mem_of_getElem? (i := 21) rfl)
theorem wd_29_22 : Cond.instanceMethod yX5_heights ∈ wsL_law := wdm_29 _ (List.mem_of_getElem? (i := 22) rfl)
theorem wd_29_23 : Cond.selects RX5 yX5_heights yX5_heights ∈ wsL_law := wdm_29 _ (List.mem_of_getElem? (i := 23) rfl)
theorem wdm_30 : ∀ w ∈ wsL_law_r30, w ∈ wsL_law := fun _ h => List.mem_append_left _ (List.mem_append_left _ (List.mem_append_left _ (List.mem_append_left _ (List.mem_append_left _ (List.mem_append_left _ (List.mem_append_left _ (List.mem_append_left _ (List.mem_append_right _ (List.mem_append_right _ (List.mem_append_right _ (List.mem_append_right _ (List.mem_append_right _ (List.mem_append_right _ (List.mem_append_right _ (List.mem_append_right _ (List.mem_append_right _ (List.mem_append_right _ (List.mem_append_right _ (List.mem_append_right _ (List.mem_append_right _ (List.mem_append_right _ (List.mem_append_right _ (List.mem_append_right _ (List.mem_append_right _ (List.mem_append_right _ (List.mem_append_right _ (List.mem_append_right _ (List.mem_append_right _ (List.mem_append_right _ (List.mem_append_right _ (List.mem_append_right _ (List.mem_append_right _ (List.mem_append_right _ (List.mem_append_right _ (List.mem_append_right _ (List.mem_append_right _ (List.mem_append_left _ (h))))))))))))))))))))))))))))))))))))))
theorem wd_30_0 : Cond.code yX5_heights cX5_heights 4 (some .int) ∈ wsL_law := wdm_30 _ (List.mem_of_getElem? (i := 0) rfl)
theorem wd_30_1 : Cond.methodLink RX5 250 yX1_areSoIn ∈ wsL_law := wdm_30 _ (List.mem_of_getElem? (i := 1) rfl)
theorem wd_30_2 : Cond.instanceMethod yX1_areSoIn ∈ wsL_law := wdm_30 _ (List.mem_of_getElem? (i := 2) rfl)
theorem wd_30_3 : Cond.selects RX1 yX1_areSoIn yX1_areSoIn ∈ wsL_law := wdm_30 _ (List.mem_of_getElem? (i := 3) rfl)
theorem wd_30_4 : Cond.code yX1_areSoIn cX1_areSoIn 3 (some .boolean) ∈ wsL_law := wdm_30 _ (List.mem_of_getElem? (i := 4) rfl)
theorem wd_30_5 : Cond.methodLink RX1 25 yX4_seatBehind ∈ wsL_law := wdm_30 _ (List.mem_of_getElem? (i := 5) rfl)
theorem wd_30_6 : Cond.methodLink RL 114 yX6_heights ∈ wsL_law := wdm_30 _ (List.mem_of_getElem? (i := 6) rfl)
theorem wd_30_7 : Cond.instanceMethod yX6_heights ∈ wsL_law := wdm_30 _ (List.mem_of_getElem? (i := 7) rfl)
theorem wd_30_8 : Cond.selects RX6 yX6_heights yX6_heights ∈ wsL_law := wdm_30 _ (List.mem_of_getElem? (i := 8) rfl)
theorem wd_30_9 : Cond.code yX6_heights cX6_heights 5 (some .int) ∈ wsL_law := wdm_30 _ (List.mem_of_getElem? (i := 9) rfl)
theorem wd_30_10 : Cond.methodLink RX6 215 yX6_areSo ∈ wsL_law := wdm_30 _ (List.mem_of_getElem? (i := 10) rfl)
theorem wd_30_11 : Cond.instanceMethod yX6_areSo ∈ wsL_law := wdm_30 _ (List.mem_of_getElem? (i := 11) rfl)
theorem wd_30_12 : Cond.selects RX6 yX6_areSo yX6_areSo ∈ wsL_law := wdm_30 _ (List.mem_of_getElem? (i := 12) rfl)
theorem wd_30_13 : Cond.code yX6_areSo cX6_areSo 3 (some .boolean) ∈ wsL_law := wdm_30 _ (List.mem_of_getElem? (i := 13) rfl)
theorem wd_30_14 : Cond.methodLink RL 115 yX5_kinds ∈ wsL_law := wdm_30 _ (List.mem_of_getElem? (i := 14) rfl)
theorem wd_30_15 : Cond.instanceMethod yX5_kinds ∈ wsL_law := wdm_30 _ (List.mem_of_getElem? (i := 15) rfl)
theorem wd_30_16 : Cond.selects RX5 yX5_kinds yX5_kinds ∈ wsL_law := wdm_30 _ (List.mem_of_getElem? (i := 16) rfl)
theorem wd_30_17 : Cond.code yX5_kinds cX5_kinds 4 (some .int) ∈ wsL_law := wdm_30 _ (List.mem_of_getElem? (i := 17) rfl)
theorem wd_30_18 : Cond.methodLink RL 118 yX6_kinds ∈ wsL_law := wdm_30 _ (List.mem_of_getElem? (i := 18) rfl)
theorem wd_30_19 : Cond.instanceMethod yX6_kinds ∈ wsL_law := wdm_30 _ (List.mem_of_getElem? (i := 19) rfl)
theorem wd_30_20 : Cond.selects RX6 yX6_kinds yX6_kinds ∈ wsL_law := wdm_30 _ (List.mem_of_getElem? (i := 20) rfl)
theorem wd_30_21 : Cond.code yX6_kinds cX6_kinds 5 (some .int) ∈ wsL_law := wdm_30 _ (List.mem_of_getElem? (i := 21) rfl)
theorem wd_30_22 : Cond.methodLink RL 119 yX5_streams ∈ wsL_law := wdm_30 _ (List.mem_of_getElem? (i := 22) rfl)
theorem wd_30_23 : Cond.instanceMethod yX5_streams ∈ wsL_law := wdm_30 _ (List.mem_of_getElem? (i := 23) rfl)
theorem wdm_31 : ∀ w ∈ wsL_law_r31, w ∈ wsL_law := fun _ h => List.mem_append_left _ (List.mem_append_left _ (List.mem_append_left _ (List.mem_append_left _ (List.mem_append_left _ (List.mem_append_left _ (List.mem_append_left _ (List.mem_append_left _ (List.mem_append_right _ (List.mem_append_right _ (List.mem_append_right _ (List.mem_append_right _ (List.mem_append_right _ (List.mem_append_right _ (List.mem_append_right _ (List.mem_append_right _ (List.mem_append_right _ (List.mem_append_right _ (List.mem_append_right _ (List.mem_append_right _ (List.mem_append_right _ (List.mem_append_right _ (List.mem_append_right _ (List.mem_append_right _ (List.mem_append_right _ (List.mem_append_right _ (List.mem_append_right _ (List.mem_append_right _ (List.mem_append_right _ (List.mem_append_right _ (List.mem_append_right _ (List.mem_append_right _ (List.mem_append_right _ (List.mem_append_right _ (List.mem_append_right _ (List.mem_append_right _ (List.mem_append_right _ (List.mem_append_right _ (List.mem_append_left _ (h)))))))))))))))))))))))))))))))))))))))
theorem wd_31_0 : Cond.selects RX5 yX5_streams yX5_streams ∈ wsL_law := wdm_31 _ (List.mem_of_getElem? (i := 0) rfl)
theorem wd_31_1 : Cond.code yX5_streams cX5_streams 3 (some .int) ∈ wsL_law := wdm_31 _ (List.mem_of_getElem? (i := 1) rfl)
theorem wd_31_2 : Cond.methodLink RL 123 yX6_streams ∈ wsL_law := wdm_31 _ (List.mem_of_getElem? (i := 2) rfl)
theorem wd_31_3 : Cond.instanceMethod yX6_streams ∈ wsL_law := wdm_31 _ (List.mem_of_getElem? (i := 3) rfl)
theorem wd_31_4 : Cond.selects RX6 yX6_streams yX6_streams ∈ wsL_law := wdm_31 _ (List.mem_of_getElem? (i := 4) rfl)
theorem wd_31_5 : Cond.code yX6_streams cX6_streams 4 (some .int) ∈ wsL_law := wdm_31 _ (List.mem_of_getElem? (i := 5) rfl)
theorem wd_31_6 : Cond.methodLink RL 124 yX5_odds ∈ wsL_law := wdm_31 _ (List.mem_of_getElem? (i := 6) rfl)
theorem wd_31_7 : Cond.instanceMethod yX5_odds ∈ wsL_law := wdm_31 _ (List.mem_of_getElem? (i := 7) rfl)
theorem wd_31_8 : Cond.selects RX5 yX5_odds yX5_odds ∈ wsL_law := wdm_31 _ (List.mem_of_getElem? (i := 8) rfl)
theorem wd_31_9 : Cond.code yX5_odds cX5_odds 7 (some .long) ∈ wsL_law := wdm_31 _ (List.mem_of_getElem? (i := 9) rfl)
theorem wd_31_10 : Cond.constantLong RX5 258 (-9223372036854775808) ∈ wsL_law := wdm_31 _ (List.mem_of_getElem? (i := 10) rfl)
theorem wd_31_11 : Cond.methodLink RX5 260 yX5_pairsOfTides ∈ wsL_law := wdm_31 _ (List.mem_of_getElem? (i := 11) rfl)
theorem wd_31_12 : Cond.instanceMethod yX5_pairsOfTides ∈ wsL_law := wdm_31 _ (List.mem_of_getElem? (i := 12) rfl)
theorem wd_31_13 : Cond.selects RX5 yX5_pairsOfTides yX5_pairsOfTides ∈ wsL_law := wdm_31 _ (List.mem_of_getElem? (i := 13) rfl)
theorem wd_31_14 : Cond.code yX5_pairsOfTides cX5_pairsOfTides 8 (some .int) ∈ wsL_law := wdm_31 _ (List.mem_of_getElem? (i := 14) rfl)
theorem wd_31_15 : Cond.methodLink RX5 263 yX5_commonDivisor ∈ wsL_law := wdm_31 _ (List.mem_of_getElem? (i := 15) rfl)
theorem wd_31_16 : Cond.static yX5_commonDivisor ∈ wsL_law := wdm_31 _ (List.mem_of_getElem? (i := 16) rfl)
theorem wd_31_17 : Cond.code yX5_commonDivisor cX5_commonDivisor 3 (some .int) ∈ wsL_law := wdm_31 _ (List.mem_of_getElem? (i := 17) rfl)
theorem wd_31_18 : Cond.methodLink RL 128 yX6_odds ∈ wsL_law := wdm_31 _ (List.mem_of_getElem? (i := 18) rfl)
theorem wd_31_19 : Cond.instanceMethod yX6_odds ∈ wsL_law := wdm_31 _ (List.mem_of_getElem? (i := 19) rfl)
theorem wd_31_20 : Cond.selects RX6 yX6_odds yX6_odds ∈ wsL_law := wdm_31 _ (List.mem_of_getElem? (i := 20) rfl)
theorem wd_31_21 : Cond.code yX6_odds cX6_odds 8 (some .long) ∈ wsL_law := wdm_31 _ (List.mem_of_getElem? (i := 21) rfl)
theorem wd_31_22 : Cond.constantLong RX6 68 (-9223372036854775808) ∈ wsL_law := wdm_31 _ (List.mem_of_getElem? (i := 22) rfl)
theorem wd_31_23 : Cond.constantLong RX6 219 (100) ∈ wsL_law := wdm_31 _ (List.mem_of_getElem? (i := 23) rfl)
theorem wdm_32 : ∀ w ∈ wsL_law_r32, w ∈ wsL_law := fun _ h => List.mem_append_left _ (List.mem_append_left _ (List.mem_append_left _ (List.mem_append_left _ (List.mem_append_left _ (List.mem_append_left _ (List.mem_append_left _ (List.mem_append_left _ (List.mem_append_right _ (List.mem_append_right _ (List.mem_append_right _ (List.mem_append_right _ (List.mem_append_right _ (List.mem_append_right _ (List.mem_append_right _ (List.mem_append_right _ (List.mem_append_right _ (List.mem_append_right _ (List.mem_append_right _ (List.mem_append_right _ (List.mem_append_right _ (List.mem_append_right _ (List.mem_append_right _ (List.mem_append_right _ (List.mem_append_right _ (List.mem_append_right _ (List.mem_append_right _ (List.mem_append_right _ (List.mem_append_right _ (List.mem_append_right _ (List.mem_append_right _ (List.mem_append_right _ (List.mem_append_right _ (List.mem_append_right _ (List.mem_append_right _ (List.mem_append_right _ (List.mem_append_right _ (List.mem_append_right _ (List.mem_append_right _ (List.mem_append_left _ (h))))))))))))))))))))))))))))))))))))))))
theorem wd_32_0 : Cond.methodLink RX6 221 yX6_inLeastTerms ∈ wsL_law := wdm_32 _ (List.mem_of_getElem? (i := 0) rfl)
theorem wd_32_1 : Cond.static yX6_inLeastTerms ∈ wsL_law := wdm_32 _ (List.mem_of_getElem? (i := 1) rfl)
theorem wd_32_2 : Cond.code yX6_inLeastTerms cX6_inLeastTerms 11 (some .long) ∈ wsL_law := wdm_32 _ (List.mem_of_getElem? (i := 2) rfl)
theorem wd_32_3 : Cond.methodLink RL 129 yX5_sheet ∈ wsL_law := wdm_32 _ (List.mem_of_getElem? (i := 3) rfl)
theorem wd_32_4 : Cond.instanceMethod yX5_sheet ∈ wsL_law := wdm_32 _ (List.mem_of_getElem? (i := 4) rfl)
theorem wd_32_5 : Cond.selects RX5 yX5_sheet yX5_sheet ∈ wsL_law := wdm_32 _ (List.mem_of_getElem? (i := 5) rfl)
theorem wd_32_6 : Cond.code yX5_sheet cX5_sheet 4 (some .int) ∈ wsL_law := wdm_32 _ (List.mem_of_getElem? (i := 6) rfl)
theorem wd_32_7 : Cond.methodLink RX5 266 yX3_renew ∈ wsL_law := wdm_32 _ (List.mem_of_getElem? (i := 7) rfl)
theorem wd_32_8 : Cond.instanceMethod yX3_renew ∈ wsL_law := wdm_32 _ (List.mem_of_getElem? (i := 8) rfl)
theorem wd_32_9 : Cond.selects RX3 yX3_renew yX3_renew ∈ wsL_law := wdm_32 _ (List.mem_of_getElem? (i := 9) rfl)
theorem wd_32_10 : Cond.code yX3_renew cX3_renew 4 none ∈ wsL_law := wdm_32 _ (List.mem_of_getElem? (i := 10) rfl)
theorem wd_32_11 : Cond.fieldLink RX3 15 "TideSeats$Sheet" "isThere" "Z" ∈ wsL_law := wdm_32 _ (List.mem_of_getElem? (i := 11) rfl)
theorem wd_32_12 : Cond.fieldLink RX3 19 "TideSeats$Sheet" "lane" "I" ∈ wsL_law := wdm_32 _ (List.mem_of_getElem? (i := 12) rfl)
theorem wd_32_13 : Cond.methodLink RL 132 yX6_sheet ∈ wsL_law := wdm_32 _ (List.mem_of_getElem? (i := 13) rfl)
theorem wd_32_14 : Cond.instanceMethod yX6_sheet ∈ wsL_law := wdm_32 _ (List.mem_of_getElem? (i := 14) rfl)
theorem wd_32_15 : Cond.selects RX6 yX6_sheet yX6_sheet ∈ wsL_law := wdm_32 _ (List.mem_of_getElem? (i := 15) rfl)
theorem wd_32_16 : Cond.code yX6_sheet cX6_sheet 5 (some .int) ∈ wsL_law := wdm_32 _ (List.mem_of_getElem? (i := 16) rfl)
theorem wd_32_17 : Cond.methodLink RL 133 yX5_lose ∈ wsL_law := wdm_32 _ (List.mem_of_getElem? (i := 17) rfl)
theorem wd_32_18 : Cond.instanceMethod yX5_lose ∈ wsL_law := wdm_32 _ (List.mem_of_getElem? (i := 18) rfl)
theorem wd_32_19 : Cond.selects RX5 yX5_lose yX5_lose ∈ wsL_law := wdm_32 _ (List.mem_of_getElem? (i := 19) rfl)
theorem wd_32_20 : Cond.code yX5_lose cX5_lose 3 (some .int) ∈ wsL_law := wdm_32 _ (List.mem_of_getElem? (i := 20) rfl)
theorem wd_32_21 : Cond.methodLink RL 136 yX6_lose ∈ wsL_law := wdm_32 _ (List.mem_of_getElem? (i := 21) rfl)
theorem wd_32_22 : Cond.instanceMethod yX6_lose ∈ wsL_law := wdm_32 _ (List.mem_of_getElem? (i := 22) rfl)
theorem wd_32_23 : Cond.selects RX6 yX6_lose yX6_lose ∈ wsL_law := wdm_32 _ (List.mem_of_getElem? (i := 23) rfl)
theorem wdm_33 : ∀ w ∈ wsL_law_r33, w ∈ wsL_law := fun _ h => List.mem_append_left _ (List.mem_append_left _ (List.mem_append_left _ (List.mem_append_left _ (List.mem_append_left _ (List.mem_append_left _ (List.mem_append_left _ (List.mem_append_left _ (List.mem_append_right _ (List.mem_append_right _ (List.mem_append_right _ (List.mem_append_right _ (List.mem_append_right _ (List.mem_append_right _ (List.mem_append_right _ (List.mem_append_right _ (List.mem_append_right _ (List.mem_append_right _ (List.mem_append_right _ (List.mem_append_right _ (List.mem_append_right _ (List.mem_append_right _ (List.mem_append_right _ (List.mem_append_right _ (List.mem_append_right _ (List.mem_append_right _ (List.mem_append_right _ (List.mem_append_right _ (List.mem_append_right _ (List.mem_append_right _ (List.mem_append_right _ (List.mem_append_right _ (List.mem_append_right _ (List.mem_append_right _ (List.mem_append_right _ (List.mem_append_right _ (List.mem_append_right _ (List.mem_append_right _ (List.mem_append_right _ (List.mem_append_right _ (List.mem_append_left _ (h)))))))))))))))))))))))))))))))))))))))))
theorem wd_33_0 : Cond.code yX6_lose cX6_lose 3 (some .int) ∈ wsL_law := wdm_33 _ (List.mem_of_getElem? (i := 0) rfl)
theorem wd_33_1 : Cond.methodLink RL 137 yX5_put ∈ wsL_law := wdm_33 _ (List.mem_of_getElem? (i := 1) rfl)
theorem wd_33_2 : Cond.instanceMethod yX5_put ∈ wsL_law := wdm_33 _ (List.mem_of_getElem? (i := 2) rfl)
theorem wd_33_3 : Cond.selects RX5 yX5_put yX5_put ∈ wsL_law := wdm_33 _ (List.mem_of_getElem? (i := 3) rfl)
theorem wd_33_4 : Cond.code yX5_put cX5_put 4 (some .int) ∈ wsL_law := wdm_33 _ (List.mem_of_getElem? (i := 4) rfl)
theorem wd_33_5 : Cond.methodLink RX5 276 yX3_cut ∈ wsL_law := wdm_33 _ (List.mem_of_getElem? (i := 5) rfl)
theorem wd_33_6 : Cond.instanceMethod yX3_cut ∈ wsL_law := wdm_33 _ (List.mem_of_getElem? (i := 6) rfl)
theorem wd_33_7 : Cond.selects RX3 yX3_cut yX3_cut ∈ wsL_law := wdm_33 _ (List.mem_of_getElem? (i := 7) rfl)
theorem wd_33_8 : Cond.code yX3_cut cX3_cut 2 (some .int) ∈ wsL_law := wdm_33 _ (List.mem_of_getElem? (i := 8) rfl)
theorem wd_33_9 : Cond.methodLink RL 140 yX6_put ∈ wsL_law := wdm_33 _ (List.mem_of_getElem? (i := 9) rfl)
theorem wd_33_10 : Cond.instanceMethod yX6_put ∈ wsL_law := wdm_33 _ (List.mem_of_getElem? (i := 10) rfl)
theorem wd_33_11 : Cond.selects RX6 yX6_put yX6_put ∈ wsL_law := wdm_33 _ (List.mem_of_getElem? (i := 11) rfl)
theorem wd_33_12 : Cond.code yX6_put cX6_put 4 (some .int) ∈ wsL_law := wdm_33 _ (List.mem_of_getElem? (i := 12) rfl)
theorem wd_33_13 : Cond.methodLink RL 141 yX5_cell ∈ wsL_law := wdm_33 _ (List.mem_of_getElem? (i := 13) rfl)
theorem wd_33_14 : Cond.instanceMethod yX5_cell ∈ wsL_law := wdm_33 _ (List.mem_of_getElem? (i := 14) rfl)
theorem wd_33_15 : Cond.selects RX5 yX5_cell yX5_cell ∈ wsL_law := wdm_33 _ (List.mem_of_getElem? (i := 15) rfl)
theorem wd_33_16 : Cond.code yX5_cell cX5_cell 5 (some .long) ∈ wsL_law := wdm_33 _ (List.mem_of_getElem? (i := 16) rfl)
theorem wd_33_17 : Cond.methodLink RL 144 yX6_cell ∈ wsL_law := wdm_33 _ (List.mem_of_getElem? (i := 17) rfl)
theorem wd_33_18 : Cond.instanceMethod yX6_cell ∈ wsL_law := wdm_33 _ (List.mem_of_getElem? (i := 18) rfl)
theorem wd_33_19 : Cond.selects RX6 yX6_cell yX6_cell ∈ wsL_law := wdm_33 _ (List.mem_of_getElem? (i := 19) rfl)
theorem wd_33_20 : Cond.code yX6_cell cX6_cell 4 (some .long) ∈ wsL_law := wdm_33 _ (List.mem_of_getElem? (i := 20) rfl)
theorem wd_33_21 : Cond.methodLink RX6 225 yX6_lost ∈ wsL_law := wdm_33 _ (List.mem_of_getElem? (i := 21) rfl)
theorem wd_33_22 : Cond.instanceMethod yX6_lost ∈ wsL_law := wdm_33 _ (List.mem_of_getElem? (i := 22) rfl)
theorem wd_33_23 : Cond.selects RX6 yX6_lost yX6_lost ∈ wsL_law := wdm_33 _ (List.mem_of_getElem? (i := 23) rfl)
theorem wdm_34 : ∀ w ∈ wsL_law_r34, w ∈ wsL_law := fun _ h => List.mem_append_left _ (List.mem_append_left _ (List.mem_append_left _ (List.mem_append_left _ (List.mem_append_left _ (List.mem_append_left _ (List.mem_append_left _ (List.mem_append_left _ (List.mem_append_right _ (List.mem_append_right _ (List.mem_append_right _ (List.mem_append_right _ (List.mem_append_right _ (List.mem_append_right _ (List.mem_append_right _ (List.mem_append_right _ (List.mem_append_right _ (List.mem_append_right _ (List.mem_append_right _ (List.mem_append_right _ (List.mem_append_right _ (List.mem_append_right _ (List.mem_append_right _ (List.mem_append_right _ (List.mem_append_right _ (List.mem_append_right _ (List.mem_append_right _ (List.mem_append_right _ (List.mem_append_right _ (List.mem_append_right _ (List.mem_append_right _ (List.mem_append_right _ (List.mem_append_right _ (List.mem_append_right _ (List.mem_append_right _ (List.mem_append_right _ (List.mem_append_right _ (List.mem_append_right _ (List.mem_append_right _ (List.mem_append_right _ (List.mem_append_right _ (List.mem_append_left _ (h))))))))))))))))))))))))))))))))))))))))))
theorem wd_34_0 : Cond.code yX6_lost cX6_lost 2 (some .long) ∈ wsL_law := wdm_34 _ (List.mem_of_getElem? (i := 0) rfl)
theorem wd_34_1 : Cond.methodLink RL 145 yX5_copy ∈ wsL_law := wdm_34 _ (List.mem_of_getElem? (i := 1) rfl)
theorem wd_34_2 : Cond.instanceMethod yX5_copy ∈ wsL_law := wdm_34 _ (List.mem_of_getElem? (i := 2) rfl)
theorem wd_34_3 : Cond.selects RX5 yX5_copy yX5_copy ∈ wsL_law := wdm_34 _ (List.mem_of_getElem? (i := 3) rfl)
theorem wd_34_4 : Cond.code yX5_copy cX5_copy 8 (some .int) ∈ wsL_law := wdm_34 _ (List.mem_of_getElem? (i := 4) rfl)
theorem wd_34_5 : Cond.methodLink RX5 282 arraycopyName ∈ wsL_law := wdm_34 _ (List.mem_of_getElem? (i := 5) rfl)
theorem wd_34_6 : Cond.native arraycopyName ∈ wsL_law := wdm_34 _ (List.mem_of_getElem? (i := 6) rfl)
theorem wd_34_7 : Cond.static arraycopyName ∈ wsL_law := wdm_34 _ (List.mem_of_getElem? (i := 7) rfl)
theorem wd_34_8 : Cond.initialized "java/lang/System" ∈ wsL_law := wdm_34 _ (List.mem_of_getElem? (i := 8) rfl)
theorem wd_34_9 : Cond.methodLink RL 148 yX6_copy ∈ wsL_law := wdm_34 _ (List.mem_of_getElem? (i := 9) rfl)
theorem wd_34_10 : Cond.instanceMethod yX6_copy ∈ wsL_law := wdm_34 _ (List.mem_of_getElem? (i := 10) rfl)
theorem wd_34_11 : Cond.selects RX6 yX6_copy yX6_copy ∈ wsL_law := wdm_34 _ (List.mem_of_getElem? (i := 11) rfl)
theorem wd_34_12 : Cond.code yX6_copy cX6_copy 10 (some .int) ∈ wsL_law := wdm_34 _ (List.mem_of_getElem? (i := 12) rfl)
theorem wd_34_13 : Cond.methodLink RL 149 yX5_tell ∈ wsL_law := wdm_34 _ (List.mem_of_getElem? (i := 13) rfl)
theorem wd_34_14 : Cond.instanceMethod yX5_tell ∈ wsL_law := wdm_34 _ (List.mem_of_getElem? (i := 14) rfl)
theorem wd_34_15 : Cond.selects RX5 yX5_tell yX5_tell ∈ wsL_law := wdm_34 _ (List.mem_of_getElem? (i := 15) rfl)
theorem wd_34_16 : Cond.code yX5_tell cX5_tell 2 (some .int) ∈ wsL_law := wdm_34 _ (List.mem_of_getElem? (i := 16) rfl)
theorem wd_34_17 : Cond.methodLink RX5 288 yX5_shrimpBody ∈ wsL_law := wdm_34 _ (List.mem_of_getElem? (i := 17) rfl)
theorem wd_34_18 : Cond.instanceMethod yX5_shrimpBody ∈ wsL_law := wdm_34 _ (List.mem_of_getElem? (i := 18) rfl)
theorem wd_34_19 : Cond.selects RX5 yX5_shrimpBody yX5_shrimpBody ∈ wsL_law := wdm_34 _ (List.mem_of_getElem? (i := 19) rfl)
theorem wd_34_20 : Cond.code yX5_shrimpBody cX5_shrimpBody 2 (some .int) ∈ wsL_law := wdm_34 _ (List.mem_of_getElem? (i := 20) rfl)
theorem wd_34_21 : Cond.methodLink RX5 297 yX5_leave ∈ wsL_law := wdm_34 _ (List.mem_of_getElem? (i := 21) rfl)
theorem wd_34_22 : Cond.instanceMethod yX5_leave ∈ wsL_law := wdm_34 _ (List.mem_of_getElem? (i := 22) rfl)
theorem wd_34_23 : Cond.selects RX5 yX5_leave yX5_leave ∈ wsL_law := wdm_34 _ (List.mem_of_getElem? (i := 23) rfl)
theorem wdm_35 : ∀ w ∈ wsL_law_r35, w ∈ wsL_law := fun _ h => List.mem_append_left _ (List.mem_append_left _ (List.mem_append_left _ (List.mem_append_left _ (List.mem_append_left _ (List.mem_append_left _ (List.mem_append_left _ (List.mem_append_left _ (List.mem_append_right _ (List.mem_append_right _ (List.mem_append_right _ (List.mem_append_right _ (List.mem_append_right _ (List.mem_append_right _ (List.mem_append_right _ (List.mem_append_right _ (List.mem_append_right _ (List.mem_append_right _ (List.mem_append_right _ (List.mem_append_right _ (List.mem_append_right _ (List.mem_append_right _ (List.mem_append_right _ (List.mem_append_right _ (List.mem_append_right _ (List.mem_append_right _ (List.mem_append_right _ (List.mem_append_right _ (List.mem_append_right _ (List.mem_append_right _ (List.mem_append_right _ (List.mem_append_right _ (List.mem_append_right _ (List.mem_append_right _ (List.mem_append_right _ (List.mem_append_right _ (List.mem_append_right _ (List.mem_append_right _ (List.mem_append_right _ (List.mem_append_right _ (List.mem_append_right _ (List.mem_append_right _ (List.mem_append_left _ (h)))))))))))))))))))))))))))))))))))))))))))
theorem wd_35_0 : Cond.code yX5_leave cX5_leave 2 none ∈ wsL_law := wdm_35 _ (List.mem_of_getElem? (i := 0) rfl)
theorem wd_35_1 : Cond.fieldLink RX5 300 "TideSeats" "traced" "I" ∈ wsL_law := wdm_35 _ (List.mem_of_getElem? (i := 1) rfl)
theorem wd_35_2 : Cond.methodLink RX5 291 yX5_crabBody ∈ wsL_law := wdm_35 _ (List.mem_of_getElem? (i := 2) rfl)
theorem wd_35_3 : Cond.instanceMethod yX5_crabBody ∈ wsL_law := wdm_35 _ (List.mem_of_getElem? (i := 3) rfl)
theorem wd_35_4 : Cond.selects RX5 yX5_crabBody yX5_crabBody ∈ wsL_law := wdm_35 _ (List.mem_of_getElem? (i := 4) rfl)
theorem wd_35_5 : Cond.code yX5_crabBody cX5_crabBody 2 (some .int) ∈ wsL_law := wdm_35 _ (List.mem_of_getElem? (i := 5) rfl)
theorem wd_35_6 : Cond.methodLink RX5 294 yX5_limpetBody ∈ wsL_law := wdm_35 _ (List.mem_of_getElem? (i := 6) rfl)
theorem wd_35_7 : Cond.instanceMethod yX5_limpetBody ∈ wsL_law := wdm_35 _ (List.mem_of_getElem? (i := 7) rfl)
theorem wd_35_8 : Cond.selects RX5 yX5_limpetBody yX5_limpetBody ∈ wsL_law := wdm_35 _ (List.mem_of_getElem? (i := 8) rfl)
theorem wd_35_9 : Cond.code yX5_limpetBody cX5_limpetBody 3 (some .int) ∈ wsL_law := wdm_35 _ (List.mem_of_getElem? (i := 9) rfl)
theorem wd_35_10 : Cond.methodLink RL 152 yX6_tell ∈ wsL_law := wdm_35 _ (List.mem_of_getElem? (i := 10) rfl)
theorem wd_35_11 : Cond.instanceMethod yX6_tell ∈ wsL_law := wdm_35 _ (List.mem_of_getElem? (i := 11) rfl)
theorem wd_35_12 : Cond.selects RX6 yX6_tell yX6_tell ∈ wsL_law := wdm_35 _ (List.mem_of_getElem? (i := 12) rfl)
theorem wd_35_13 : Cond.code yX6_tell cX6_tell 3 (some .int) ∈ wsL_law := wdm_35 _ (List.mem_of_getElem? (i := 13) rfl)
theorem wd_35_14 : Cond.methodLink RX6 232 yX6_begins ∈ wsL_law := wdm_35 _ (List.mem_of_getElem? (i := 14) rfl)
theorem wd_35_15 : Cond.instanceMethod yX6_begins ∈ wsL_law := wdm_35 _ (List.mem_of_getElem? (i := 15) rfl)
theorem wd_35_16 : Cond.selects RX6 yX6_begins yX6_begins ∈ wsL_law := wdm_35 _ (List.mem_of_getElem? (i := 16) rfl)
theorem wd_35_17 : Cond.code yX6_begins cX6_begins 2 none ∈ wsL_law := wdm_35 _ (List.mem_of_getElem? (i := 17) rfl)
theorem wd_35_18 : Cond.fieldLink RX6 229 "TideSeatsModel" "trace" "I" ∈ wsL_law := wdm_35 _ (List.mem_of_getElem? (i := 18) rfl)
theorem wd_35_19 : Cond.methodLink RL 153 yX5_name ∈ wsL_law := wdm_35 _ (List.mem_of_getElem? (i := 19) rfl)
theorem wd_35_20 : Cond.instanceMethod yX5_name ∈ wsL_law := wdm_35 _ (List.mem_of_getElem? (i := 20) rfl)
theorem wd_35_21 : Cond.selects RX5 yX5_name yX5_name ∈ wsL_law := wdm_35 _ (List.mem_of_getElem? (i := 21) rfl)
theorem wd_35_22 : Cond.code yX5_name cX5_name 3 (some .int) ∈ wsL_law := wdm_35 _ (List.mem_of_getElem? (i := 22) rfl)
theorem wd_35_23 : Cond.methodLink RL 156 yX6_name ∈ wsL_law := wdm_35 _ (List.mem_of_getElem? (i := 23) rfl)
theorem wdm_36 : ∀ w ∈ wsL_law_r36, w ∈ wsL_law := fun _ h => List.mem_append_left _ (List.mem_append_left _ (List.mem_append_left _ (List.mem_append_left _ (List.mem_append_left _ (List.mem_append_left _ (List.mem_append_left _ (List.mem_append_left _ (List.mem_append_right _ (List.mem_append_right _ (List.mem_append_right _ (List.mem_append_right _ (List.mem_append_right _ (List.mem_append_right _ (List.mem_append_right _ (List.mem_append_right _ (List.mem_append_right _ (List.mem_append_right _ (List.mem_append_right _ (List.mem_append_right _ (List.mem_append_right _ (List.mem_append_right _ (List.mem_append_right _ (List.mem_append_right _ (List.mem_append_right _ (List.mem_append_right _ (List.mem_append_right _ (List.mem_append_right _ (List.mem_append_right _ (List.mem_append_right _ (List.mem_append_right _ (List.mem_append_right _ (List.mem_append_right _ (List.mem_append_right _ (List.mem_append_right _ (List.mem_append_right _ (List.mem_append_right _ (List.mem_append_right _ (List.mem_append_right _ (List.mem_append_right _ (List.mem_append_right _ (List.mem_append_right _ (List.mem_append_right _ (List.mem_append_left _ (h))))))))))))))))))))))))))))))))))))))))))))
theorem wd_36_0 : Cond.instanceMethod yX6_name ∈ wsL_law := wdm_36 _ (List.mem_of_getElem? (i := 0) rfl)
theorem wd_36_1 : Cond.selects RX6 yX6_name yX6_name ∈ wsL_law := wdm_36 _ (List.mem_of_getElem? (i := 1) rfl)
theorem wd_36_2 : Cond.code yX6_name cX6_name 2 (some .int) ∈ wsL_law := wdm_36 _ (List.mem_of_getElem? (i := 2) rfl)
theorem wd_36_3 : Cond.methodLink RL 157 yX5_as ∈ wsL_law := wdm_36 _ (List.mem_of_getElem? (i := 3) rfl)
theorem wd_36_4 : Cond.instanceMethod yX5_as ∈ wsL_law := wdm_36 _ (List.mem_of_getElem? (i := 4) rfl)
theorem wd_36_5 : Cond.selects RX5 yX5_as yX5_as ∈ wsL_law := wdm_36 _ (List.mem_of_getElem? (i := 5) rfl)
theorem wd_36_6 : Cond.code yX5_as cX5_as 3 (some .int) ∈ wsL_law := wdm_36 _ (List.mem_of_getElem? (i := 6) rfl)
theorem wd_36_7 : Cond.methodLink RL 160 yX6_as ∈ wsL_law := wdm_36 _ (List.mem_of_getElem? (i := 7) rfl)
theorem wd_36_8 : Cond.instanceMethod yX6_as ∈ wsL_law := wdm_36 _ (List.mem_of_getElem? (i := 8) rfl)
theorem wd_36_9 : Cond.selects RX6 yX6_as yX6_as ∈ wsL_law := wdm_36 _ (List.mem_of_getElem? (i := 9) rfl)
theorem wd_36_10 : Cond.code yX6_as cX6_as 3 (some .int) ∈ wsL_law := wdm_36 _ (List.mem_of_getElem? (i := 10) rfl)
theorem wd_36_11 : Cond.methodLink RL 161 yX5_trace ∈ wsL_law := wdm_36 _ (List.mem_of_getElem? (i := 11) rfl)
theorem wd_36_12 : Cond.instanceMethod yX5_trace ∈ wsL_law := wdm_36 _ (List.mem_of_getElem? (i := 12) rfl)
theorem wd_36_13 : Cond.selects RX5 yX5_trace yX5_trace ∈ wsL_law := wdm_36 _ (List.mem_of_getElem? (i := 13) rfl)
theorem wd_36_14 : Cond.code yX5_trace cX5_trace 1 (some .int) ∈ wsL_law := wdm_36 _ (List.mem_of_getElem? (i := 14) rfl)
theorem wd_36_15 : Cond.methodLink RL 164 yX6_trace ∈ wsL_law := wdm_36 _ (List.mem_of_getElem? (i := 15) rfl)
theorem wd_36_16 : Cond.instanceMethod yX6_trace ∈ wsL_law := wdm_36 _ (List.mem_of_getElem? (i := 16) rfl)
theorem wd_36_17 : Cond.selects RX6 yX6_trace yX6_trace ∈ wsL_law := wdm_36 _ (List.mem_of_getElem? (i := 17) rfl)
theorem wd_36_18 : Cond.code yX6_trace cX6_trace 1 (some .int) ∈ wsL_law := wdm_36 _ (List.mem_of_getElem? (i := 18) rfl)
theorem wd_36_19 : Cond.methodLink RL 165 yX5_fault ∈ wsL_law := wdm_36 _ (List.mem_of_getElem? (i := 19) rfl)
theorem wd_36_20 : Cond.instanceMethod yX5_fault ∈ wsL_law := wdm_36 _ (List.mem_of_getElem? (i := 20) rfl)
theorem wd_36_21 : Cond.selects RX5 yX5_fault yX5_fault ∈ wsL_law := wdm_36 _ (List.mem_of_getElem? (i := 21) rfl)
theorem wd_36_22 : Cond.code yX5_fault cX5_fault 1 (some .int) ∈ wsL_law := wdm_36 _ (List.mem_of_getElem? (i := 22) rfl)
theorem wd_36_23 : Cond.methodLink RL 168 yX6_fault ∈ wsL_law := wdm_36 _ (List.mem_of_getElem? (i := 23) rfl)
theorem wdm_37 : ∀ w ∈ wsL_law_r37, w ∈ wsL_law := fun _ h => List.mem_append_left _ (List.mem_append_left _ (List.mem_append_left _ (List.mem_append_left _ (List.mem_append_left _ (List.mem_append_left _ (List.mem_append_left _ (List.mem_append_left _ (List.mem_append_right _ (List.mem_append_right _ (List.mem_append_right _ (List.mem_append_right _ (List.mem_append_right _ (List.mem_append_right _ (List.mem_append_right _ (List.mem_append_right _ (List.mem_append_right _ (List.mem_append_right _ (List.mem_append_right _ (List.mem_append_right _ (List.mem_append_right _ (List.mem_append_right _ (List.mem_append_right _ (List.mem_append_right _ (List.mem_append_right _ (List.mem_append_right _ (List.mem_append_right _ (List.mem_append_right _ (List.mem_append_right _ (List.mem_append_right _ (List.mem_append_right _ (List.mem_append_right _ (List.mem_append_right _ (List.mem_append_right _ (List.mem_append_right _ (List.mem_append_right _ (List.mem_append_right _ (List.mem_append_right _ (List.mem_append_right _ (List.mem_append_right _ (List.mem_append_right _ (List.mem_append_right _ (List.mem_append_right _ (List.mem_append_right _ (h))))))))))))))))))))))))))))))))))))))))))))
theorem wd_37_0 : Cond.instanceMethod yX6_fault ∈ wsL_law := wdm_37 _ (List.mem_of_getElem? (i := 0) rfl)
theorem wd_37_1 : Cond.selects RX6 yX6_fault yX6_fault ∈ wsL_law := wdm_37 _ (List.mem_of_getElem? (i := 1) rfl)
theorem wd_37_2 : Cond.code yX6_fault cX6_fault 1 (some .int) ∈ wsL_law := wdm_37 _ (List.mem_of_getElem? (i := 2) rfl)
theorem wd_37_3 : Cond.methodLink RL 169 yX5_many ∈ wsL_law := wdm_37 _ (List.mem_of_getElem? (i := 3) rfl)
theorem wd_37_4 : Cond.instanceMethod yX5_many ∈ wsL_law := wdm_37 _ (List.mem_of_getElem? (i := 4) rfl)
theorem wd_37_5 : Cond.selects RX5 yX5_many yX5_many ∈ wsL_law := wdm_37 _ (List.mem_of_getElem? (i := 5) rfl)
theorem wd_37_6 : Cond.code yX5_many cX5_many 2 (some .int) ∈ wsL_law := wdm_37 _ (List.mem_of_getElem? (i := 6) rfl)
theorem wd_37_7 : Cond.methodLink RL 172 yX6_many ∈ wsL_law := wdm_37 _ (List.mem_of_getElem? (i := 7) rfl)
theorem wd_37_8 : Cond.instanceMethod yX6_many ∈ wsL_law := wdm_37 _ (List.mem_of_getElem? (i := 8) rfl)
theorem wd_37_9 : Cond.selects RX6 yX6_many yX6_many ∈ wsL_law := wdm_37 _ (List.mem_of_getElem? (i := 9) rfl)
theorem wd_37_10 : Cond.code yX6_many cX6_many 2 (some .int) ∈ wsL_law := wdm_37 _ (List.mem_of_getElem? (i := 10) rfl)
theorem cy_yX0_init : Cond.initialized yX0_init.cls ∈ wsL_law ∧ Cond.code yX0_init cX0_init 1 none ∈ wsL_law ∧ yX0_init.cls ≠ "java/lang/invoke/MethodHandle" ∧ yX0_init.cls ≠ "java/lang/invoke/VarHandle" ∧ (parseMethodDescriptor yX0_init.desc).map (fun d => d.parameters.length) = some 0 := ⟨wd_1_18, wd_2_15, by decide +kernel, by decide +kernel, by decide +kernel⟩
theorem cy_yX0_begin : Cond.initialized yX0_begin.cls ∈ wsL_law ∧ Cond.code yX0_begin cX0_begin 4 none ∈ wsL_law ∧ yX0_begin.cls ≠ "java/lang/invoke/MethodHandle" ∧ yX0_begin.cls ≠ "java/lang/invoke/VarHandle" ∧ (parseMethodDescriptor yX0_begin.desc).map (fun d => d.parameters.length) = some 3 := ⟨wd_1_18, wd_5_21, by decide +kernel, by decide +kernel, by decide +kernel⟩
theorem cy_yX0_place : Cond.initialized yX0_place.cls ∈ wsL_law ∧ Cond.code yX0_place cX0_place 1 (some .int) ∈ wsL_law ∧ yX0_place.cls ≠ "java/lang/invoke/MethodHandle" ∧ yX0_place.cls ≠ "java/lang/invoke/VarHandle" ∧ (parseMethodDescriptor yX0_place.desc).map (fun d => d.parameters.length) = some 0 := ⟨wd_1_18, wd_8_5, by decide +kernel, by decide +kernel, by decide +kernel⟩
theorem cy_yX0_isAtEnd : Cond.initialized yX0_isAtEnd.cls ∈ wsL_law ∧ Cond.code yX0_isAtEnd cX0_isAtEnd 1 (some .boolean) ∈ wsL_law ∧ yX0_isAtEnd.cls ≠ "java/lang/invoke/MethodHandle" ∧ yX0_isAtEnd.cls ≠ "java/lang/invoke/VarHandle" ∧ (parseMethodDescriptor yX0_isAtEnd.desc).map (fun d => d.parameters.length) = some 0 := ⟨wd_1_18, wd_6_21, by decide +kernel, by decide +kernel, by decide +kernel⟩
theorem cy_yX0_takes : Cond.initialized yX0_takes.cls ∈ wsL_law ∧ Cond.code yX0_takes cX0_takes 2 (some .boolean) ∈ wsL_law ∧ yX0_takes.cls ≠ "java/lang/invoke/MethodHandle" ∧ yX0_takes.cls ≠ "java/lang/invoke/VarHandle" ∧ (parseMethodDescriptor yX0_takes.desc).map (fun d => d.parameters.length) = some 1 := ⟨wd_1_18, wd_6_16, by decide +kernel, by decide +kernel, by decide +kernel⟩
theorem cy_yX0_digit : Cond.initialized yX0_digit.cls ∈ wsL_law ∧ Cond.code yX0_digit cX0_digit 4 (some .int) ∈ wsL_law ∧ yX0_digit.cls ≠ "java/lang/invoke/MethodHandle" ∧ yX0_digit.cls ≠ "java/lang/invoke/VarHandle" ∧ (parseMethodDescriptor yX0_digit.desc).map (fun d => d.parameters.length) = some 2 := ⟨wd_1_18, wd_7_1, by decide +kernel, by decide +kernel, by decide +kernel⟩
theorem cy_yX0_kind : Cond.initialized yX0_kind.cls ∈ wsL_law ∧ Cond.code yX0_kind cX0_kind 1 (some .int) ∈ wsL_law ∧ yX0_kind.cls ≠ "java/lang/invoke/MethodHandle" ∧ yX0_kind.cls ≠ "java/lang/invoke/VarHandle" ∧ (parseMethodDescriptor yX0_kind.desc).map (fun d => d.parameters.length) = some 0 := ⟨wd_1_18, wd_7_23, by decide +kernel, by decide +kernel, by decide +kernel⟩
theorem cy_yX1_init : Cond.initialized yX1_init.cls ∈ wsL_law ∧ Cond.code yX1_init cX1_init 1 none ∈ wsL_law ∧ yX1_init.cls ≠ "java/lang/invoke/MethodHandle" ∧ yX1_init.cls ≠ "java/lang/invoke/VarHandle" ∧ (parseMethodDescriptor yX1_init.desc).map (fun d => d.parameters.length) = some 0 := ⟨wd_1_22, wd_2_18, by decide +kernel, by decide +kernel, by decide +kernel⟩
theorem cy_yX1_take : Cond.initialized yX1_take.cls ∈ wsL_law ∧ Cond.code yX1_take cX1_take 4 (some .int) ∈ wsL_law ∧ yX1_take.cls ≠ "java/lang/invoke/MethodHandle" ∧ yX1_take.cls ≠ "java/lang/invoke/VarHandle" ∧ (parseMethodDescriptor yX1_take.desc).map (fun d => d.parameters.length) = some 3 := ⟨wd_1_22, wd_29_7, by decide +kernel, by decide +kernel, by decide +kernel⟩
theorem cy_yX1_areSoIn : Cond.initialized yX1_areSoIn.cls ∈ wsL_law ∧ Cond.code yX1_areSoIn cX1_areSoIn 3 (some .boolean) ∈ wsL_law ∧ yX1_areSoIn.cls ≠ "java/lang/invoke/MethodHandle" ∧ yX1_areSoIn.cls ≠ "java/lang/invoke/VarHandle" ∧ (parseMethodDescriptor yX1_areSoIn.desc).map (fun d => d.parameters.length) = some 1 := ⟨wd_1_22, wd_30_4, by decide +kernel, by decide +kernel, by decide +kernel⟩
theorem cy_yX2_init : Cond.initialized yX2_init.cls ∈ wsL_law ∧ Cond.code yX2_init cX2_init 1 none ∈ wsL_law ∧ yX2_init.cls ≠ "java/lang/invoke/MethodHandle" ∧ yX2_init.cls ≠ "java/lang/invoke/VarHandle" ∧ (parseMethodDescriptor yX2_init.desc).map (fun d => d.parameters.length) = some 0 := ⟨wd_2_2, wd_3_0, by decide +kernel, by decide +kernel, by decide +kernel⟩
theorem cy_yX2_begin : Cond.initialized yX2_begin.cls ∈ wsL_law ∧ Cond.code yX2_begin cX2_begin 3 none ∈ wsL_law ∧ yX2_begin.cls ≠ "java/lang/invoke/MethodHandle" ∧ yX2_begin.cls ≠ "java/lang/invoke/VarHandle" ∧ (parseMethodDescriptor yX2_begin.desc).map (fun d => d.parameters.length) = some 2 := ⟨wd_2_2, wd_26_7, by decide +kernel, by decide +kernel, by decide +kernel⟩
theorem cy_yX2_lay : Cond.initialized yX2_lay.cls ∈ wsL_law ∧ Cond.code yX2_lay cX2_lay 4 none ∈ wsL_law ∧ yX2_lay.cls ≠ "java/lang/invoke/MethodHandle" ∧ yX2_lay.cls ≠ "java/lang/invoke/VarHandle" ∧ (parseMethodDescriptor yX2_lay.desc).map (fun d => d.parameters.length) = some 3 := ⟨wd_2_2, wd_26_17, by decide +kernel, by decide +kernel, by decide +kernel⟩
theorem cy_yX2_find : Cond.initialized yX2_find.cls ∈ wsL_law ∧ Cond.code yX2_find cX2_find 6 none ∈ wsL_law ∧ yX2_find.cls ≠ "java/lang/invoke/MethodHandle" ∧ yX2_find.cls ≠ "java/lang/invoke/VarHandle" ∧ (parseMethodDescriptor yX2_find.desc).map (fun d => d.parameters.length) = some 2 := ⟨wd_2_2, wd_26_21, by decide +kernel, by decide +kernel, by decide +kernel⟩
theorem cy_yX2_moveAt : Cond.initialized yX2_moveAt.cls ∈ wsL_law ∧ Cond.code yX2_moveAt cX2_moveAt 2 (some .int) ∈ wsL_law ∧ yX2_moveAt.cls ≠ "java/lang/invoke/MethodHandle" ∧ yX2_moveAt.cls ≠ "java/lang/invoke/VarHandle" ∧ (parseMethodDescriptor yX2_moveAt.desc).map (fun d => d.parameters.length) = some 1 := ⟨wd_2_2, wd_27_10, by decide +kernel, by decide +kernel, by decide +kernel⟩
theorem cy_yX2_measure : Cond.initialized yX2_measure.cls ∈ wsL_law ∧ Cond.code yX2_measure cX2_measure 4 none ∈ wsL_law ∧ yX2_measure.cls ≠ "java/lang/invoke/MethodHandle" ∧ yX2_measure.cls ≠ "java/lang/invoke/VarHandle" ∧ (parseMethodDescriptor yX2_measure.desc).map (fun d => d.parameters.length) = some 1 := ⟨wd_2_2, wd_27_2, by decide +kernel, by decide +kernel, by decide +kernel⟩
theorem cy_yX2_moveTo : Cond.initialized yX2_moveTo.cls ∈ wsL_law ∧ Cond.code yX2_moveTo cX2_moveTo 4 (some .int) ∈ wsL_law ∧ yX2_moveTo.cls ≠ "java/lang/invoke/MethodHandle" ∧ yX2_moveTo.cls ≠ "java/lang/invoke/VarHandle" ∧ (parseMethodDescriptor yX2_moveTo.desc).map (fun d => d.parameters.length) = some 2 := ⟨wd_2_2, wd_27_6, by decide +kernel, by decide +kernel, by decide +kernel⟩
theorem cy_yX3_init : Cond.initialized yX3_init.cls ∈ wsL_law ∧ Cond.code yX3_init cX3_init 1 none ∈ wsL_law ∧ yX3_init.cls ≠ "java/lang/invoke/MethodHandle" ∧ yX3_init.cls ≠ "java/lang/invoke/VarHandle" ∧ (parseMethodDescriptor yX3_init.desc).map (fun d => d.parameters.length) = some 0 := ⟨wd_1_15, wd_2_10, by decide +kernel, by decide +kernel, by decide +kernel⟩
theorem cy_yX3_renew : Cond.initialized yX3_renew.cls ∈ wsL_law ∧ Cond.code yX3_renew cX3_renew 4 none ∈ wsL_law ∧ yX3_renew.cls ≠ "java/lang/invoke/MethodHandle" ∧ yX3_renew.cls ≠ "java/lang/invoke/VarHandle" ∧ (parseMethodDescriptor yX3_renew.desc).map (fun d => d.parameters.length) = some 2 := ⟨wd_1_15, wd_32_10, by decide +kernel, by decide +kernel, by decide +kernel⟩
theorem cy_yX3_has : Cond.initialized yX3_has.cls ∈ wsL_law ∧ Cond.code yX3_has cX3_has 3 (some .boolean) ∈ wsL_law ∧ yX3_has.cls ≠ "java/lang/invoke/MethodHandle" ∧ yX3_has.cls ≠ "java/lang/invoke/VarHandle" ∧ (parseMethodDescriptor yX3_has.desc).map (fun d => d.parameters.length) = some 2 := ⟨wd_1_15, wd_5_12, by decide +kernel, by decide +kernel, by decide +kernel⟩
theorem cy_yX3_areWithin : Cond.initialized yX3_areWithin.cls ∈ wsL_law ∧ Cond.code yX3_areWithin cX3_areWithin 5 (some .boolean) ∈ wsL_law ∧ yX3_areWithin.cls ≠ "java/lang/invoke/MethodHandle" ∧ yX3_areWithin.cls ≠ "java/lang/invoke/VarHandle" ∧ (parseMethodDescriptor yX3_areWithin.desc).map (fun d => d.parameters.length) = some 3 := ⟨wd_1_15, wd_22_10, by decide +kernel, by decide +kernel, by decide +kernel⟩
theorem cy_yX3_cut : Cond.initialized yX3_cut.cls ∈ wsL_law ∧ Cond.code yX3_cut cX3_cut 2 (some .int) ∈ wsL_law ∧ yX3_cut.cls ≠ "java/lang/invoke/MethodHandle" ∧ yX3_cut.cls ≠ "java/lang/invoke/VarHandle" ∧ (parseMethodDescriptor yX3_cut.desc).map (fun d => d.parameters.length) = some 1 := ⟨wd_1_15, wd_33_8, by decide +kernel, by decide +kernel, by decide +kernel⟩
theorem cy_yX4_init : Cond.initialized yX4_init.cls ∈ wsL_law ∧ Cond.code yX4_init cX4_init 1 none ∈ wsL_law ∧ yX4_init.cls ≠ "java/lang/invoke/MethodHandle" ∧ yX4_init.cls ≠ "java/lang/invoke/VarHandle" ∧ (parseMethodDescriptor yX4_init.desc).map (fun d => d.parameters.length) = some 0 := ⟨wd_2_6, wd_3_7, by decide +kernel, by decide +kernel, by decide +kernel⟩
theorem cy_yX4_become : Cond.initialized yX4_become.cls ∈ wsL_law ∧ Cond.code yX4_become cX4_become 3 none ∈ wsL_law ∧ yX4_become.cls ≠ "java/lang/invoke/MethodHandle" ∧ yX4_become.cls ≠ "java/lang/invoke/VarHandle" ∧ (parseMethodDescriptor yX4_become.desc).map (fun d => d.parameters.length) = some 1 := ⟨wd_2_6, wd_22_23, by decide +kernel, by decide +kernel, by decide +kernel⟩
theorem cy_yX4_readsAll : Cond.initialized yX4_readsAll.cls ∈ wsL_law ∧ Cond.code yX4_readsAll cX4_readsAll 2 (some .boolean) ∈ wsL_law ∧ yX4_readsAll.cls ≠ "java/lang/invoke/MethodHandle" ∧ yX4_readsAll.cls ≠ "java/lang/invoke/VarHandle" ∧ (parseMethodDescriptor yX4_readsAll.desc).map (fun d => d.parameters.length) = some 1 := ⟨wd_2_6, wd_6_5, by decide +kernel, by decide +kernel, by decide +kernel⟩
theorem cy_yX4_readsHead : Cond.initialized yX4_readsHead.cls ∈ wsL_law ∧ Cond.code yX4_readsHead cX4_readsHead 2 (some .boolean) ∈ wsL_law ∧ yX4_readsHead.cls ≠ "java/lang/invoke/MethodHandle" ∧ yX4_readsHead.cls ≠ "java/lang/invoke/VarHandle" ∧ (parseMethodDescriptor yX4_readsHead.desc).map (fun d => d.parameters.length) = some 1 := ⟨wd_2_6, wd_6_9, by decide +kernel, by decide +kernel, by decide +kernel⟩
theorem cy_yX4_readsPools : Cond.initialized yX4_readsPools.cls ∈ wsL_law ∧ Cond.code yX4_readsPools cX4_readsPools 2 (some .boolean) ∈ wsL_law ∧ yX4_readsPools.cls ≠ "java/lang/invoke/MethodHandle" ∧ yX4_readsPools.cls ≠ "java/lang/invoke/VarHandle" ∧ (parseMethodDescriptor yX4_readsPools.desc).map (fun d => d.parameters.length) = some 1 := ⟨wd_2_6, wd_7_5, by decide +kernel, by decide +kernel, by decide +kernel⟩
theorem cy_yX4_readsPool : Cond.initialized yX4_readsPool.cls ∈ wsL_law ∧ Cond.code yX4_readsPool cX4_readsPool 2 (some .boolean) ∈ wsL_law ∧ yX4_readsPool.cls ≠ "java/lang/invoke/MethodHandle" ∧ yX4_readsPool.cls ≠ "java/lang/invoke/VarHandle" ∧ (parseMethodDescriptor yX4_readsPool.desc).map (fun d => d.parameters.length) = some 1 := ⟨wd_2_6, wd_7_10, by decide +kernel, by decide +kernel, by decide +kernel⟩
theorem cy_yX4_readsMembers : Cond.initialized yX4_readsMembers.cls ∈ wsL_law ∧ Cond.code yX4_readsMembers cX4_readsMembers 2 (some .boolean) ∈ wsL_law ∧ yX4_readsMembers.cls ≠ "java/lang/invoke/MethodHandle" ∧ yX4_readsMembers.cls ≠ "java/lang/invoke/VarHandle" ∧ (parseMethodDescriptor yX4_readsMembers.desc).map (fun d => d.parameters.length) = some 1 := ⟨wd_2_6, wd_7_14, by decide +kernel, by decide +kernel, by decide +kernel⟩
theorem cy_yX4_readsMember : Cond.initialized yX4_readsMember.cls ∈ wsL_law ∧ Cond.code yX4_readsMember cX4_readsMember 2 (some .boolean) ∈ wsL_law ∧ yX4_readsMember.cls ≠ "java/lang/invoke/MethodHandle" ∧ yX4_readsMember.cls ≠ "java/lang/invoke/VarHandle" ∧ (parseMethodDescriptor yX4_readsMember.desc).map (fun d => d.parameters.length) = some 1 := ⟨wd_2_6, wd_7_19, by decide +kernel, by decide +kernel, by decide +kernel⟩
theorem cy_yX4_sittersOf : Cond.initialized yX4_sittersOf.cls ∈ wsL_law ∧ Cond.code yX4_sittersOf cX4_sittersOf 4 (some .int) ∈ wsL_law ∧ yX4_sittersOf.cls ≠ "java/lang/invoke/MethodHandle" ∧ yX4_sittersOf.cls ≠ "java/lang/invoke/VarHandle" ∧ (parseMethodDescriptor yX4_sittersOf.desc).map (fun d => d.parameters.length) = some 1 := ⟨wd_2_6, wd_11_10, by decide +kernel, by decide +kernel, by decide +kernel⟩
theorem cy_yX4_sittersIn : Cond.initialized yX4_sittersIn.cls ∈ wsL_law ∧ Cond.code yX4_sittersIn cX4_sittersIn 2 (some .int) ∈ wsL_law ∧ yX4_sittersIn.cls ≠ "java/lang/invoke/MethodHandle" ∧ yX4_sittersIn.cls ≠ "java/lang/invoke/VarHandle" ∧ (parseMethodDescriptor yX4_sittersIn.desc).map (fun d => d.parameters.length) = some 1 := ⟨wd_2_6, wd_11_18, by decide +kernel, by decide +kernel, by decide +kernel⟩
theorem cy_yX4_spanOf : Cond.initialized yX4_spanOf.cls ∈ wsL_law ∧ Cond.code yX4_spanOf cX4_spanOf 2 (some .int) ∈ wsL_law ∧ yX4_spanOf.cls ≠ "java/lang/invoke/MethodHandle" ∧ yX4_spanOf.cls ≠ "java/lang/invoke/VarHandle" ∧ (parseMethodDescriptor yX4_spanOf.desc).map (fun d => d.parameters.length) = some 1 := ⟨wd_2_6, wd_11_14, by decide +kernel, by decide +kernel, by decide +kernel⟩
theorem cy_yX4_poolsSatIn : Cond.initialized yX4_poolsSatIn.cls ∈ wsL_law ∧ Cond.code yX4_poolsSatIn cX4_poolsSatIn 3 (some .int) ∈ wsL_law ∧ yX4_poolsSatIn.cls ≠ "java/lang/invoke/MethodHandle" ∧ yX4_poolsSatIn.cls ≠ "java/lang/invoke/VarHandle" ∧ (parseMethodDescriptor yX4_poolsSatIn.desc).map (fun d => d.parameters.length) = some 0 := ⟨wd_2_6, wd_21_6, by decide +kernel, by decide +kernel, by decide +kernel⟩
theorem cy_yX4_fullestPool : Cond.initialized yX4_fullestPool.cls ∈ wsL_law ∧ Cond.code yX4_fullestPool cX4_fullestPool 3 (some .int) ∈ wsL_law ∧ yX4_fullestPool.cls ≠ "java/lang/invoke/MethodHandle" ∧ yX4_fullestPool.cls ≠ "java/lang/invoke/VarHandle" ∧ (parseMethodDescriptor yX4_fullestPool.desc).map (fun d => d.parameters.length) = some 0 := ⟨wd_2_6, wd_23_8, by decide +kernel, by decide +kernel, by decide +kernel⟩
theorem cy_yX4_stepsOf : Cond.initialized yX4_stepsOf.cls ∈ wsL_law ∧ Cond.code yX4_stepsOf cX4_stepsOf 2 (some .int) ∈ wsL_law ∧ yX4_stepsOf.cls ≠ "java/lang/invoke/MethodHandle" ∧ yX4_stepsOf.cls ≠ "java/lang/invoke/VarHandle" ∧ (parseMethodDescriptor yX4_stepsOf.desc).map (fun d => d.parameters.length) = some 1 := ⟨wd_2_6, wd_13_8, by decide +kernel, by decide +kernel, by decide +kernel⟩
theorem cy_yX4_isWashed : Cond.initialized yX4_isWashed.cls ∈ wsL_law ∧ Cond.code yX4_isWashed cX4_isWashed 3 (some .boolean) ∈ wsL_law ∧ yX4_isWashed.cls ≠ "java/lang/invoke/MethodHandle" ∧ yX4_isWashed.cls ≠ "java/lang/invoke/VarHandle" ∧ (parseMethodDescriptor yX4_isWashed.desc).map (fun d => d.parameters.length) = some 2 := ⟨wd_2_6, wd_17_1, by decide +kernel, by decide +kernel, by decide +kernel⟩
theorem cy_yX4_washedBy : Cond.initialized yX4_washedBy.cls ∈ wsL_law ∧ Cond.code yX4_washedBy cX4_washedBy 4 (some .int) ∈ wsL_law ∧ yX4_washedBy.cls ≠ "java/lang/invoke/MethodHandle" ∧ yX4_washedBy.cls ≠ "java/lang/invoke/VarHandle" ∧ (parseMethodDescriptor yX4_washedBy.desc).map (fun d => d.parameters.length) = some 1 := ⟨wd_2_6, wd_16_21, by decide +kernel, by decide +kernel, by decide +kernel⟩
theorem cy_yX4_poolBehind : Cond.initialized yX4_poolBehind.cls ∈ wsL_law ∧ Cond.code yX4_poolBehind cX4_poolBehind 6 (some .int) ∈ wsL_law ∧ yX4_poolBehind.cls ≠ "java/lang/invoke/MethodHandle" ∧ yX4_poolBehind.cls ≠ "java/lang/invoke/VarHandle" ∧ (parseMethodDescriptor yX4_poolBehind.desc).map (fun d => d.parameters.length) = some 3 := ⟨wd_2_6, wd_17_21, by decide +kernel, by decide +kernel, by decide +kernel⟩
theorem cy_yX4_nextWashed : Cond.initialized yX4_nextWashed.cls ∈ wsL_law ∧ Cond.code yX4_nextWashed cX4_nextWashed 5 (some .int) ∈ wsL_law ∧ yX4_nextWashed.cls ≠ "java/lang/invoke/MethodHandle" ∧ yX4_nextWashed.cls ≠ "java/lang/invoke/VarHandle" ∧ (parseMethodDescriptor yX4_nextWashed.desc).map (fun d => d.parameters.length) = some 2 := ⟨wd_2_6, wd_18_2, by decide +kernel, by decide +kernel, by decide +kernel⟩
theorem cy_yX4_seatBehind : Cond.initialized yX4_seatBehind.cls ∈ wsL_law ∧ Cond.code yX4_seatBehind cX4_seatBehind 3 (some .int) ∈ wsL_law ∧ yX4_seatBehind.cls ≠ "java/lang/invoke/MethodHandle" ∧ yX4_seatBehind.cls ≠ "java/lang/invoke/VarHandle" ∧ (parseMethodDescriptor yX4_seatBehind.desc).map (fun d => d.parameters.length) = some 2 := ⟨wd_2_6, wd_17_17, by decide +kernel, by decide +kernel, by decide +kernel⟩
theorem cy_yX4_carryAll : Cond.initialized yX4_carryAll.cls ∈ wsL_law ∧ Cond.code yX4_carryAll cX4_carryAll 5 (some .int) ∈ wsL_law ∧ yX4_carryAll.cls ≠ "java/lang/invoke/MethodHandle" ∧ yX4_carryAll.cls ≠ "java/lang/invoke/VarHandle" ∧ (parseMethodDescriptor yX4_carryAll.desc).map (fun d => d.parameters.length) = some 1 := ⟨wd_2_6, wd_18_18, by decide +kernel, by decide +kernel, by decide +kernel⟩
theorem cy_yX4_friendsOf : Cond.initialized yX4_friendsOf.cls ∈ wsL_law ∧ Cond.code yX4_friendsOf cX4_friendsOf 4 (some .int) ∈ wsL_law ∧ yX4_friendsOf.cls ≠ "java/lang/invoke/MethodHandle" ∧ yX4_friendsOf.cls ≠ "java/lang/invoke/VarHandle" ∧ (parseMethodDescriptor yX4_friendsOf.desc).map (fun d => d.parameters.length) = some 1 := ⟨wd_2_6, wd_19_13, by decide +kernel, by decide +kernel, by decide +kernel⟩
theorem cy_yX4_poolsWon : Cond.initialized yX4_poolsWon.cls ∈ wsL_law ∧ Cond.code yX4_poolsWon cX4_poolsWon 5 (some .int) ∈ wsL_law ∧ yX4_poolsWon.cls ≠ "java/lang/invoke/MethodHandle" ∧ yX4_poolsWon.cls ≠ "java/lang/invoke/VarHandle" ∧ (parseMethodDescriptor yX4_poolsWon.desc).map (fun d => d.parameters.length) = some 1 := ⟨wd_2_6, wd_20_9, by decide +kernel, by decide +kernel, by decide +kernel⟩
theorem cy_yX4_isLawBy : Cond.initialized yX4_isLawBy.cls ∈ wsL_law ∧ Cond.code yX4_isLawBy cX4_isLawBy 2 (some .boolean) ∈ wsL_law ∧ yX4_isLawBy.cls ≠ "java/lang/invoke/MethodHandle" ∧ yX4_isLawBy.cls ≠ "java/lang/invoke/VarHandle" ∧ (parseMethodDescriptor yX4_isLawBy.desc).map (fun d => d.parameters.length) = some 1 := ⟨wd_2_6, wd_21_1, by decide +kernel, by decide +kernel, by decide +kernel⟩
theorem cy_yX4_driftIn : Cond.initialized yX4_driftIn.cls ∈ wsL_law ∧ Cond.code yX4_driftIn cX4_driftIn 5 (some .int) ∈ wsL_law ∧ yX4_driftIn.cls ≠ "java/lang/invoke/MethodHandle" ∧ yX4_driftIn.cls ≠ "java/lang/invoke/VarHandle" ∧ (parseMethodDescriptor yX4_driftIn.desc).map (fun d => d.parameters.length) = some 2 := ⟨wd_2_6, wd_25_6, by decide +kernel, by decide +kernel, by decide +kernel⟩
theorem cy_yX4_isInReach : Cond.initialized yX4_isInReach.cls ∈ wsL_law ∧ Cond.code yX4_isInReach cX4_isInReach 3 (some .boolean) ∈ wsL_law ∧ yX4_isInReach.cls ≠ "java/lang/invoke/MethodHandle" ∧ yX4_isInReach.cls ≠ "java/lang/invoke/VarHandle" ∧ (parseMethodDescriptor yX4_isInReach.desc).map (fun d => d.parameters.length) = some 2 := ⟨wd_2_6, wd_26_13, by decide +kernel, by decide +kernel, by decide +kernel⟩
theorem cy_yX5_init : Cond.initialized yX5_init.cls ∈ wsL_law ∧ Cond.code yX5_init cX5_init 2 none ∈ wsL_law ∧ yX5_init.cls ≠ "java/lang/invoke/MethodHandle" ∧ yX5_init.cls ≠ "java/lang/invoke/VarHandle" ∧ (parseMethodDescriptor yX5_init.desc).map (fun d => d.parameters.length) = some 0 := ⟨wd_1_2, wd_1_8, by decide +kernel, by decide +kernel, by decide +kernel⟩
theorem cy_yX5_shore : Cond.initialized yX5_shore.cls ∈ wsL_law ∧ Cond.code yX5_shore cX5_shore 6 (some .int) ∈ wsL_law ∧ yX5_shore.cls ≠ "java/lang/invoke/MethodHandle" ∧ yX5_shore.cls ≠ "java/lang/invoke/VarHandle" ∧ (parseMethodDescriptor yX5_shore.desc).map (fun d => d.parameters.length) = some 4 := ⟨wd_1_2, wd_4_15, by decide +kernel, by decide +kernel, by decide +kernel⟩
theorem cy_yX5_ofPool : Cond.initialized yX5_ofPool.cls ∈ wsL_law ∧ Cond.code yX5_ofPool cX5_ofPool 3 (some .int) ∈ wsL_law ∧ yX5_ofPool.cls ≠ "java/lang/invoke/MethodHandle" ∧ yX5_ofPool.cls ≠ "java/lang/invoke/VarHandle" ∧ (parseMethodDescriptor yX5_ofPool.desc).map (fun d => d.parameters.length) = some 2 := ⟨wd_1_2, wd_10_23, by decide +kernel, by decide +kernel, by decide +kernel⟩
theorem cy_yX5_ofMember : Cond.initialized yX5_ofMember.cls ∈ wsL_law ∧ Cond.code yX5_ofMember cX5_ofMember 3 (some .int) ∈ wsL_law ∧ yX5_ofMember.cls ≠ "java/lang/invoke/MethodHandle" ∧ yX5_ofMember.cls ≠ "java/lang/invoke/VarHandle" ∧ (parseMethodDescriptor yX5_ofMember.desc).map (fun d => d.parameters.length) = some 2 := ⟨wd_1_2, wd_12_21, by decide +kernel, by decide +kernel, by decide +kernel⟩
theorem cy_yX5_raise : Cond.initialized yX5_raise.cls ∈ wsL_law ∧ Cond.code yX5_raise cX5_raise 4 (some .int) ∈ wsL_law ∧ yX5_raise.cls ≠ "java/lang/invoke/MethodHandle" ∧ yX5_raise.cls ≠ "java/lang/invoke/VarHandle" ∧ (parseMethodDescriptor yX5_raise.desc).map (fun d => d.parameters.length) = some 2 := ⟨wd_1_2, wd_14_0, by decide +kernel, by decide +kernel, by decide +kernel⟩
theorem cy_yX5_sway : Cond.initialized yX5_sway.cls ∈ wsL_law ∧ Cond.code yX5_sway cX5_sway 4 (some .int) ∈ wsL_law ∧ yX5_sway.cls ≠ "java/lang/invoke/MethodHandle" ∧ yX5_sway.cls ≠ "java/lang/invoke/VarHandle" ∧ (parseMethodDescriptor yX5_sway.desc).map (fun d => d.parameters.length) = some 2 := ⟨wd_1_2, wd_14_8, by decide +kernel, by decide +kernel, by decide +kernel⟩
theorem cy_yX5_seat : Cond.initialized yX5_seat.cls ∈ wsL_law ∧ Cond.code yX5_seat cX5_seat 4 (some .int) ∈ wsL_law ∧ yX5_seat.cls ≠ "java/lang/invoke/MethodHandle" ∧ yX5_seat.cls ≠ "java/lang/invoke/VarHandle" ∧ (parseMethodDescriptor yX5_seat.desc).map (fun d => d.parameters.length) = some 2 := ⟨wd_1_2, wd_14_22, by decide +kernel, by decide +kernel, by decide +kernel⟩
theorem cy_yX5_flow : Cond.initialized yX5_flow.cls ∈ wsL_law ∧ Cond.code yX5_flow cX5_flow 4 (some .int) ∈ wsL_law ∧ yX5_flow.cls ≠ "java/lang/invoke/MethodHandle" ∧ yX5_flow.cls ≠ "java/lang/invoke/VarHandle" ∧ (parseMethodDescriptor yX5_flow.desc).map (fun d => d.parameters.length) = some 1 := ⟨wd_1_2, wd_15_6, by decide +kernel, by decide +kernel, by decide +kernel⟩
theorem cy_yX5_calm : Cond.initialized yX5_calm.cls ∈ wsL_law ∧ Cond.code yX5_calm cX5_calm 4 (some .int) ∈ wsL_law ∧ yX5_calm.cls ≠ "java/lang/invoke/MethodHandle" ∧ yX5_calm.cls ≠ "java/lang/invoke/VarHandle" ∧ (parseMethodDescriptor yX5_calm.desc).map (fun d => d.parameters.length) = some 1 := ⟨wd_1_2, wd_15_23, by decide +kernel, by decide +kernel, by decide +kernel⟩
theorem cy_yX5_leap : Cond.initialized yX5_leap.cls ∈ wsL_law ∧ Cond.code yX5_leap cX5_leap 4 (some .int) ∈ wsL_law ∧ yX5_leap.cls ≠ "java/lang/invoke/MethodHandle" ∧ yX5_leap.cls ≠ "java/lang/invoke/VarHandle" ∧ (parseMethodDescriptor yX5_leap.desc).map (fun d => d.parameters.length) = some 1 := ⟨wd_1_2, wd_16_8, by decide +kernel, by decide +kernel, by decide +kernel⟩
theorem cy_yX5_washed : Cond.initialized yX5_washed.cls ∈ wsL_law ∧ Cond.code yX5_washed cX5_washed 3 (some .int) ∈ wsL_law ∧ yX5_washed.cls ≠ "java/lang/invoke/MethodHandle" ∧ yX5_washed.cls ≠ "java/lang/invoke/VarHandle" ∧ (parseMethodDescriptor yX5_washed.desc).map (fun d => d.parameters.length) = some 1 := ⟨wd_1_2, wd_16_17, by decide +kernel, by decide +kernel, by decide +kernel⟩
theorem cy_yX5_carried : Cond.initialized yX5_carried.cls ∈ wsL_law ∧ Cond.code yX5_carried cX5_carried 3 (some .int) ∈ wsL_law ∧ yX5_carried.cls ≠ "java/lang/invoke/MethodHandle" ∧ yX5_carried.cls ≠ "java/lang/invoke/VarHandle" ∧ (parseMethodDescriptor yX5_carried.desc).map (fun d => d.parameters.length) = some 2 := ⟨wd_1_2, wd_17_13, by decide +kernel, by decide +kernel, by decide +kernel⟩
theorem cy_yX5_tide : Cond.initialized yX5_tide.cls ∈ wsL_law ∧ Cond.code yX5_tide cX5_tide 3 (some .int) ∈ wsL_law ∧ yX5_tide.cls ≠ "java/lang/invoke/MethodHandle" ∧ yX5_tide.cls ≠ "java/lang/invoke/VarHandle" ∧ (parseMethodDescriptor yX5_tide.desc).map (fun d => d.parameters.length) = some 1 := ⟨wd_1_2, wd_18_14, by decide +kernel, by decide +kernel, by decide +kernel⟩
theorem cy_yX5_ayes : Cond.initialized yX5_ayes.cls ∈ wsL_law ∧ Cond.code yX5_ayes cX5_ayes 3 (some .int) ∈ wsL_law ∧ yX5_ayes.cls ≠ "java/lang/invoke/MethodHandle" ∧ yX5_ayes.cls ≠ "java/lang/invoke/VarHandle" ∧ (parseMethodDescriptor yX5_ayes.desc).map (fun d => d.parameters.length) = some 1 := ⟨wd_1_2, wd_19_9, by decide +kernel, by decide +kernel, by decide +kernel⟩
theorem cy_yX5_passes : Cond.initialized yX5_passes.cls ∈ wsL_law ∧ Cond.code yX5_passes cX5_passes 3 (some .int) ∈ wsL_law ∧ yX5_passes.cls ≠ "java/lang/invoke/MethodHandle" ∧ yX5_passes.cls ≠ "java/lang/invoke/VarHandle" ∧ (parseMethodDescriptor yX5_passes.desc).map (fun d => d.parameters.length) = some 1 := ⟨wd_1_2, wd_20_5, by decide +kernel, by decide +kernel, by decide +kernel⟩
theorem cy_yX5_law : Cond.initialized yX5_law.cls ∈ wsL_law ∧ Cond.code yX5_law cX5_law 3 (some .int) ∈ wsL_law ∧ yX5_law.cls ≠ "java/lang/invoke/MethodHandle" ∧ yX5_law.cls ≠ "java/lang/invoke/VarHandle" ∧ (parseMethodDescriptor yX5_law.desc).map (fun d => d.parameters.length) = some 1 := ⟨wd_1_2, wd_20_21, by decide +kernel, by decide +kernel, by decide +kernel⟩
theorem cy_yX5_year : Cond.initialized yX5_year.cls ∈ wsL_law ∧ Cond.code yX5_year cX5_year 7 (some .int) ∈ wsL_law ∧ yX5_year.cls ≠ "java/lang/invoke/MethodHandle" ∧ yX5_year.cls ≠ "java/lang/invoke/VarHandle" ∧ (parseMethodDescriptor yX5_year.desc).map (fun d => d.parameters.length) = some 5 := ⟨wd_1_2, wd_21_23, by decide +kernel, by decide +kernel, by decide +kernel⟩
theorem cy_yX5_yearTold : Cond.initialized yX5_yearTold.cls ∈ wsL_law ∧ Cond.code yX5_yearTold cX5_yearTold 8 (some .int) ∈ wsL_law ∧ yX5_yearTold.cls ≠ "java/lang/invoke/MethodHandle" ∧ yX5_yearTold.cls ≠ "java/lang/invoke/VarHandle" ∧ (parseMethodDescriptor yX5_yearTold.desc).map (fun d => d.parameters.length) = some 4 := ⟨wd_1_2, wd_22_14, by decide +kernel, by decide +kernel, by decide +kernel⟩
theorem cy_yX5_firstWrong : Cond.initialized yX5_firstWrong.cls ∈ wsL_law ∧ Cond.code yX5_firstWrong cX5_firstWrong 5 (some .int) ∈ wsL_law ∧ yX5_firstWrong.cls ≠ "java/lang/invoke/MethodHandle" ∧ yX5_firstWrong.cls ≠ "java/lang/invoke/VarHandle" ∧ (parseMethodDescriptor yX5_firstWrong.desc).map (fun d => d.parameters.length) = some 3 := ⟨wd_1_2, wd_22_19, by decide +kernel, by decide +kernel, by decide +kernel⟩
theorem cy_yX5_endOfYear : Cond.initialized yX5_endOfYear.cls ∈ wsL_law ∧ Cond.code yX5_endOfYear cX5_endOfYear 3 (some .int) ∈ wsL_law ∧ yX5_endOfYear.cls ≠ "java/lang/invoke/MethodHandle" ∧ yX5_endOfYear.cls ≠ "java/lang/invoke/VarHandle" ∧ (parseMethodDescriptor yX5_endOfYear.desc).map (fun d => d.parameters.length) = some 1 := ⟨wd_1_2, wd_23_3, by decide +kernel, by decide +kernel, by decide +kernel⟩
theorem cy_yX5_best : Cond.initialized yX5_best.cls ∈ wsL_law ∧ Cond.code yX5_best cX5_best 7 (some .int) ∈ wsL_law ∧ yX5_best.cls ≠ "java/lang/invoke/MethodHandle" ∧ yX5_best.cls ≠ "java/lang/invoke/VarHandle" ∧ (parseMethodDescriptor yX5_best.desc).map (fun d => d.parameters.length) = some 1 := ⟨wd_1_2, wd_24_1, by decide +kernel, by decide +kernel, by decide +kernel⟩
theorem cy_yX5_turn : Cond.initialized yX5_turn.cls ∈ wsL_law ∧ Cond.code yX5_turn cX5_turn 3 (some .int) ∈ wsL_law ∧ yX5_turn.cls ≠ "java/lang/invoke/MethodHandle" ∧ yX5_turn.cls ≠ "java/lang/invoke/VarHandle" ∧ (parseMethodDescriptor yX5_turn.desc).map (fun d => d.parameters.length) = some 1 := ⟨wd_1_2, wd_24_10, by decide +kernel, by decide +kernel, by decide +kernel⟩
theorem cy_yX5_fewestToTurn : Cond.initialized yX5_fewestToTurn.cls ∈ wsL_law ∧ Cond.code yX5_fewestToTurn cX5_fewestToTurn 4 (some .int) ∈ wsL_law ∧ yX5_fewestToTurn.cls ≠ "java/lang/invoke/MethodHandle" ∧ yX5_fewestToTurn.cls ≠ "java/lang/invoke/VarHandle" ∧ (parseMethodDescriptor yX5_fewestToTurn.desc).map (fun d => d.parameters.length) = some 1 := ⟨wd_1_2, wd_24_14, by decide +kernel, by decide +kernel, by decide +kernel⟩
theorem cy_yX5_drift : Cond.initialized yX5_drift.cls ∈ wsL_law ∧ Cond.code yX5_drift cX5_drift 8 (some .int) ∈ wsL_law ∧ yX5_drift.cls ≠ "java/lang/invoke/MethodHandle" ∧ yX5_drift.cls ≠ "java/lang/invoke/VarHandle" ∧ (parseMethodDescriptor yX5_drift.desc).map (fun d => d.parameters.length) = some 6 := ⟨wd_1_2, wd_24_22, by decide +kernel, by decide +kernel, by decide +kernel⟩
theorem cy_yX5_driftOf : Cond.initialized yX5_driftOf.cls ∈ wsL_law ∧ Cond.code yX5_driftOf cX5_driftOf 7 (some .int) ∈ wsL_law ∧ yX5_driftOf.cls ≠ "java/lang/invoke/MethodHandle" ∧ yX5_driftOf.cls ≠ "java/lang/invoke/VarHandle" ∧ (parseMethodDescriptor yX5_driftOf.desc).map (fun d => d.parameters.length) = some 4 := ⟨wd_1_2, wd_25_2, by decide +kernel, by decide +kernel, by decide +kernel⟩
theorem cy_yX5_originsOf : Cond.initialized yX5_originsOf.cls ∈ wsL_law ∧ Cond.code yX5_originsOf cX5_originsOf 7 (some .int) ∈ wsL_law ∧ yX5_originsOf.cls ≠ "java/lang/invoke/MethodHandle" ∧ yX5_originsOf.cls ≠ "java/lang/invoke/VarHandle" ∧ (parseMethodDescriptor yX5_originsOf.desc).map (fun d => d.parameters.length) = some 4 := ⟨wd_1_2, wd_25_10, by decide +kernel, by decide +kernel, by decide +kernel⟩
theorem cy_yX5_leaps : Cond.initialized yX5_leaps.cls ∈ wsL_law ∧ Cond.code yX5_leaps cX5_leaps 4 (some .int) ∈ wsL_law ∧ yX5_leaps.cls ≠ "java/lang/invoke/MethodHandle" ∧ yX5_leaps.cls ≠ "java/lang/invoke/VarHandle" ∧ (parseMethodDescriptor yX5_leaps.desc).map (fun d => d.parameters.length) = some 3 := ⟨wd_1_2, wd_25_22, by decide +kernel, by decide +kernel, by decide +kernel⟩
theorem cy_yX5_layLeaps : Cond.initialized yX5_layLeaps.cls ∈ wsL_law ∧ Cond.code yX5_layLeaps cX5_layLeaps 3 none ∈ wsL_law ∧ yX5_layLeaps.cls ≠ "java/lang/invoke/MethodHandle" ∧ yX5_layLeaps.cls ≠ "java/lang/invoke/VarHandle" ∧ (parseMethodDescriptor yX5_layLeaps.desc).map (fun d => d.parameters.length) = some 0 := ⟨wd_1_2, wd_26_3, by decide +kernel, by decide +kernel, by decide +kernel⟩
theorem cy_yX5_elect : Cond.initialized yX5_elect.cls ∈ wsL_law ∧ Cond.code yX5_elect cX5_elect 4 (some .int) ∈ wsL_law ∧ yX5_elect.cls ≠ "java/lang/invoke/MethodHandle" ∧ yX5_elect.cls ≠ "java/lang/invoke/VarHandle" ∧ (parseMethodDescriptor yX5_elect.desc).map (fun d => d.parameters.length) = some 3 := ⟨wd_1_2, wd_28_6, by decide +kernel, by decide +kernel, by decide +kernel⟩
theorem cy_yX5_layTides : Cond.initialized yX5_layTides.cls ∈ wsL_law ∧ Cond.code yX5_layTides cX5_layTides 4 none ∈ wsL_law ∧ yX5_layTides.cls ≠ "java/lang/invoke/MethodHandle" ∧ yX5_layTides.cls ≠ "java/lang/invoke/VarHandle" ∧ (parseMethodDescriptor yX5_layTides.desc).map (fun d => d.parameters.length) = some 1 := ⟨wd_1_2, wd_28_10, by decide +kernel, by decide +kernel, by decide +kernel⟩
theorem cy_yX5_reading : Cond.initialized yX5_reading.cls ∈ wsL_law ∧ Cond.code yX5_reading cX5_reading 4 (some .int) ∈ wsL_law ∧ yX5_reading.cls ≠ "java/lang/invoke/MethodHandle" ∧ yX5_reading.cls ≠ "java/lang/invoke/VarHandle" ∧ (parseMethodDescriptor yX5_reading.desc).map (fun d => d.parameters.length) = some 3 := ⟨wd_1_2, wd_29_3, by decide +kernel, by decide +kernel, by decide +kernel⟩
theorem cy_yX5_back : Cond.initialized yX5_back.cls ∈ wsL_law ∧ Cond.code yX5_back cX5_back 2 (some .int) ∈ wsL_law ∧ yX5_back.cls ≠ "java/lang/invoke/MethodHandle" ∧ yX5_back.cls ≠ "java/lang/invoke/VarHandle" ∧ (parseMethodDescriptor yX5_back.desc).map (fun d => d.parameters.length) = some 1 := ⟨wd_1_2, wd_29_16, by decide +kernel, by decide +kernel, by decide +kernel⟩
theorem cy_yX5_heights : Cond.initialized yX5_heights.cls ∈ wsL_law ∧ Cond.code yX5_heights cX5_heights 4 (some .int) ∈ wsL_law ∧ yX5_heights.cls ≠ "java/lang/invoke/MethodHandle" ∧ yX5_heights.cls ≠ "java/lang/invoke/VarHandle" ∧ (parseMethodDescriptor yX5_heights.desc).map (fun d => d.parameters.length) = some 1 := ⟨wd_1_2, wd_30_0, by decide +kernel, by decide +kernel, by decide +kernel⟩
theorem cy_yX5_kinds : Cond.initialized yX5_kinds.cls ∈ wsL_law ∧ Cond.code yX5_kinds cX5_kinds 4 (some .int) ∈ wsL_law ∧ yX5_kinds.cls ≠ "java/lang/invoke/MethodHandle" ∧ yX5_kinds.cls ≠ "java/lang/invoke/VarHandle" ∧ (parseMethodDescriptor yX5_kinds.desc).map (fun d => d.parameters.length) = some 1 := ⟨wd_1_2, wd_30_17, by decide +kernel, by decide +kernel, by decide +kernel⟩
theorem cy_yX5_streams : Cond.initialized yX5_streams.cls ∈ wsL_law ∧ Cond.code yX5_streams cX5_streams 3 (some .int) ∈ wsL_law ∧ yX5_streams.cls ≠ "java/lang/invoke/MethodHandle" ∧ yX5_streams.cls ≠ "java/lang/invoke/VarHandle" ∧ (parseMethodDescriptor yX5_streams.desc).map (fun d => d.parameters.length) = some 0 := ⟨wd_1_2, wd_31_1, by decide +kernel, by decide +kernel, by decide +kernel⟩
theorem cy_yX5_odds : Cond.initialized yX5_odds.cls ∈ wsL_law ∧ Cond.code yX5_odds cX5_odds 7 (some .long) ∈ wsL_law ∧ yX5_odds.cls ≠ "java/lang/invoke/MethodHandle" ∧ yX5_odds.cls ≠ "java/lang/invoke/VarHandle" ∧ (parseMethodDescriptor yX5_odds.desc).map (fun d => d.parameters.length) = some 3 := ⟨wd_1_2, wd_31_9, by decide +kernel, by decide +kernel, by decide +kernel⟩
theorem cy_yX5_pairsOfTides : Cond.initialized yX5_pairsOfTides.cls ∈ wsL_law ∧ Cond.code yX5_pairsOfTides cX5_pairsOfTides 8 (some .int) ∈ wsL_law ∧ yX5_pairsOfTides.cls ≠ "java/lang/invoke/MethodHandle" ∧ yX5_pairsOfTides.cls ≠ "java/lang/invoke/VarHandle" ∧ (parseMethodDescriptor yX5_pairsOfTides.desc).map (fun d => d.parameters.length) = some 2 := ⟨wd_1_2, wd_31_14, by decide +kernel, by decide +kernel, by decide +kernel⟩
theorem cy_yX5_commonDivisor : Cond.initialized yX5_commonDivisor.cls ∈ wsL_law ∧ Cond.code yX5_commonDivisor cX5_commonDivisor 3 (some .int) ∈ wsL_law ∧ yX5_commonDivisor.cls ≠ "java/lang/invoke/MethodHandle" ∧ yX5_commonDivisor.cls ≠ "java/lang/invoke/VarHandle" ∧ (parseMethodDescriptor yX5_commonDivisor.desc).map (fun d => d.parameters.length) = some 2 := ⟨wd_1_2, wd_31_17, by decide +kernel, by decide +kernel, by decide +kernel⟩
theorem cy_yX5_sheet : Cond.initialized yX5_sheet.cls ∈ wsL_law ∧ Cond.code yX5_sheet cX5_sheet 4 (some .int) ∈ wsL_law ∧ yX5_sheet.cls ≠ "java/lang/invoke/MethodHandle" ∧ yX5_sheet.cls ≠ "java/lang/invoke/VarHandle" ∧ (parseMethodDescriptor yX5_sheet.desc).map (fun d => d.parameters.length) = some 3 := ⟨wd_1_2, wd_32_6, by decide +kernel, by decide +kernel, by decide +kernel⟩
theorem cy_yX5_lose : Cond.initialized yX5_lose.cls ∈ wsL_law ∧ Cond.code yX5_lose cX5_lose 3 (some .int) ∈ wsL_law ∧ yX5_lose.cls ≠ "java/lang/invoke/MethodHandle" ∧ yX5_lose.cls ≠ "java/lang/invoke/VarHandle" ∧ (parseMethodDescriptor yX5_lose.desc).map (fun d => d.parameters.length) = some 1 := ⟨wd_1_2, wd_32_20, by decide +kernel, by decide +kernel, by decide +kernel⟩
theorem cy_yX5_put : Cond.initialized yX5_put.cls ∈ wsL_law ∧ Cond.code yX5_put cX5_put 4 (some .int) ∈ wsL_law ∧ yX5_put.cls ≠ "java/lang/invoke/MethodHandle" ∧ yX5_put.cls ≠ "java/lang/invoke/VarHandle" ∧ (parseMethodDescriptor yX5_put.desc).map (fun d => d.parameters.length) = some 3 := ⟨wd_1_2, wd_33_4, by decide +kernel, by decide +kernel, by decide +kernel⟩
theorem cy_yX5_cell : Cond.initialized yX5_cell.cls ∈ wsL_law ∧ Cond.code yX5_cell cX5_cell 5 (some .long) ∈ wsL_law ∧ yX5_cell.cls ≠ "java/lang/invoke/MethodHandle" ∧ yX5_cell.cls ≠ "java/lang/invoke/VarHandle" ∧ (parseMethodDescriptor yX5_cell.desc).map (fun d => d.parameters.length) = some 3 := ⟨wd_1_2, wd_33_16, by decide +kernel, by decide +kernel, by decide +kernel⟩
theorem cy_yX5_copy : Cond.initialized yX5_copy.cls ∈ wsL_law ∧ Cond.code yX5_copy cX5_copy 8 (some .int) ∈ wsL_law ∧ yX5_copy.cls ≠ "java/lang/invoke/MethodHandle" ∧ yX5_copy.cls ≠ "java/lang/invoke/VarHandle" ∧ (parseMethodDescriptor yX5_copy.desc).map (fun d => d.parameters.length) = some 5 := ⟨wd_1_2, wd_34_4, by decide +kernel, by decide +kernel, by decide +kernel⟩
theorem cy_yX5_tell : Cond.initialized yX5_tell.cls ∈ wsL_law ∧ Cond.code yX5_tell cX5_tell 2 (some .int) ∈ wsL_law ∧ yX5_tell.cls ≠ "java/lang/invoke/MethodHandle" ∧ yX5_tell.cls ≠ "java/lang/invoke/VarHandle" ∧ (parseMethodDescriptor yX5_tell.desc).map (fun d => d.parameters.length) = some 1 := ⟨wd_1_2, wd_34_16, by decide +kernel, by decide +kernel, by decide +kernel⟩
theorem cy_yX5_shrimpBody : Cond.initialized yX5_shrimpBody.cls ∈ wsL_law ∧ Cond.code yX5_shrimpBody cX5_shrimpBody 2 (some .int) ∈ wsL_law ∧ yX5_shrimpBody.cls ≠ "java/lang/invoke/MethodHandle" ∧ yX5_shrimpBody.cls ≠ "java/lang/invoke/VarHandle" ∧ (parseMethodDescriptor yX5_shrimpBody.desc).map (fun d => d.parameters.length) = some 1 := ⟨wd_1_2, wd_34_20, by decide +kernel, by decide +kernel, by decide +kernel⟩
theorem cy_yX5_crabBody : Cond.initialized yX5_crabBody.cls ∈ wsL_law ∧ Cond.code yX5_crabBody cX5_crabBody 2 (some .int) ∈ wsL_law ∧ yX5_crabBody.cls ≠ "java/lang/invoke/MethodHandle" ∧ yX5_crabBody.cls ≠ "java/lang/invoke/VarHandle" ∧ (parseMethodDescriptor yX5_crabBody.desc).map (fun d => d.parameters.length) = some 1 := ⟨wd_1_2, wd_35_5, by decide +kernel, by decide +kernel, by decide +kernel⟩
theorem cy_yX5_limpetBody : Cond.initialized yX5_limpetBody.cls ∈ wsL_law ∧ Cond.code yX5_limpetBody cX5_limpetBody 3 (some .int) ∈ wsL_law ∧ yX5_limpetBody.cls ≠ "java/lang/invoke/MethodHandle" ∧ yX5_limpetBody.cls ≠ "java/lang/invoke/VarHandle" ∧ (parseMethodDescriptor yX5_limpetBody.desc).map (fun d => d.parameters.length) = some 1 := ⟨wd_1_2, wd_35_9, by decide +kernel, by decide +kernel, by decide +kernel⟩
theorem cy_yX5_name : Cond.initialized yX5_name.cls ∈ wsL_law ∧ Cond.code yX5_name cX5_name 3 (some .int) ∈ wsL_law ∧ yX5_name.cls ≠ "java/lang/invoke/MethodHandle" ∧ yX5_name.cls ≠ "java/lang/invoke/VarHandle" ∧ (parseMethodDescriptor yX5_name.desc).map (fun d => d.parameters.length) = some 1 := ⟨wd_1_2, wd_35_22, by decide +kernel, by decide +kernel, by decide +kernel⟩
theorem cy_yX5_leave : Cond.initialized yX5_leave.cls ∈ wsL_law ∧ Cond.code yX5_leave cX5_leave 2 none ∈ wsL_law ∧ yX5_leave.cls ≠ "java/lang/invoke/MethodHandle" ∧ yX5_leave.cls ≠ "java/lang/invoke/VarHandle" ∧ (parseMethodDescriptor yX5_leave.desc).map (fun d => d.parameters.length) = some 1 := ⟨wd_1_2, wd_35_0, by decide +kernel, by decide +kernel, by decide +kernel⟩
theorem cy_yX5_as : Cond.initialized yX5_as.cls ∈ wsL_law ∧ Cond.code yX5_as cX5_as 3 (some .int) ∈ wsL_law ∧ yX5_as.cls ≠ "java/lang/invoke/MethodHandle" ∧ yX5_as.cls ≠ "java/lang/invoke/VarHandle" ∧ (parseMethodDescriptor yX5_as.desc).map (fun d => d.parameters.length) = some 2 := ⟨wd_1_2, wd_36_6, by decide +kernel, by decide +kernel, by decide +kernel⟩
theorem cy_yX5_trace : Cond.initialized yX5_trace.cls ∈ wsL_law ∧ Cond.code yX5_trace cX5_trace 1 (some .int) ∈ wsL_law ∧ yX5_trace.cls ≠ "java/lang/invoke/MethodHandle" ∧ yX5_trace.cls ≠ "java/lang/invoke/VarHandle" ∧ (parseMethodDescriptor yX5_trace.desc).map (fun d => d.parameters.length) = some 0 := ⟨wd_1_2, wd_36_14, by decide +kernel, by decide +kernel, by decide +kernel⟩
theorem cy_yX5_fault : Cond.initialized yX5_fault.cls ∈ wsL_law ∧ Cond.code yX5_fault cX5_fault 1 (some .int) ∈ wsL_law ∧ yX5_fault.cls ≠ "java/lang/invoke/MethodHandle" ∧ yX5_fault.cls ≠ "java/lang/invoke/VarHandle" ∧ (parseMethodDescriptor yX5_fault.desc).map (fun d => d.parameters.length) = some 0 := ⟨wd_1_2, wd_36_22, by decide +kernel, by decide +kernel, by decide +kernel⟩
theorem cy_yX5_many : Cond.initialized yX5_many.cls ∈ wsL_law ∧ Cond.code yX5_many cX5_many 2 (some .int) ∈ wsL_law ∧ yX5_many.cls ≠ "java/lang/invoke/MethodHandle" ∧ yX5_many.cls ≠ "java/lang/invoke/VarHandle" ∧ (parseMethodDescriptor yX5_many.desc).map (fun d => d.parameters.length) = some 1 := ⟨wd_1_2, wd_37_6, by decide +kernel, by decide +kernel, by decide +kernel⟩
theorem cy_yX5_isWithin : Cond.initialized yX5_isWithin.cls ∈ wsL_law ∧ Cond.code yX5_isWithin cX5_isWithin 3 (some .boolean) ∈ wsL_law ∧ yX5_isWithin.cls ≠ "java/lang/invoke/MethodHandle" ∧ yX5_isWithin.cls ≠ "java/lang/invoke/VarHandle" ∧ (parseMethodDescriptor yX5_isWithin.desc).map (fun d => d.parameters.length) = some 3 := ⟨wd_1_2, wd_5_0, by decide +kernel, by decide +kernel, by decide +kernel⟩
theorem cy_yX5_isDigit : Cond.initialized yX5_isDigit.cls ∈ wsL_law ∧ Cond.code yX5_isDigit cX5_isDigit 1 (some .boolean) ∈ wsL_law ∧ yX5_isDigit.cls ≠ "java/lang/invoke/MethodHandle" ∧ yX5_isDigit.cls ≠ "java/lang/invoke/VarHandle" ∧ (parseMethodDescriptor yX5_isDigit.desc).map (fun d => d.parameters.length) = some 1 := ⟨wd_1_2, wd_14_11, by decide +kernel, by decide +kernel, by decide +kernel⟩
theorem cy_yX5_isSheet : Cond.initialized yX5_isSheet.cls ∈ wsL_law ∧ Cond.code yX5_isSheet cX5_isSheet 1 (some .boolean) ∈ wsL_law ∧ yX5_isSheet.cls ≠ "java/lang/invoke/MethodHandle" ∧ yX5_isSheet.cls ≠ "java/lang/invoke/VarHandle" ∧ (parseMethodDescriptor yX5_isSheet.desc).map (fun d => d.parameters.length) = some 1 := ⟨wd_1_2, wd_4_21, by decide +kernel, by decide +kernel, by decide +kernel⟩
theorem cy_yX5_isLane : Cond.initialized yX5_isLane.cls ∈ wsL_law ∧ Cond.code yX5_isLane cX5_isLane 1 (some .boolean) ∈ wsL_law ∧ yX5_isLane.cls ≠ "java/lang/invoke/MethodHandle" ∧ yX5_isLane.cls ≠ "java/lang/invoke/VarHandle" ∧ (parseMethodDescriptor yX5_isLane.desc).map (fun d => d.parameters.length) = some 1 := ⟨wd_1_2, wd_5_3, by decide +kernel, by decide +kernel, by decide +kernel⟩
theorem cy_yX5_isToldOfYears : Cond.initialized yX5_isToldOfYears.cls ∈ wsL_law ∧ Cond.code yX5_isToldOfYears cX5_isToldOfYears 1 (some .boolean) ∈ wsL_law ∧ yX5_isToldOfYears.cls ≠ "java/lang/invoke/MethodHandle" ∧ yX5_isToldOfYears.cls ≠ "java/lang/invoke/VarHandle" ∧ (parseMethodDescriptor yX5_isToldOfYears.desc).map (fun d => d.parameters.length) = some 1 := ⟨wd_1_2, wd_22_2, by decide +kernel, by decide +kernel, by decide +kernel⟩
theorem cy_yX5_oneIf : Cond.initialized yX5_oneIf.cls ∈ wsL_law ∧ Cond.code yX5_oneIf cX5_oneIf 1 (some .int) ∈ wsL_law ∧ yX5_oneIf.cls ≠ "java/lang/invoke/MethodHandle" ∧ yX5_oneIf.cls ≠ "java/lang/invoke/VarHandle" ∧ (parseMethodDescriptor yX5_oneIf.desc).map (fun d => d.parameters.length) = some 1 := ⟨wd_1_2, wd_18_21, by decide +kernel, by decide +kernel, by decide +kernel⟩
theorem cy_yX5_isPool : Cond.initialized yX5_isPool.cls ∈ wsL_law ∧ Cond.code yX5_isPool cX5_isPool 2 (some .boolean) ∈ wsL_law ∧ yX5_isPool.cls ≠ "java/lang/invoke/MethodHandle" ∧ yX5_isPool.cls ≠ "java/lang/invoke/VarHandle" ∧ (parseMethodDescriptor yX5_isPool.desc).map (fun d => d.parameters.length) = some 1 := ⟨wd_1_2, wd_11_5, by decide +kernel, by decide +kernel, by decide +kernel⟩
theorem cy_yX5_isMember : Cond.initialized yX5_isMember.cls ∈ wsL_law ∧ Cond.code yX5_isMember cX5_isMember 2 (some .boolean) ∈ wsL_law ∧ yX5_isMember.cls ≠ "java/lang/invoke/MethodHandle" ∧ yX5_isMember.cls ≠ "java/lang/invoke/VarHandle" ∧ (parseMethodDescriptor yX5_isMember.desc).map (fun d => d.parameters.length) = some 1 := ⟨wd_1_2, wd_13_4, by decide +kernel, by decide +kernel, by decide +kernel⟩
theorem cy_yX5_hasShore : Cond.initialized yX5_hasShore.cls ∈ wsL_law ∧ Cond.code yX5_hasShore cX5_hasShore 1 (some .boolean) ∈ wsL_law ∧ yX5_hasShore.cls ≠ "java/lang/invoke/MethodHandle" ∧ yX5_hasShore.cls ≠ "java/lang/invoke/VarHandle" ∧ (parseMethodDescriptor yX5_hasShore.desc).map (fun d => d.parameters.length) = some 0 := ⟨wd_1_2, wd_15_15, by decide +kernel, by decide +kernel, by decide +kernel⟩
theorem cy_yX5_refusalUnless : Cond.initialized yX5_refusalUnless.cls ∈ wsL_law ∧ Cond.code yX5_refusalUnless cX5_refusalUnless 2 (some .int) ∈ wsL_law ∧ yX5_refusalUnless.cls ≠ "java/lang/invoke/MethodHandle" ∧ yX5_refusalUnless.cls ≠ "java/lang/invoke/VarHandle" ∧ (parseMethodDescriptor yX5_refusalUnless.desc).map (fun d => d.parameters.length) = some 1 := ⟨wd_1_2, wd_15_11, by decide +kernel, by decide +kernel, by decide +kernel⟩
theorem cy_yX5_refusalOfRow : Cond.initialized yX5_refusalOfRow.cls ∈ wsL_law ∧ Cond.code yX5_refusalOfRow cX5_refusalOfRow 7 (some .int) ∈ wsL_law ∧ yX5_refusalOfRow.cls ≠ "java/lang/invoke/MethodHandle" ∧ yX5_refusalOfRow.cls ≠ "java/lang/invoke/VarHandle" ∧ (parseMethodDescriptor yX5_refusalOfRow.desc).map (fun d => d.parameters.length) = some 5 := ⟨wd_1_2, wd_22_6, by decide +kernel, by decide +kernel, by decide +kernel⟩
theorem cy_yX5_faulted : Cond.initialized yX5_faulted.cls ∈ wsL_law ∧ Cond.code yX5_faulted cX5_faulted 2 (some .int) ∈ wsL_law ∧ yX5_faulted.cls ≠ "java/lang/invoke/MethodHandle" ∧ yX5_faulted.cls ≠ "java/lang/invoke/VarHandle" ∧ (parseMethodDescriptor yX5_faulted.desc).map (fun d => d.parameters.length) = some 1 := ⟨wd_1_2, wd_5_17, by decide +kernel, by decide +kernel, by decide +kernel⟩
theorem cy_yX5_rowFault : Cond.initialized yX5_rowFault.cls ∈ wsL_law ∧ Cond.code yX5_rowFault cX5_rowFault 4 (some .int) ∈ wsL_law ∧ yX5_rowFault.cls ≠ "java/lang/invoke/MethodHandle" ∧ yX5_rowFault.cls ≠ "java/lang/invoke/VarHandle" ∧ (parseMethodDescriptor yX5_rowFault.desc).map (fun d => d.parameters.length) = some 4 := ⟨wd_1_2, wd_5_6, by decide +kernel, by decide +kernel, by decide +kernel⟩
theorem cy_yX5_swapShores : Cond.initialized yX5_swapShores.cls ∈ wsL_law ∧ Cond.code yX5_swapShores cX5_swapShores 2 none ∈ wsL_law ∧ yX5_swapShores.cls ≠ "java/lang/invoke/MethodHandle" ∧ yX5_swapShores.cls ≠ "java/lang/invoke/VarHandle" ∧ (parseMethodDescriptor yX5_swapShores.desc).map (fun d => d.parameters.length) = some 0 := ⟨wd_1_2, wd_8_9, by decide +kernel, by decide +kernel, by decide +kernel⟩
theorem cy_yX6_init : Cond.initialized yX6_init.cls ∈ wsL_law ∧ Cond.code yX6_init cX6_init 1 none ∈ wsL_law ∧ yX6_init.cls ≠ "java/lang/invoke/MethodHandle" ∧ yX6_init.cls ≠ "java/lang/invoke/VarHandle" ∧ (parseMethodDescriptor yX6_init.desc).map (fun d => d.parameters.length) = some 0 := ⟨wd_1_5, wd_3_16, by decide +kernel, by decide +kernel, by decide +kernel⟩
theorem cy_yX6_fails : Cond.initialized yX6_fails.cls ∈ wsL_law ∧ Cond.code yX6_fails cX6_fails 2 (some .int) ∈ wsL_law ∧ yX6_fails.cls ≠ "java/lang/invoke/MethodHandle" ∧ yX6_fails.cls ≠ "java/lang/invoke/VarHandle" ∧ (parseMethodDescriptor yX6_fails.desc).map (fun d => d.parameters.length) = some 1 := ⟨wd_1_5, wd_9_9, by decide +kernel, by decide +kernel, by decide +kernel⟩
theorem cy_yX6_lost : Cond.initialized yX6_lost.cls ∈ wsL_law ∧ Cond.code yX6_lost cX6_lost 2 (some .long) ∈ wsL_law ∧ yX6_lost.cls ≠ "java/lang/invoke/MethodHandle" ∧ yX6_lost.cls ≠ "java/lang/invoke/VarHandle" ∧ (parseMethodDescriptor yX6_lost.desc).map (fun d => d.parameters.length) = some 1 := ⟨wd_1_5, wd_34_0, by decide +kernel, by decide +kernel, by decide +kernel⟩
theorem cy_yX6_within : Cond.initialized yX6_within.cls ∈ wsL_law ∧ Cond.code yX6_within cX6_within 3 (some .boolean) ∈ wsL_law ∧ yX6_within.cls ≠ "java/lang/invoke/MethodHandle" ∧ yX6_within.cls ≠ "java/lang/invoke/VarHandle" ∧ (parseMethodDescriptor yX6_within.desc).map (fun d => d.parameters.length) = some 3 := ⟨wd_1_5, wd_8_22, by decide +kernel, by decide +kernel, by decide +kernel⟩
theorem cy_yX6_isSheet : Cond.initialized yX6_isSheet.cls ∈ wsL_law ∧ Cond.code yX6_isSheet cX6_isSheet 1 (some .boolean) ∈ wsL_law ∧ yX6_isSheet.cls ≠ "java/lang/invoke/MethodHandle" ∧ yX6_isSheet.cls ≠ "java/lang/invoke/VarHandle" ∧ (parseMethodDescriptor yX6_isSheet.desc).map (fun d => d.parameters.length) = some 1 := ⟨wd_1_5, wd_8_19, by decide +kernel, by decide +kernel, by decide +kernel⟩
theorem cy_yX6_isSort : Cond.initialized yX6_isSort.cls ∈ wsL_law ∧ Cond.code yX6_isSort cX6_isSort 1 (some .boolean) ∈ wsL_law ∧ yX6_isSort.cls ≠ "java/lang/invoke/MethodHandle" ∧ yX6_isSort.cls ≠ "java/lang/invoke/VarHandle" ∧ (parseMethodDescriptor yX6_isSort.desc).map (fun d => d.parameters.length) = some 1 := ⟨wd_1_5, wd_9_1, by decide +kernel, by decide +kernel, by decide +kernel⟩
theorem cy_yX6_against : Cond.initialized yX6_against.cls ∈ wsL_law ∧ Cond.code yX6_against cX6_against 5 (some .int) ∈ wsL_law ∧ yX6_against.cls ≠ "java/lang/invoke/MethodHandle" ∧ yX6_against.cls ≠ "java/lang/invoke/VarHandle" ∧ (parseMethodDescriptor yX6_against.desc).map (fun d => d.parameters.length) = some 4 := ⟨wd_1_5, wd_9_5, by decide +kernel, by decide +kernel, by decide +kernel⟩
theorem cy_yX6_isPool : Cond.initialized yX6_isPool.cls ∈ wsL_law ∧ Cond.code yX6_isPool cX6_isPool 2 (some .boolean) ∈ wsL_law ∧ yX6_isPool.cls ≠ "java/lang/invoke/MethodHandle" ∧ yX6_isPool.cls ≠ "java/lang/invoke/VarHandle" ∧ (parseMethodDescriptor yX6_isPool.desc).map (fun d => d.parameters.length) = some 1 := ⟨wd_1_5, wd_12_10, by decide +kernel, by decide +kernel, by decide +kernel⟩
theorem cy_yX6_isMember : Cond.initialized yX6_isMember.cls ∈ wsL_law ∧ Cond.code yX6_isMember cX6_isMember 2 (some .boolean) ∈ wsL_law ∧ yX6_isMember.cls ≠ "java/lang/invoke/MethodHandle" ∧ yX6_isMember.cls ≠ "java/lang/invoke/VarHandle" ∧ (parseMethodDescriptor yX6_isMember.desc).map (fun d => d.parameters.length) = some 1 := ⟨wd_1_5, wd_13_16, by decide +kernel, by decide +kernel, by decide +kernel⟩
theorem cy_yX6_isDigit : Cond.initialized yX6_isDigit.cls ∈ wsL_law ∧ Cond.code yX6_isDigit cX6_isDigit 1 (some .boolean) ∈ wsL_law ∧ yX6_isDigit.cls ≠ "java/lang/invoke/MethodHandle" ∧ yX6_isDigit.cls ≠ "java/lang/invoke/VarHandle" ∧ (parseMethodDescriptor yX6_isDigit.desc).map (fun d => d.parameters.length) = some 1 := ⟨wd_1_5, wd_14_18, by decide +kernel, by decide +kernel, by decide +kernel⟩
theorem cy_yX6_digit : Cond.initialized yX6_digit.cls ∈ wsL_law ∧ Cond.code yX6_digit cX6_digit 4 (some .int) ∈ wsL_law ∧ yX6_digit.cls ≠ "java/lang/invoke/MethodHandle" ∧ yX6_digit.cls ≠ "java/lang/invoke/VarHandle" ∧ (parseMethodDescriptor yX6_digit.desc).map (fun d => d.parameters.length) = some 3 := ⟨wd_1_5, wd_10_2, by decide +kernel, by decide +kernel, by decide +kernel⟩
theorem cy_yX6_isSign : Cond.initialized yX6_isSign.cls ∈ wsL_law ∧ Cond.code yX6_isSign cX6_isSign 3 (some .boolean) ∈ wsL_law ∧ yX6_isSign.cls ≠ "java/lang/invoke/MethodHandle" ∧ yX6_isSign.cls ≠ "java/lang/invoke/VarHandle" ∧ (parseMethodDescriptor yX6_isSign.desc).map (fun d => d.parameters.length) = some 2 := ⟨wd_1_5, wd_9_22, by decide +kernel, by decide +kernel, by decide +kernel⟩
theorem cy_yX6_shore : Cond.initialized yX6_shore.cls ∈ wsL_law ∧ Cond.code yX6_shore cX6_shore 7 (some .int) ∈ wsL_law ∧ yX6_shore.cls ≠ "java/lang/invoke/MethodHandle" ∧ yX6_shore.cls ≠ "java/lang/invoke/VarHandle" ∧ (parseMethodDescriptor yX6_shore.desc).map (fun d => d.parameters.length) = some 4 := ⟨wd_1_5, wd_8_13, by decide +kernel, by decide +kernel, by decide +kernel⟩
theorem cy_yX6_takeShore : Cond.initialized yX6_takeShore.cls ∈ wsL_law ∧ Cond.code yX6_takeShore cX6_takeShore 2 none ∈ wsL_law ∧ yX6_takeShore.cls ≠ "java/lang/invoke/MethodHandle" ∧ yX6_takeShore.cls ≠ "java/lang/invoke/VarHandle" ∧ (parseMethodDescriptor yX6_takeShore.desc).map (fun d => d.parameters.length) = some 0 := ⟨wd_1_5, wd_10_14, by decide +kernel, by decide +kernel, by decide +kernel⟩
theorem cy_yX6_readShore : Cond.initialized yX6_readShore.cls ∈ wsL_law ∧ Cond.code yX6_readShore cX6_readShore 2 (some .boolean) ∈ wsL_law ∧ yX6_readShore.cls ≠ "java/lang/invoke/MethodHandle" ∧ yX6_readShore.cls ≠ "java/lang/invoke/VarHandle" ∧ (parseMethodDescriptor yX6_readShore.desc).map (fun d => d.parameters.length) = some 1 := ⟨wd_1_5, wd_9_13, by decide +kernel, by decide +kernel, by decide +kernel⟩
theorem cy_yX6_readPool : Cond.initialized yX6_readPool.cls ∈ wsL_law ∧ Cond.code yX6_readPool cX6_readPool 2 (some .boolean) ∈ wsL_law ∧ yX6_readPool.cls ≠ "java/lang/invoke/MethodHandle" ∧ yX6_readPool.cls ≠ "java/lang/invoke/VarHandle" ∧ (parseMethodDescriptor yX6_readPool.desc).map (fun d => d.parameters.length) = some 1 := ⟨wd_1_5, wd_10_6, by decide +kernel, by decide +kernel, by decide +kernel⟩
theorem cy_yX6_readMember : Cond.initialized yX6_readMember.cls ∈ wsL_law ∧ Cond.code yX6_readMember cX6_readMember 3 (some .boolean) ∈ wsL_law ∧ yX6_readMember.cls ≠ "java/lang/invoke/MethodHandle" ∧ yX6_readMember.cls ≠ "java/lang/invoke/VarHandle" ∧ (parseMethodDescriptor yX6_readMember.desc).map (fun d => d.parameters.length) = some 1 := ⟨wd_1_5, wd_10_10, by decide +kernel, by decide +kernel, by decide +kernel⟩
theorem cy_yX6_sitters : Cond.initialized yX6_sitters.cls ∈ wsL_law ∧ Cond.code yX6_sitters cX6_sitters 4 (some .int) ∈ wsL_law ∧ yX6_sitters.cls ≠ "java/lang/invoke/MethodHandle" ∧ yX6_sitters.cls ≠ "java/lang/invoke/VarHandle" ∧ (parseMethodDescriptor yX6_sitters.desc).map (fun d => d.parameters.length) = some 1 := ⟨wd_1_5, wd_12_14, by decide +kernel, by decide +kernel, by decide +kernel⟩
theorem cy_yX6_size : Cond.initialized yX6_size.cls ∈ wsL_law ∧ Cond.code yX6_size cX6_size 3 (some .int) ∈ wsL_law ∧ yX6_size.cls ≠ "java/lang/invoke/MethodHandle" ∧ yX6_size.cls ≠ "java/lang/invoke/VarHandle" ∧ (parseMethodDescriptor yX6_size.desc).map (fun d => d.parameters.length) = some 1 := ⟨wd_1_5, wd_12_17, by decide +kernel, by decide +kernel, by decide +kernel⟩
theorem cy_yX6_farOf : Cond.initialized yX6_farOf.cls ∈ wsL_law ∧ Cond.code yX6_farOf cX6_farOf 2 (some .int) ∈ wsL_law ∧ yX6_farOf.cls ≠ "java/lang/invoke/MethodHandle" ∧ yX6_farOf.cls ≠ "java/lang/invoke/VarHandle" ∧ (parseMethodDescriptor yX6_farOf.desc).map (fun d => d.parameters.length) = some 1 := ⟨wd_1_5, wd_13_20, by decide +kernel, by decide +kernel, by decide +kernel⟩
theorem cy_yX6_ofPool : Cond.initialized yX6_ofPool.cls ∈ wsL_law ∧ Cond.code yX6_ofPool cX6_ofPool 3 (some .int) ∈ wsL_law ∧ yX6_ofPool.cls ≠ "java/lang/invoke/MethodHandle" ∧ yX6_ofPool.cls ≠ "java/lang/invoke/VarHandle" ∧ (parseMethodDescriptor yX6_ofPool.desc).map (fun d => d.parameters.length) = some 2 := ⟨wd_1_5, wd_12_6, by decide +kernel, by decide +kernel, by decide +kernel⟩
theorem cy_yX6_ofMember : Cond.initialized yX6_ofMember.cls ∈ wsL_law ∧ Cond.code yX6_ofMember cX6_ofMember 3 (some .int) ∈ wsL_law ∧ yX6_ofMember.cls ≠ "java/lang/invoke/MethodHandle" ∧ yX6_ofMember.cls ≠ "java/lang/invoke/VarHandle" ∧ (parseMethodDescriptor yX6_ofMember.desc).map (fun d => d.parameters.length) = some 2 := ⟨wd_1_5, wd_13_12, by decide +kernel, by decide +kernel, by decide +kernel⟩
theorem cy_yX6_raise : Cond.initialized yX6_raise.cls ∈ wsL_law ∧ Cond.code yX6_raise cX6_raise 4 (some .int) ∈ wsL_law ∧ yX6_raise.cls ≠ "java/lang/invoke/MethodHandle" ∧ yX6_raise.cls ≠ "java/lang/invoke/VarHandle" ∧ (parseMethodDescriptor yX6_raise.desc).map (fun d => d.parameters.length) = some 2 := ⟨wd_1_5, wd_14_4, by decide +kernel, by decide +kernel, by decide +kernel⟩
theorem cy_yX6_sway : Cond.initialized yX6_sway.cls ∈ wsL_law ∧ Cond.code yX6_sway cX6_sway 4 (some .int) ∈ wsL_law ∧ yX6_sway.cls ≠ "java/lang/invoke/MethodHandle" ∧ yX6_sway.cls ≠ "java/lang/invoke/VarHandle" ∧ (parseMethodDescriptor yX6_sway.desc).map (fun d => d.parameters.length) = some 2 := ⟨wd_1_5, wd_14_15, by decide +kernel, by decide +kernel, by decide +kernel⟩
theorem cy_yX6_seat : Cond.initialized yX6_seat.cls ∈ wsL_law ∧ Cond.code yX6_seat cX6_seat 4 (some .int) ∈ wsL_law ∧ yX6_seat.cls ≠ "java/lang/invoke/MethodHandle" ∧ yX6_seat.cls ≠ "java/lang/invoke/VarHandle" ∧ (parseMethodDescriptor yX6_seat.desc).map (fun d => d.parameters.length) = some 2 := ⟨wd_1_5, wd_15_2, by decide +kernel, by decide +kernel, by decide +kernel⟩
theorem cy_yX6_flow : Cond.initialized yX6_flow.cls ∈ wsL_law ∧ Cond.code yX6_flow cX6_flow 3 (some .int) ∈ wsL_law ∧ yX6_flow.cls ≠ "java/lang/invoke/MethodHandle" ∧ yX6_flow.cls ≠ "java/lang/invoke/VarHandle" ∧ (parseMethodDescriptor yX6_flow.desc).map (fun d => d.parameters.length) = some 1 := ⟨wd_1_5, wd_15_19, by decide +kernel, by decide +kernel, by decide +kernel⟩
theorem cy_yX6_calm : Cond.initialized yX6_calm.cls ∈ wsL_law ∧ Cond.code yX6_calm cX6_calm 3 (some .int) ∈ wsL_law ∧ yX6_calm.cls ≠ "java/lang/invoke/MethodHandle" ∧ yX6_calm.cls ≠ "java/lang/invoke/VarHandle" ∧ (parseMethodDescriptor yX6_calm.desc).map (fun d => d.parameters.length) = some 1 := ⟨wd_1_5, wd_16_4, by decide +kernel, by decide +kernel, by decide +kernel⟩
theorem cy_yX6_leap : Cond.initialized yX6_leap.cls ∈ wsL_law ∧ Cond.code yX6_leap cX6_leap 3 (some .int) ∈ wsL_law ∧ yX6_leap.cls ≠ "java/lang/invoke/MethodHandle" ∧ yX6_leap.cls ≠ "java/lang/invoke/VarHandle" ∧ (parseMethodDescriptor yX6_leap.desc).map (fun d => d.parameters.length) = some 1 := ⟨wd_1_5, wd_16_13, by decide +kernel, by decide +kernel, by decide +kernel⟩
theorem cy_yX6_washedBy : Cond.initialized yX6_washedBy.cls ∈ wsL_law ∧ Cond.code yX6_washedBy cX6_washedBy 4 (some .int) ∈ wsL_law ∧ yX6_washedBy.cls ≠ "java/lang/invoke/MethodHandle" ∧ yX6_washedBy.cls ≠ "java/lang/invoke/VarHandle" ∧ (parseMethodDescriptor yX6_washedBy.desc).map (fun d => d.parameters.length) = some 1 := ⟨wd_1_5, wd_17_9, by decide +kernel, by decide +kernel, by decide +kernel⟩
theorem cy_yX6_carriedFrom : Cond.initialized yX6_carriedFrom.cls ∈ wsL_law ∧ Cond.code yX6_carriedFrom cX6_carriedFrom 6 (some .int) ∈ wsL_law ∧ yX6_carriedFrom.cls ≠ "java/lang/invoke/MethodHandle" ∧ yX6_carriedFrom.cls ≠ "java/lang/invoke/VarHandle" ∧ (parseMethodDescriptor yX6_carriedFrom.desc).map (fun d => d.parameters.length) = some 3 := ⟨wd_1_5, wd_18_10, by decide +kernel, by decide +kernel, by decide +kernel⟩
theorem cy_yX6_washed : Cond.initialized yX6_washed.cls ∈ wsL_law ∧ Cond.code yX6_washed cX6_washed 2 (some .int) ∈ wsL_law ∧ yX6_washed.cls ≠ "java/lang/invoke/MethodHandle" ∧ yX6_washed.cls ≠ "java/lang/invoke/VarHandle" ∧ (parseMethodDescriptor yX6_washed.desc).map (fun d => d.parameters.length) = some 1 := ⟨wd_1_5, wd_17_5, by decide +kernel, by decide +kernel, by decide +kernel⟩
theorem cy_yX6_carried : Cond.initialized yX6_carried.cls ∈ wsL_law ∧ Cond.code yX6_carried cX6_carried 3 (some .int) ∈ wsL_law ∧ yX6_carried.cls ≠ "java/lang/invoke/MethodHandle" ∧ yX6_carried.cls ≠ "java/lang/invoke/VarHandle" ∧ (parseMethodDescriptor yX6_carried.desc).map (fun d => d.parameters.length) = some 2 := ⟨wd_1_5, wd_18_6, by decide +kernel, by decide +kernel, by decide +kernel⟩
theorem cy_yX6_carryAll : Cond.initialized yX6_carryAll.cls ∈ wsL_law ∧ Cond.code yX6_carryAll cX6_carryAll 5 (some .int) ∈ wsL_law ∧ yX6_carryAll.cls ≠ "java/lang/invoke/MethodHandle" ∧ yX6_carryAll.cls ≠ "java/lang/invoke/VarHandle" ∧ (parseMethodDescriptor yX6_carryAll.desc).map (fun d => d.parameters.length) = some 1 := ⟨wd_1_5, wd_19_5, by decide +kernel, by decide +kernel, by decide +kernel⟩
theorem cy_yX6_tide : Cond.initialized yX6_tide.cls ∈ wsL_law ∧ Cond.code yX6_tide cX6_tide 2 (some .int) ∈ wsL_law ∧ yX6_tide.cls ≠ "java/lang/invoke/MethodHandle" ∧ yX6_tide.cls ≠ "java/lang/invoke/VarHandle" ∧ (parseMethodDescriptor yX6_tide.desc).map (fun d => d.parameters.length) = some 1 := ⟨wd_1_5, wd_19_1, by decide +kernel, by decide +kernel, by decide +kernel⟩
theorem cy_yX6_ayesOf : Cond.initialized yX6_ayesOf.cls ∈ wsL_law ∧ Cond.code yX6_ayesOf cX6_ayesOf 5 (some .int) ∈ wsL_law ∧ yX6_ayesOf.cls ≠ "java/lang/invoke/MethodHandle" ∧ yX6_ayesOf.cls ≠ "java/lang/invoke/VarHandle" ∧ (parseMethodDescriptor yX6_ayesOf.desc).map (fun d => d.parameters.length) = some 1 := ⟨wd_1_5, wd_20_1, by decide +kernel, by decide +kernel, by decide +kernel⟩
theorem cy_yX6_passesBy : Cond.initialized yX6_passesBy.cls ∈ wsL_law ∧ Cond.code yX6_passesBy cX6_passesBy 5 (some .int) ∈ wsL_law ∧ yX6_passesBy.cls ≠ "java/lang/invoke/MethodHandle" ∧ yX6_passesBy.cls ≠ "java/lang/invoke/VarHandle" ∧ (parseMethodDescriptor yX6_passesBy.desc).map (fun d => d.parameters.length) = some 1 := ⟨wd_1_5, wd_20_17, by decide +kernel, by decide +kernel, by decide +kernel⟩
theorem cy_yX6_occupied : Cond.initialized yX6_occupied.cls ∈ wsL_law ∧ Cond.code yX6_occupied cX6_occupied 3 (some .int) ∈ wsL_law ∧ yX6_occupied.cls ≠ "java/lang/invoke/MethodHandle" ∧ yX6_occupied.cls ≠ "java/lang/invoke/VarHandle" ∧ (parseMethodDescriptor yX6_occupied.desc).map (fun d => d.parameters.length) = some 0 := ⟨wd_1_5, wd_21_19, by decide +kernel, by decide +kernel, by decide +kernel⟩
theorem cy_yX6_isLawBy : Cond.initialized yX6_isLawBy.cls ∈ wsL_law ∧ Cond.code yX6_isLawBy cX6_isLawBy 2 (some .boolean) ∈ wsL_law ∧ yX6_isLawBy.cls ≠ "java/lang/invoke/MethodHandle" ∧ yX6_isLawBy.cls ≠ "java/lang/invoke/VarHandle" ∧ (parseMethodDescriptor yX6_isLawBy.desc).map (fun d => d.parameters.length) = some 1 := ⟨wd_1_5, wd_21_15, by decide +kernel, by decide +kernel, by decide +kernel⟩
theorem cy_yX6_ayes : Cond.initialized yX6_ayes.cls ∈ wsL_law ∧ Cond.code yX6_ayes cX6_ayes 2 (some .int) ∈ wsL_law ∧ yX6_ayes.cls ≠ "java/lang/invoke/MethodHandle" ∧ yX6_ayes.cls ≠ "java/lang/invoke/VarHandle" ∧ (parseMethodDescriptor yX6_ayes.desc).map (fun d => d.parameters.length) = some 1 := ⟨wd_1_5, wd_19_21, by decide +kernel, by decide +kernel, by decide +kernel⟩
theorem cy_yX6_passes : Cond.initialized yX6_passes.cls ∈ wsL_law ∧ Cond.code yX6_passes cX6_passes 2 (some .int) ∈ wsL_law ∧ yX6_passes.cls ≠ "java/lang/invoke/MethodHandle" ∧ yX6_passes.cls ≠ "java/lang/invoke/VarHandle" ∧ (parseMethodDescriptor yX6_passes.desc).map (fun d => d.parameters.length) = some 1 := ⟨wd_1_5, wd_20_13, by decide +kernel, by decide +kernel, by decide +kernel⟩
theorem cy_yX6_law : Cond.initialized yX6_law.cls ∈ wsL_law ∧ Cond.code yX6_law cX6_law 2 (some .int) ∈ wsL_law ∧ yX6_law.cls ≠ "java/lang/invoke/MethodHandle" ∧ yX6_law.cls ≠ "java/lang/invoke/VarHandle" ∧ (parseMethodDescriptor yX6_law.desc).map (fun d => d.parameters.length) = some 1 := ⟨wd_1_5, wd_21_11, by decide +kernel, by decide +kernel, by decide +kernel⟩
theorem cy_yX6_goYear : Cond.initialized yX6_goYear.cls ∈ wsL_law ∧ Cond.code yX6_goYear cX6_goYear 4 (some .int) ∈ wsL_law ∧ yX6_goYear.cls ≠ "java/lang/invoke/MethodHandle" ∧ yX6_goYear.cls ≠ "java/lang/invoke/VarHandle" ∧ (parseMethodDescriptor yX6_goYear.desc).map (fun d => d.parameters.length) = some 2 := ⟨wd_1_5, wd_23_16, by decide +kernel, by decide +kernel, by decide +kernel⟩
theorem cy_yX6_year : Cond.initialized yX6_year.cls ∈ wsL_law ∧ Cond.code yX6_year cX6_year 11 (some .int) ∈ wsL_law ∧ yX6_year.cls ≠ "java/lang/invoke/MethodHandle" ∧ yX6_year.cls ≠ "java/lang/invoke/VarHandle" ∧ (parseMethodDescriptor yX6_year.desc).map (fun d => d.parameters.length) = some 5 := ⟨wd_1_5, wd_23_12, by decide +kernel, by decide +kernel, by decide +kernel⟩
theorem cy_yX6_tellYear : Cond.initialized yX6_tellYear.cls ∈ wsL_law ∧ Cond.code yX6_tellYear cX6_tellYear 4 (some .int) ∈ wsL_law ∧ yX6_tellYear.cls ≠ "java/lang/invoke/MethodHandle" ∧ yX6_tellYear.cls ≠ "java/lang/invoke/VarHandle" ∧ (parseMethodDescriptor yX6_tellYear.desc).map (fun d => d.parameters.length) = some 1 := ⟨wd_1_5, wd_23_21, by decide +kernel, by decide +kernel, by decide +kernel⟩
theorem cy_yX6_best : Cond.initialized yX6_best.cls ∈ wsL_law ∧ Cond.code yX6_best cX6_best 6 (some .int) ∈ wsL_law ∧ yX6_best.cls ≠ "java/lang/invoke/MethodHandle" ∧ yX6_best.cls ≠ "java/lang/invoke/VarHandle" ∧ (parseMethodDescriptor yX6_best.desc).map (fun d => d.parameters.length) = some 1 := ⟨wd_1_5, wd_24_6, by decide +kernel, by decide +kernel, by decide +kernel⟩
theorem cy_yX6_turn : Cond.initialized yX6_turn.cls ∈ wsL_law ∧ Cond.code yX6_turn cX6_turn 5 (some .int) ∈ wsL_law ∧ yX6_turn.cls ≠ "java/lang/invoke/MethodHandle" ∧ yX6_turn.cls ≠ "java/lang/invoke/VarHandle" ∧ (parseMethodDescriptor yX6_turn.desc).map (fun d => d.parameters.length) = some 1 := ⟨wd_1_5, wd_24_18, by decide +kernel, by decide +kernel, by decide +kernel⟩
theorem cy_yX6_driftOf : Cond.initialized yX6_driftOf.cls ∈ wsL_law ∧ Cond.code yX6_driftOf cX6_driftOf 9 (some .int) ∈ wsL_law ∧ yX6_driftOf.cls ≠ "java/lang/invoke/MethodHandle" ∧ yX6_driftOf.cls ≠ "java/lang/invoke/VarHandle" ∧ (parseMethodDescriptor yX6_driftOf.desc).map (fun d => d.parameters.length) = some 3 := ⟨wd_1_5, wd_25_18, by decide +kernel, by decide +kernel, by decide +kernel⟩
theorem cy_yX6_drift : Cond.initialized yX6_drift.cls ∈ wsL_law ∧ Cond.code yX6_drift cX6_drift 11 (some .int) ∈ wsL_law ∧ yX6_drift.cls ≠ "java/lang/invoke/MethodHandle" ∧ yX6_drift.cls ≠ "java/lang/invoke/VarHandle" ∧ (parseMethodDescriptor yX6_drift.desc).map (fun d => d.parameters.length) = some 6 := ⟨wd_1_5, wd_25_14, by decide +kernel, by decide +kernel, by decide +kernel⟩
theorem cy_yX6_isLeap : Cond.initialized yX6_isLeap.cls ∈ wsL_law ∧ Cond.code yX6_isLeap cX6_isLeap 4 (some .boolean) ∈ wsL_law ∧ yX6_isLeap.cls ≠ "java/lang/invoke/MethodHandle" ∧ yX6_isLeap.cls ≠ "java/lang/invoke/VarHandle" ∧ (parseMethodDescriptor yX6_isLeap.desc).map (fun d => d.parameters.length) = some 2 := ⟨wd_1_5, wd_27_22, by decide +kernel, by decide +kernel, by decide +kernel⟩
theorem cy_yX6_findLeaps : Cond.initialized yX6_findLeaps.cls ∈ wsL_law ∧ Cond.code yX6_findLeaps cX6_findLeaps 5 none ∈ wsL_law ∧ yX6_findLeaps.cls ≠ "java/lang/invoke/MethodHandle" ∧ yX6_findLeaps.cls ≠ "java/lang/invoke/VarHandle" ∧ (parseMethodDescriptor yX6_findLeaps.desc).map (fun d => d.parameters.length) = some 1 := ⟨wd_1_5, wd_27_18, by decide +kernel, by decide +kernel, by decide +kernel⟩
theorem cy_yX6_nextLeap : Cond.initialized yX6_nextLeap.cls ∈ wsL_law ∧ Cond.code yX6_nextLeap cX6_nextLeap 3 (some .int) ∈ wsL_law ∧ yX6_nextLeap.cls ≠ "java/lang/invoke/MethodHandle" ∧ yX6_nextLeap.cls ≠ "java/lang/invoke/VarHandle" ∧ (parseMethodDescriptor yX6_nextLeap.desc).map (fun d => d.parameters.length) = some 1 := ⟨wd_1_5, wd_28_2, by decide +kernel, by decide +kernel, by decide +kernel⟩
theorem cy_yX6_leaps : Cond.initialized yX6_leaps.cls ∈ wsL_law ∧ Cond.code yX6_leaps cX6_leaps 6 (some .int) ∈ wsL_law ∧ yX6_leaps.cls ≠ "java/lang/invoke/MethodHandle" ∧ yX6_leaps.cls ≠ "java/lang/invoke/VarHandle" ∧ (parseMethodDescriptor yX6_leaps.desc).map (fun d => d.parameters.length) = some 3 := ⟨wd_1_5, wd_27_14, by decide +kernel, by decide +kernel, by decide +kernel⟩
theorem cy_yX6_findTides : Cond.initialized yX6_findTides.cls ∈ wsL_law ∧ Cond.code yX6_findTides cX6_findTides 6 none ∈ wsL_law ∧ yX6_findTides.cls ≠ "java/lang/invoke/MethodHandle" ∧ yX6_findTides.cls ≠ "java/lang/invoke/VarHandle" ∧ (parseMethodDescriptor yX6_findTides.desc).map (fun d => d.parameters.length) = some 2 := ⟨wd_1_5, wd_28_19, by decide +kernel, by decide +kernel, by decide +kernel⟩
theorem cy_yX6_nextTide : Cond.initialized yX6_nextTide.cls ∈ wsL_law ∧ Cond.code yX6_nextTide cX6_nextTide 4 (some .int) ∈ wsL_law ∧ yX6_nextTide.cls ≠ "java/lang/invoke/MethodHandle" ∧ yX6_nextTide.cls ≠ "java/lang/invoke/VarHandle" ∧ (parseMethodDescriptor yX6_nextTide.desc).map (fun d => d.parameters.length) = some 2 := ⟨wd_1_5, wd_28_23, by decide +kernel, by decide +kernel, by decide +kernel⟩
theorem cy_yX6_elect : Cond.initialized yX6_elect.cls ∈ wsL_law ∧ Cond.code yX6_elect cX6_elect 8 (some .int) ∈ wsL_law ∧ yX6_elect.cls ≠ "java/lang/invoke/MethodHandle" ∧ yX6_elect.cls ≠ "java/lang/invoke/VarHandle" ∧ (parseMethodDescriptor yX6_elect.desc).map (fun d => d.parameters.length) = some 3 := ⟨wd_1_5, wd_28_15, by decide +kernel, by decide +kernel, by decide +kernel⟩
theorem cy_yX6_reading : Cond.initialized yX6_reading.cls ∈ wsL_law ∧ Cond.code yX6_reading cX6_reading 4 (some .int) ∈ wsL_law ∧ yX6_reading.cls ≠ "java/lang/invoke/MethodHandle" ∧ yX6_reading.cls ≠ "java/lang/invoke/VarHandle" ∧ (parseMethodDescriptor yX6_reading.desc).map (fun d => d.parameters.length) = some 3 := ⟨wd_1_5, wd_29_12, by decide +kernel, by decide +kernel, by decide +kernel⟩
theorem cy_yX6_back : Cond.initialized yX6_back.cls ∈ wsL_law ∧ Cond.code yX6_back cX6_back 2 (some .int) ∈ wsL_law ∧ yX6_back.cls ≠ "java/lang/invoke/MethodHandle" ∧ yX6_back.cls ≠ "java/lang/invoke/VarHandle" ∧ (parseMethodDescriptor yX6_back.desc).map (fun d => d.parameters.length) = some 1 := ⟨wd_1_5, wd_29_20, by decide +kernel, by decide +kernel, by decide +kernel⟩
theorem cy_yX6_areSo : Cond.initialized yX6_areSo.cls ∈ wsL_law ∧ Cond.code yX6_areSo cX6_areSo 3 (some .boolean) ∈ wsL_law ∧ yX6_areSo.cls ≠ "java/lang/invoke/MethodHandle" ∧ yX6_areSo.cls ≠ "java/lang/invoke/VarHandle" ∧ (parseMethodDescriptor yX6_areSo.desc).map (fun d => d.parameters.length) = some 0 := ⟨wd_1_5, wd_30_13, by decide +kernel, by decide +kernel, by decide +kernel⟩
theorem cy_yX6_heights : Cond.initialized yX6_heights.cls ∈ wsL_law ∧ Cond.code yX6_heights cX6_heights 5 (some .int) ∈ wsL_law ∧ yX6_heights.cls ≠ "java/lang/invoke/MethodHandle" ∧ yX6_heights.cls ≠ "java/lang/invoke/VarHandle" ∧ (parseMethodDescriptor yX6_heights.desc).map (fun d => d.parameters.length) = some 1 := ⟨wd_1_5, wd_30_9, by decide +kernel, by decide +kernel, by decide +kernel⟩
theorem cy_yX6_kinds : Cond.initialized yX6_kinds.cls ∈ wsL_law ∧ Cond.code yX6_kinds cX6_kinds 5 (some .int) ∈ wsL_law ∧ yX6_kinds.cls ≠ "java/lang/invoke/MethodHandle" ∧ yX6_kinds.cls ≠ "java/lang/invoke/VarHandle" ∧ (parseMethodDescriptor yX6_kinds.desc).map (fun d => d.parameters.length) = some 1 := ⟨wd_1_5, wd_30_21, by decide +kernel, by decide +kernel, by decide +kernel⟩
theorem cy_yX6_streams : Cond.initialized yX6_streams.cls ∈ wsL_law ∧ Cond.code yX6_streams cX6_streams 4 (some .int) ∈ wsL_law ∧ yX6_streams.cls ≠ "java/lang/invoke/MethodHandle" ∧ yX6_streams.cls ≠ "java/lang/invoke/VarHandle" ∧ (parseMethodDescriptor yX6_streams.desc).map (fun d => d.parameters.length) = some 0 := ⟨wd_1_5, wd_31_5, by decide +kernel, by decide +kernel, by decide +kernel⟩
theorem cy_yX6_inLeastTerms : Cond.initialized yX6_inLeastTerms.cls ∈ wsL_law ∧ Cond.code yX6_inLeastTerms cX6_inLeastTerms 11 (some .long) ∈ wsL_law ∧ yX6_inLeastTerms.cls ≠ "java/lang/invoke/MethodHandle" ∧ yX6_inLeastTerms.cls ≠ "java/lang/invoke/VarHandle" ∧ (parseMethodDescriptor yX6_inLeastTerms.desc).map (fun d => d.parameters.length) = some 3 := ⟨wd_1_5, wd_32_2, by decide +kernel, by decide +kernel, by decide +kernel⟩
theorem cy_yX6_odds : Cond.initialized yX6_odds.cls ∈ wsL_law ∧ Cond.code yX6_odds cX6_odds 8 (some .long) ∈ wsL_law ∧ yX6_odds.cls ≠ "java/lang/invoke/MethodHandle" ∧ yX6_odds.cls ≠ "java/lang/invoke/VarHandle" ∧ (parseMethodDescriptor yX6_odds.desc).map (fun d => d.parameters.length) = some 3 := ⟨wd_1_5, wd_31_21, by decide +kernel, by decide +kernel, by decide +kernel⟩
theorem cy_yX6_sheet : Cond.initialized yX6_sheet.cls ∈ wsL_law ∧ Cond.code yX6_sheet cX6_sheet 5 (some .int) ∈ wsL_law ∧ yX6_sheet.cls ≠ "java/lang/invoke/MethodHandle" ∧ yX6_sheet.cls ≠ "java/lang/invoke/VarHandle" ∧ (parseMethodDescriptor yX6_sheet.desc).map (fun d => d.parameters.length) = some 3 := ⟨wd_1_5, wd_32_16, by decide +kernel, by decide +kernel, by decide +kernel⟩
theorem cy_yX6_lose : Cond.initialized yX6_lose.cls ∈ wsL_law ∧ Cond.code yX6_lose cX6_lose 3 (some .int) ∈ wsL_law ∧ yX6_lose.cls ≠ "java/lang/invoke/MethodHandle" ∧ yX6_lose.cls ≠ "java/lang/invoke/VarHandle" ∧ (parseMethodDescriptor yX6_lose.desc).map (fun d => d.parameters.length) = some 1 := ⟨wd_1_5, wd_33_0, by decide +kernel, by decide +kernel, by decide +kernel⟩
theorem cy_yX6_put : Cond.initialized yX6_put.cls ∈ wsL_law ∧ Cond.code yX6_put cX6_put 4 (some .int) ∈ wsL_law ∧ yX6_put.cls ≠ "java/lang/invoke/MethodHandle" ∧ yX6_put.cls ≠ "java/lang/invoke/VarHandle" ∧ (parseMethodDescriptor yX6_put.desc).map (fun d => d.parameters.length) = some 3 := ⟨wd_1_5, wd_33_12, by decide +kernel, by decide +kernel, by decide +kernel⟩
theorem cy_yX6_cell : Cond.initialized yX6_cell.cls ∈ wsL_law ∧ Cond.code yX6_cell cX6_cell 4 (some .long) ∈ wsL_law ∧ yX6_cell.cls ≠ "java/lang/invoke/MethodHandle" ∧ yX6_cell.cls ≠ "java/lang/invoke/VarHandle" ∧ (parseMethodDescriptor yX6_cell.desc).map (fun d => d.parameters.length) = some 3 := ⟨wd_1_5, wd_33_20, by decide +kernel, by decide +kernel, by decide +kernel⟩
theorem cy_yX6_copy : Cond.initialized yX6_copy.cls ∈ wsL_law ∧ Cond.code yX6_copy cX6_copy 10 (some .int) ∈ wsL_law ∧ yX6_copy.cls ≠ "java/lang/invoke/MethodHandle" ∧ yX6_copy.cls ≠ "java/lang/invoke/VarHandle" ∧ (parseMethodDescriptor yX6_copy.desc).map (fun d => d.parameters.length) = some 5 := ⟨wd_1_5, wd_34_12, by decide +kernel, by decide +kernel, by decide +kernel⟩
theorem cy_yX6_begins : Cond.initialized yX6_begins.cls ∈ wsL_law ∧ Cond.code yX6_begins cX6_begins 2 none ∈ wsL_law ∧ yX6_begins.cls ≠ "java/lang/invoke/MethodHandle" ∧ yX6_begins.cls ≠ "java/lang/invoke/VarHandle" ∧ (parseMethodDescriptor yX6_begins.desc).map (fun d => d.parameters.length) = some 1 := ⟨wd_1_5, wd_35_17, by decide +kernel, by decide +kernel, by decide +kernel⟩
theorem cy_yX6_tell : Cond.initialized yX6_tell.cls ∈ wsL_law ∧ Cond.code yX6_tell cX6_tell 3 (some .int) ∈ wsL_law ∧ yX6_tell.cls ≠ "java/lang/invoke/MethodHandle" ∧ yX6_tell.cls ≠ "java/lang/invoke/VarHandle" ∧ (parseMethodDescriptor yX6_tell.desc).map (fun d => d.parameters.length) = some 1 := ⟨wd_1_5, wd_35_13, by decide +kernel, by decide +kernel, by decide +kernel⟩
theorem cy_yX6_name : Cond.initialized yX6_name.cls ∈ wsL_law ∧ Cond.code yX6_name cX6_name 2 (some .int) ∈ wsL_law ∧ yX6_name.cls ≠ "java/lang/invoke/MethodHandle" ∧ yX6_name.cls ≠ "java/lang/invoke/VarHandle" ∧ (parseMethodDescriptor yX6_name.desc).map (fun d => d.parameters.length) = some 1 := ⟨wd_1_5, wd_36_2, by decide +kernel, by decide +kernel, by decide +kernel⟩
theorem cy_yX6_as : Cond.initialized yX6_as.cls ∈ wsL_law ∧ Cond.code yX6_as cX6_as 3 (some .int) ∈ wsL_law ∧ yX6_as.cls ≠ "java/lang/invoke/MethodHandle" ∧ yX6_as.cls ≠ "java/lang/invoke/VarHandle" ∧ (parseMethodDescriptor yX6_as.desc).map (fun d => d.parameters.length) = some 2 := ⟨wd_1_5, wd_36_10, by decide +kernel, by decide +kernel, by decide +kernel⟩
theorem cy_yX6_trace : Cond.initialized yX6_trace.cls ∈ wsL_law ∧ Cond.code yX6_trace cX6_trace 1 (some .int) ∈ wsL_law ∧ yX6_trace.cls ≠ "java/lang/invoke/MethodHandle" ∧ yX6_trace.cls ≠ "java/lang/invoke/VarHandle" ∧ (parseMethodDescriptor yX6_trace.desc).map (fun d => d.parameters.length) = some 0 := ⟨wd_1_5, wd_36_18, by decide +kernel, by decide +kernel, by decide +kernel⟩
theorem cy_yX6_fault : Cond.initialized yX6_fault.cls ∈ wsL_law ∧ Cond.code yX6_fault cX6_fault 1 (some .int) ∈ wsL_law ∧ yX6_fault.cls ≠ "java/lang/invoke/MethodHandle" ∧ yX6_fault.cls ≠ "java/lang/invoke/VarHandle" ∧ (parseMethodDescriptor yX6_fault.desc).map (fun d => d.parameters.length) = some 0 := ⟨wd_1_5, wd_37_2, by decide +kernel, by decide +kernel, by decide +kernel⟩
theorem cy_yX6_many : Cond.initialized yX6_many.cls ∈ wsL_law ∧ Cond.code yX6_many cX6_many 2 (some .int) ∈ wsL_law ∧ yX6_many.cls ≠ "java/lang/invoke/MethodHandle" ∧ yX6_many.cls ≠ "java/lang/invoke/VarHandle" ∧ (parseMethodDescriptor yX6_many.desc).map (fun d => d.parameters.length) = some 1 := ⟨wd_1_5, wd_37_10, by decide +kernel, by decide +kernel, by decide +kernel⟩
theorem cy_yJ6_bitCount_0f7a4 : Cond.initialized yJ6_bitCount_0f7a4.cls ∈ wsL_law ∧ Cond.code yJ6_bitCount_0f7a4 cJ6_bitCount_0f7a4 1 (some .int) ∈ wsL_law ∧ yJ6_bitCount_0f7a4.cls ≠ "java/lang/invoke/MethodHandle" ∧ yJ6_bitCount_0f7a4.cls ≠ "java/lang/invoke/VarHandle" ∧ (parseMethodDescriptor yJ6_bitCount_0f7a4.desc).map (fun d => d.parameters.length) = some 1 := ⟨wd_11_22, wd_11_23, by decide +kernel, by decide +kernel, by decide +kernel⟩
theorem cw_RL_9 : CWB RL 9 yX5_init cX5_init 2 none 0 := ⟨wd_1_6, cy_yX5_init⟩
theorem cw_RL_12 : CWB RL 12 yX6_init cX6_init 1 none 0 := ⟨wd_3_14, cy_yX6_init⟩
theorem cw_RL_13 : CWB RL 13 yX5_shore cX5_shore 6 (some .int) 4 := ⟨wd_4_12, cy_yX5_shore⟩
theorem cw_RX5_53 : CWB RX5 53 yX5_isSheet cX5_isSheet 1 (some .boolean) 1 := ⟨wd_4_19, cy_yX5_isSheet⟩
theorem cw_RX5_120 : CWB RX5 120 yX5_isWithin cX5_isWithin 3 (some .boolean) 3 := ⟨wd_4_22, cy_yX5_isWithin⟩
theorem cw_RX5_57 : CWB RX5 57 yX5_isLane cX5_isLane 1 (some .boolean) 1 := ⟨wd_5_1, cy_yX5_isLane⟩
theorem cw_RX5_60 : CWB RX5 60 yX5_rowFault cX5_rowFault 4 (some .int) 4 := ⟨wd_5_4, cy_yX5_rowFault⟩
theorem cw_RX5_273 : CWB RX5 273 yX3_has cX3_has 3 (some .boolean) 2 := ⟨wd_5_9, cy_yX3_has⟩
theorem cw_RX5_64 : CWB RX5 64 yX5_faulted cX5_faulted 2 (some .int) 1 := ⟨wd_5_14, cy_yX5_faulted⟩
theorem cw_RX5_68 : CWB RX5 68 yX0_begin cX0_begin 4 none 3 := ⟨wd_5_18, cy_yX0_begin⟩
theorem cw_RX5_72 : CWB RX5 72 yX4_readsAll cX4_readsAll 2 (some .boolean) 1 := ⟨wd_6_2, cy_yX4_readsAll⟩
theorem cw_RX4_43 : CWB RX4 43 yX4_readsHead cX4_readsHead 2 (some .boolean) 1 := ⟨wd_6_6, cy_yX4_readsHead⟩
theorem cw_RX4_59 : CWB RX4 59 yX0_takes cX0_takes 2 (some .boolean) 1 := ⟨wd_6_13, cy_yX0_takes⟩
theorem cw_RX0_25 : CWB RX0 25 yX0_isAtEnd cX0_isAtEnd 1 (some .boolean) 0 := ⟨wd_6_18, cy_yX0_isAtEnd⟩
theorem cw_RX4_63 : CWB RX4 63 yX0_digit cX0_digit 4 (some .int) 2 := ⟨wd_6_22, cy_yX0_digit⟩
theorem cw_RX4_47 : CWB RX4 47 yX4_readsPools cX4_readsPools 2 (some .boolean) 1 := ⟨wd_7_2, cy_yX4_readsPools⟩
theorem cw_RX4_67 : CWB RX4 67 yX4_readsPool cX4_readsPool 2 (some .boolean) 1 := ⟨wd_7_7, cy_yX4_readsPool⟩
theorem cw_RX4_50 : CWB RX4 50 yX4_readsMembers cX4_readsMembers 2 (some .boolean) 1 := ⟨wd_7_11, cy_yX4_readsMembers⟩
theorem cw_RX4_70 : CWB RX4 70 yX4_readsMember cX4_readsMember 2 (some .boolean) 1 := ⟨wd_7_16, cy_yX4_readsMember⟩
theorem cw_RX4_73 : CWB RX4 73 yX0_kind cX0_kind 1 (some .int) 0 := ⟨wd_7_20, cy_yX0_kind⟩
theorem cw_RX0_39 : CWB RX0 39 yX0_takes cX0_takes 2 (some .boolean) 1 := ⟨wd_8_0, cy_yX0_takes⟩
theorem cw_RX4_53 : CWB RX4 53 yX0_isAtEnd cX0_isAtEnd 1 (some .boolean) 0 := ⟨wd_8_1, cy_yX0_isAtEnd⟩
theorem cw_RX5_76 : CWB RX5 76 yX0_place cX0_place 1 (some .int) 0 := ⟨wd_8_2, cy_yX0_place⟩
theorem cw_RX5_80 : CWB RX5 80 yX5_swapShores cX5_swapShores 2 none 0 := ⟨wd_8_6, cy_yX5_swapShores⟩
theorem cw_RL_17 : CWB RL 17 yX6_shore cX6_shore 7 (some .int) 4 := ⟨wd_8_10, cy_yX6_shore⟩
theorem cw_RX6_83 : CWB RX6 83 yX6_isSheet cX6_isSheet 1 (some .boolean) 1 := ⟨wd_8_17, cy_yX6_isSheet⟩
theorem cw_RX6_70 : CWB RX6 70 yX6_within cX6_within 3 (some .boolean) 3 := ⟨wd_8_20, cy_yX6_within⟩
theorem cw_RX6_87 : CWB RX6 87 yX6_isSort cX6_isSort 1 (some .boolean) 1 := ⟨wd_8_23, cy_yX6_isSort⟩
theorem cw_RX6_90 : CWB RX6 90 yX6_against cX6_against 5 (some .int) 4 := ⟨wd_9_2, cy_yX6_against⟩
theorem cw_RX6_94 : CWB RX6 94 yX6_fails cX6_fails 2 (some .int) 1 := ⟨wd_9_6, cy_yX6_fails⟩
theorem cw_RX6_98 : CWB RX6 98 yX6_readShore cX6_readShore 2 (some .boolean) 1 := ⟨wd_9_10, cy_yX6_readShore⟩
theorem cw_RX6_131 : CWB RX6 131 yX6_isSign cX6_isSign 3 (some .boolean) 2 := ⟨wd_9_19, cy_yX6_isSign⟩
theorem cw_RX6_135 : CWB RX6 135 yX6_digit cX6_digit 4 (some .int) 3 := ⟨wd_9_23, cy_yX6_digit⟩
theorem cw_RX6_139 : CWB RX6 139 yX6_readPool cX6_readPool 2 (some .boolean) 1 := ⟨wd_10_3, cy_yX6_readPool⟩
theorem cw_RX6_142 : CWB RX6 142 yX6_readMember cX6_readMember 3 (some .boolean) 1 := ⟨wd_10_7, cy_yX6_readMember⟩
theorem cw_RX6_101 : CWB RX6 101 yX6_takeShore cX6_takeShore 2 none 0 := ⟨wd_10_11, cy_yX6_takeShore⟩
theorem cw_RL_18 : CWB RL 18 yX5_ofPool cX5_ofPool 3 (some .int) 2 := ⟨wd_10_20, cy_yX5_ofPool⟩
theorem cw_RX5_89 : CWB RX5 89 yX5_isPool cX5_isPool 2 (some .boolean) 1 := ⟨wd_11_2, cy_yX5_isPool⟩
theorem cw_RX5_99 : CWB RX5 99 yX4_sittersOf cX4_sittersOf 4 (some .int) 1 := ⟨wd_11_7, cy_yX4_sittersOf⟩
theorem cw_RX5_102 : CWB RX5 102 yX4_spanOf cX4_spanOf 2 (some .int) 1 := ⟨wd_11_11, cy_yX4_spanOf⟩
theorem cw_RX4_86 : CWB RX4 86 yX4_sittersIn cX4_sittersIn 2 (some .int) 1 := ⟨wd_11_15, cy_yX4_sittersIn⟩
theorem cw_RX4_77 : CWB RX4 77 yX4_sittersOf cX4_sittersOf 4 (some .int) 1 := ⟨wd_11_19, cy_yX4_sittersOf⟩
theorem cw_RX4_81 : CWB RX4 81 yJ6_bitCount_0f7a4 cJ6_bitCount_0f7a4 1 (some .int) 1 := ⟨wd_11_20, cy_yJ6_bitCount_0f7a4⟩
theorem cw_RL_22 : CWB RL 22 yX6_ofPool cX6_ofPool 3 (some .int) 2 := ⟨wd_12_3, cy_yX6_ofPool⟩
theorem cw_RX6_145 : CWB RX6 145 yX6_isPool cX6_isPool 2 (some .boolean) 1 := ⟨wd_12_7, cy_yX6_isPool⟩
theorem cw_RX6_148 : CWB RX6 148 yX6_sitters cX6_sitters 4 (some .int) 1 := ⟨wd_12_11, cy_yX6_sitters⟩
theorem cw_RX6_151 : CWB RX6 151 yX6_size cX6_size 3 (some .int) 1 := ⟨wd_12_15, cy_yX6_size⟩
theorem cw_RL_23 : CWB RL 23 yX5_ofMember cX5_ofMember 3 (some .int) 2 := ⟨wd_12_18, cy_yX5_ofMember⟩
theorem cw_RX5_105 : CWB RX5 105 yX5_isMember cX5_isMember 2 (some .boolean) 1 := ⟨wd_13_1, cy_yX5_isMember⟩
theorem cw_RX5_117 : CWB RX5 117 yX4_stepsOf cX4_stepsOf 2 (some .int) 1 := ⟨wd_13_5, cy_yX4_stepsOf⟩
theorem cw_RL_26 : CWB RL 26 yX6_ofMember cX6_ofMember 3 (some .int) 2 := ⟨wd_13_9, cy_yX6_ofMember⟩
theorem cw_RX6_154 : CWB RX6 154 yX6_isMember cX6_isMember 2 (some .boolean) 1 := ⟨wd_13_13, cy_yX6_isMember⟩
theorem cw_RX6_157 : CWB RX6 157 yX6_farOf cX6_farOf 2 (some .int) 1 := ⟨wd_13_17, cy_yX6_farOf⟩
theorem cw_RL_27 : CWB RL 27 yX5_raise cX5_raise 4 (some .int) 2 := ⟨wd_13_21, cy_yX5_raise⟩
theorem cw_RL_30 : CWB RL 30 yX6_raise cX6_raise 4 (some .int) 2 := ⟨wd_14_1, cy_yX6_raise⟩
theorem cw_RL_31 : CWB RL 31 yX5_sway cX5_sway 4 (some .int) 2 := ⟨wd_14_5, cy_yX5_sway⟩
theorem cw_RX5_124 : CWB RX5 124 yX5_isDigit cX5_isDigit 1 (some .boolean) 1 := ⟨wd_14_9, cy_yX5_isDigit⟩
theorem cw_RL_34 : CWB RL 34 yX6_sway cX6_sway 4 (some .int) 2 := ⟨wd_14_12, cy_yX6_sway⟩
theorem cw_RX6_160 : CWB RX6 160 yX6_isDigit cX6_isDigit 1 (some .boolean) 1 := ⟨wd_14_16, cy_yX6_isDigit⟩
theorem cw_RL_35 : CWB RL 35 yX5_seat cX5_seat 4 (some .int) 2 := ⟨wd_14_19, cy_yX5_seat⟩
theorem cw_RL_38 : CWB RL 38 yX6_seat cX6_seat 4 (some .int) 2 := ⟨wd_14_23, cy_yX6_seat⟩
theorem cw_RL_39 : CWB RL 39 yX5_flow cX5_flow 4 (some .int) 1 := ⟨wd_15_3, cy_yX5_flow⟩
theorem cw_RX5_127 : CWB RX5 127 yX5_refusalUnless cX5_refusalUnless 2 (some .int) 1 := ⟨wd_15_8, cy_yX5_refusalUnless⟩
theorem cw_RX5_254 : CWB RX5 254 yX5_hasShore cX5_hasShore 1 (some .boolean) 0 := ⟨wd_15_12, cy_yX5_hasShore⟩
theorem cw_RL_43 : CWB RL 43 yX6_flow cX6_flow 3 (some .int) 1 := ⟨wd_15_16, cy_yX6_flow⟩
theorem cw_RL_44 : CWB RL 44 yX5_calm cX5_calm 4 (some .int) 1 := ⟨wd_15_20, cy_yX5_calm⟩
theorem cw_RL_47 : CWB RL 47 yX6_calm cX6_calm 3 (some .int) 1 := ⟨wd_16_1, cy_yX6_calm⟩
theorem cw_RL_48 : CWB RL 48 yX5_leap cX5_leap 4 (some .int) 1 := ⟨wd_16_5, cy_yX5_leap⟩
theorem cw_RL_51 : CWB RL 51 yX6_leap cX6_leap 3 (some .int) 1 := ⟨wd_16_10, cy_yX6_leap⟩
theorem cw_RL_52 : CWB RL 52 yX5_washed cX5_washed 3 (some .int) 1 := ⟨wd_16_14, cy_yX5_washed⟩
theorem cw_RX5_140 : CWB RX5 140 yX4_washedBy cX4_washedBy 4 (some .int) 1 := ⟨wd_16_18, cy_yX4_washedBy⟩
theorem cw_RX4_93 : CWB RX4 93 yX4_isWashed cX4_isWashed 3 (some .boolean) 2 := ⟨wd_16_22, cy_yX4_isWashed⟩
theorem cw_RL_55 : CWB RL 55 yX6_washed cX6_washed 2 (some .int) 1 := ⟨wd_17_2, cy_yX6_washed⟩
theorem cw_RX6_163 : CWB RX6 163 yX6_washedBy cX6_washedBy 4 (some .int) 1 := ⟨wd_17_6, cy_yX6_washedBy⟩
theorem cw_RL_56 : CWB RL 56 yX5_carried cX5_carried 3 (some .int) 2 := ⟨wd_17_10, cy_yX5_carried⟩
theorem cw_RX5_143 : CWB RX5 143 yX4_seatBehind cX4_seatBehind 3 (some .int) 2 := ⟨wd_17_14, cy_yX4_seatBehind⟩
theorem cw_RX4_103 : CWB RX4 103 yX4_poolBehind cX4_poolBehind 6 (some .int) 3 := ⟨wd_17_18, cy_yX4_poolBehind⟩
theorem cw_RX4_97 : CWB RX4 97 yX4_stepsOf cX4_stepsOf 2 (some .int) 1 := ⟨wd_17_22, cy_yX4_stepsOf⟩
theorem cw_RX4_100 : CWB RX4 100 yX4_nextWashed cX4_nextWashed 5 (some .int) 2 := ⟨wd_17_23, cy_yX4_nextWashed⟩
theorem cw_RL_59 : CWB RL 59 yX6_carried cX6_carried 3 (some .int) 2 := ⟨wd_18_3, cy_yX6_carried⟩
theorem cw_RX6_166 : CWB RX6 166 yX6_carriedFrom cX6_carriedFrom 6 (some .int) 3 := ⟨wd_18_7, cy_yX6_carriedFrom⟩
theorem cw_RL_60 : CWB RL 60 yX5_tide cX5_tide 3 (some .int) 1 := ⟨wd_18_11, cy_yX5_tide⟩
theorem cw_RX5_147 : CWB RX5 147 yX4_carryAll cX4_carryAll 5 (some .int) 1 := ⟨wd_18_15, cy_yX4_carryAll⟩
theorem cw_RX4_107 : CWB RX4 107 yX4_seatBehind cX4_seatBehind 3 (some .int) 2 := ⟨wd_18_19, cy_yX4_seatBehind⟩
theorem cw_RL_63 : CWB RL 63 yX6_tide cX6_tide 2 (some .int) 1 := ⟨wd_18_22, cy_yX6_tide⟩
theorem cw_RX6_169 : CWB RX6 169 yX6_carryAll cX6_carryAll 5 (some .int) 1 := ⟨wd_19_2, cy_yX6_carryAll⟩
theorem cw_RL_64 : CWB RL 64 yX5_ayes cX5_ayes 3 (some .int) 1 := ⟨wd_19_6, cy_yX5_ayes⟩
theorem cw_RX5_150 : CWB RX5 150 yX4_friendsOf cX4_friendsOf 4 (some .int) 1 := ⟨wd_19_10, cy_yX4_friendsOf⟩
theorem cw_RL_67 : CWB RL 67 yX6_ayes cX6_ayes 2 (some .int) 1 := ⟨wd_19_18, cy_yX6_ayes⟩
theorem cw_RX6_179 : CWB RX6 179 yX6_ayesOf cX6_ayesOf 5 (some .int) 1 := ⟨wd_19_22, cy_yX6_ayesOf⟩
theorem cw_RL_68 : CWB RL 68 yX5_passes cX5_passes 3 (some .int) 1 := ⟨wd_20_2, cy_yX5_passes⟩
theorem cw_RX5_153 : CWB RX5 153 yX4_poolsWon cX4_poolsWon 5 (some .int) 1 := ⟨wd_20_6, cy_yX4_poolsWon⟩
theorem cw_RL_71 : CWB RL 71 yX6_passes cX6_passes 2 (some .int) 1 := ⟨wd_20_10, cy_yX6_passes⟩
theorem cw_RX6_172 : CWB RX6 172 yX6_passesBy cX6_passesBy 5 (some .int) 1 := ⟨wd_20_14, cy_yX6_passesBy⟩
theorem cw_RL_72 : CWB RL 72 yX5_law cX5_law 3 (some .int) 1 := ⟨wd_20_18, cy_yX5_law⟩
theorem cw_RX5_156 : CWB RX5 156 yX4_isLawBy cX4_isLawBy 2 (some .boolean) 1 := ⟨wd_20_22, cy_yX4_isLawBy⟩
theorem cw_RX4_115 : CWB RX4 115 yX4_poolsWon cX4_poolsWon 5 (some .int) 1 := ⟨wd_21_2, cy_yX4_poolsWon⟩
theorem cw_RX4_118 : CWB RX4 118 yX4_poolsSatIn cX4_poolsSatIn 3 (some .int) 0 := ⟨wd_21_3, cy_yX4_poolsSatIn⟩
theorem cw_RX5_159 : CWB RX5 159 yX5_oneIf cX5_oneIf 1 (some .int) 1 := ⟨wd_21_7, cy_yX5_oneIf⟩
theorem cw_RL_75 : CWB RL 75 yX6_law cX6_law 2 (some .int) 1 := ⟨wd_21_8, cy_yX6_law⟩
theorem cw_RX6_182 : CWB RX6 182 yX6_isLawBy cX6_isLawBy 2 (some .boolean) 1 := ⟨wd_21_12, cy_yX6_isLawBy⟩
theorem cw_RX6_175 : CWB RX6 175 yX6_occupied cX6_occupied 3 (some .int) 0 := ⟨wd_21_16, cy_yX6_occupied⟩
theorem cw_RL_76 : CWB RL 76 yX5_year cX5_year 7 (some .int) 5 := ⟨wd_21_20, cy_yX5_year⟩
theorem cw_RX5_162 : CWB RX5 162 yX5_isToldOfYears cX5_isToldOfYears 1 (some .boolean) 1 := ⟨wd_22_0, cy_yX5_isToldOfYears⟩
theorem cw_RX5_165 : CWB RX5 165 yX5_refusalOfRow cX5_refusalOfRow 7 (some .int) 5 := ⟨wd_22_3, cy_yX5_refusalOfRow⟩
theorem cw_RX5_169 : CWB RX5 169 yX3_areWithin cX3_areWithin 5 (some .boolean) 3 := ⟨wd_22_7, cy_yX3_areWithin⟩
theorem cw_RX5_172 : CWB RX5 172 yX5_yearTold cX5_yearTold 8 (some .int) 4 := ⟨wd_22_11, cy_yX5_yearTold⟩
theorem cw_RX5_175 : CWB RX5 175 yX5_firstWrong cX5_firstWrong 5 (some .int) 3 := ⟨wd_22_16, cy_yX5_firstWrong⟩
theorem cw_RX5_179 : CWB RX5 179 yX4_become cX4_become 3 none 1 := ⟨wd_22_20, cy_yX4_become⟩
theorem cw_RX5_186 : CWB RX5 186 yX5_endOfYear cX5_endOfYear 3 (some .int) 1 := ⟨wd_23_0, cy_yX5_endOfYear⟩
theorem cw_RX5_189 : CWB RX5 189 yX4_poolsSatIn cX4_poolsSatIn 3 (some .int) 0 := ⟨wd_23_4, cy_yX4_poolsSatIn⟩
theorem cw_RX5_192 : CWB RX5 192 yX4_fullestPool cX4_fullestPool 3 (some .int) 0 := ⟨wd_23_5, cy_yX4_fullestPool⟩
theorem cw_RL_80 : CWB RL 80 yX6_year cX6_year 11 (some .int) 5 := ⟨wd_23_9, cy_yX6_year⟩
theorem cw_RX6_188 : CWB RX6 188 yX6_goYear cX6_goYear 4 (some .int) 2 := ⟨wd_23_13, cy_yX6_goYear⟩
theorem cw_RX6_192 : CWB RX6 192 yX6_tellYear cX6_tellYear 4 (some .int) 1 := ⟨wd_23_18, cy_yX6_tellYear⟩
theorem cw_RL_81 : CWB RL 81 yX5_best cX5_best 7 (some .int) 1 := ⟨wd_23_22, cy_yX5_best⟩
theorem cw_RX5_195 : CWB RX5 195 yJ6_bitCount_0f7a4 cJ6_bitCount_0f7a4 1 (some .int) 1 := ⟨wd_24_2, cy_yJ6_bitCount_0f7a4⟩
theorem cw_RL_84 : CWB RL 84 yX6_best cX6_best 6 (some .int) 1 := ⟨wd_24_3, cy_yX6_best⟩
theorem cw_RL_85 : CWB RL 85 yX5_turn cX5_turn 3 (some .int) 1 := ⟨wd_24_7, cy_yX5_turn⟩
theorem cw_RX5_200 : CWB RX5 200 yX5_fewestToTurn cX5_fewestToTurn 4 (some .int) 1 := ⟨wd_24_11, cy_yX5_fewestToTurn⟩
theorem cw_RL_88 : CWB RL 88 yX6_turn cX6_turn 5 (some .int) 1 := ⟨wd_24_15, cy_yX6_turn⟩
theorem cw_RL_89 : CWB RL 89 yX5_drift cX5_drift 8 (some .int) 6 := ⟨wd_24_19, cy_yX5_drift⟩
theorem cw_RX5_206 : CWB RX5 206 yX5_driftOf cX5_driftOf 7 (some .int) 4 := ⟨wd_24_23, cy_yX5_driftOf⟩
theorem cw_RX5_213 : CWB RX5 213 yX4_driftIn cX4_driftIn 5 (some .int) 2 := ⟨wd_25_3, cy_yX4_driftIn⟩
theorem cw_RX5_210 : CWB RX5 210 yX5_originsOf cX5_originsOf 7 (some .int) 4 := ⟨wd_25_7, cy_yX5_originsOf⟩
theorem cw_RL_93 : CWB RL 93 yX6_drift cX6_drift 11 (some .int) 6 := ⟨wd_25_11, cy_yX6_drift⟩
theorem cw_RX6_195 : CWB RX6 195 yX6_driftOf cX6_driftOf 9 (some .int) 3 := ⟨wd_25_15, cy_yX6_driftOf⟩
theorem cw_RL_94 : CWB RL 94 yX5_leaps cX5_leaps 4 (some .int) 3 := ⟨wd_25_19, cy_yX5_leaps⟩
theorem cw_RX5_216 : CWB RX5 216 yX5_layLeaps cX5_layLeaps 3 none 0 := ⟨wd_26_0, cy_yX5_layLeaps⟩
theorem cw_RX5_229 : CWB RX5 229 yX2_begin cX2_begin 3 none 2 := ⟨wd_26_4, cy_yX2_begin⟩
theorem cw_RX5_231 : CWB RX5 231 yX4_isInReach cX4_isInReach 3 (some .boolean) 2 := ⟨wd_26_10, cy_yX4_isInReach⟩
theorem cw_RX5_235 : CWB RX5 235 yX2_lay cX2_lay 4 none 3 := ⟨wd_26_14, cy_yX2_lay⟩
theorem cw_RX5_219 : CWB RX5 219 yX2_find cX2_find 6 none 2 := ⟨wd_26_18, cy_yX2_find⟩
theorem cw_RX2_30 : CWB RX2 30 yX2_measure cX2_measure 4 none 1 := ⟨wd_26_23, cy_yX2_measure⟩
theorem cw_RX2_37 : CWB RX2 37 yX2_moveTo cX2_moveTo 4 (some .int) 2 := ⟨wd_27_3, cy_yX2_moveTo⟩
theorem cw_RX5_226 : CWB RX5 226 yX2_moveAt cX2_moveAt 2 (some .int) 1 := ⟨wd_27_7, cy_yX2_moveAt⟩
theorem cw_RL_98 : CWB RL 98 yX6_leaps cX6_leaps 6 (some .int) 3 := ⟨wd_27_11, cy_yX6_leaps⟩
theorem cw_RX6_201 : CWB RX6 201 yX6_findLeaps cX6_findLeaps 5 none 1 := ⟨wd_27_15, cy_yX6_findLeaps⟩
theorem cw_RX6_198 : CWB RX6 198 yX6_isLeap cX6_isLeap 4 (some .boolean) 2 := ⟨wd_27_19, cy_yX6_isLeap⟩
theorem cw_RX6_205 : CWB RX6 205 yX6_nextLeap cX6_nextLeap 3 (some .int) 1 := ⟨wd_27_23, cy_yX6_nextLeap⟩
theorem cw_RL_99 : CWB RL 99 yX5_elect cX5_elect 4 (some .int) 3 := ⟨wd_28_3, cy_yX5_elect⟩
theorem cw_RX5_239 : CWB RX5 239 yX5_layTides cX5_layTides 4 none 1 := ⟨wd_28_7, cy_yX5_layTides⟩
theorem cw_RX5_243 : CWB RX5 243 yX4_poolBehind cX4_poolBehind 6 (some .int) 3 := ⟨wd_28_11, cy_yX4_poolBehind⟩
theorem cw_RL_102 : CWB RL 102 yX6_elect cX6_elect 8 (some .int) 3 := ⟨wd_28_12, cy_yX6_elect⟩
theorem cw_RX6_208 : CWB RX6 208 yX6_findTides cX6_findTides 6 none 2 := ⟨wd_28_16, cy_yX6_findTides⟩
theorem cw_RX6_212 : CWB RX6 212 yX6_nextTide cX6_nextTide 4 (some .int) 2 := ⟨wd_28_20, cy_yX6_nextTide⟩
theorem cw_RL_103 : CWB RL 103 yX5_reading cX5_reading 4 (some .int) 3 := ⟨wd_29_0, cy_yX5_reading⟩
theorem cw_RX5_247 : CWB RX5 247 yX1_take cX1_take 4 (some .int) 3 := ⟨wd_29_4, cy_yX1_take⟩
theorem cw_RL_106 : CWB RL 106 yX6_reading cX6_reading 4 (some .int) 3 := ⟨wd_29_9, cy_yX6_reading⟩
theorem cw_RL_107 : CWB RL 107 yX5_back cX5_back 2 (some .int) 1 := ⟨wd_29_13, cy_yX5_back⟩
theorem cw_RL_110 : CWB RL 110 yX6_back cX6_back 2 (some .int) 1 := ⟨wd_29_17, cy_yX6_back⟩
theorem cw_RL_111 : CWB RL 111 yX5_heights cX5_heights 4 (some .int) 1 := ⟨wd_29_21, cy_yX5_heights⟩
theorem cw_RX5_250 : CWB RX5 250 yX1_areSoIn cX1_areSoIn 3 (some .boolean) 1 := ⟨wd_30_1, cy_yX1_areSoIn⟩
theorem cw_RX1_25 : CWB RX1 25 yX4_seatBehind cX4_seatBehind 3 (some .int) 2 := ⟨wd_30_5, cy_yX4_seatBehind⟩
theorem cw_RL_114 : CWB RL 114 yX6_heights cX6_heights 5 (some .int) 1 := ⟨wd_30_6, cy_yX6_heights⟩
theorem cw_RX6_215 : CWB RX6 215 yX6_areSo cX6_areSo 3 (some .boolean) 0 := ⟨wd_30_10, cy_yX6_areSo⟩
theorem cw_RL_115 : CWB RL 115 yX5_kinds cX5_kinds 4 (some .int) 1 := ⟨wd_30_14, cy_yX5_kinds⟩
theorem cw_RL_118 : CWB RL 118 yX6_kinds cX6_kinds 5 (some .int) 1 := ⟨wd_30_18, cy_yX6_kinds⟩
theorem cw_RL_119 : CWB RL 119 yX5_streams cX5_streams 3 (some .int) 0 := ⟨wd_30_22, cy_yX5_streams⟩
theorem cw_RL_123 : CWB RL 123 yX6_streams cX6_streams 4 (some .int) 0 := ⟨wd_31_2, cy_yX6_streams⟩
theorem cw_RL_124 : CWB RL 124 yX5_odds cX5_odds 7 (some .long) 3 := ⟨wd_31_6, cy_yX5_odds⟩
theorem cw_RX5_260 : CWB RX5 260 yX5_pairsOfTides cX5_pairsOfTides 8 (some .int) 2 := ⟨wd_31_11, cy_yX5_pairsOfTides⟩
theorem cw_RX5_263 : CWB RX5 263 yX5_commonDivisor cX5_commonDivisor 3 (some .int) 2 := ⟨wd_31_15, cy_yX5_commonDivisor⟩
theorem cw_RL_128 : CWB RL 128 yX6_odds cX6_odds 8 (some .long) 3 := ⟨wd_31_18, cy_yX6_odds⟩
theorem cw_RX6_221 : CWB RX6 221 yX6_inLeastTerms cX6_inLeastTerms 11 (some .long) 3 := ⟨wd_32_0, cy_yX6_inLeastTerms⟩
theorem cw_RL_129 : CWB RL 129 yX5_sheet cX5_sheet 4 (some .int) 3 := ⟨wd_32_3, cy_yX5_sheet⟩
theorem cw_RX5_266 : CWB RX5 266 yX3_renew cX3_renew 4 none 2 := ⟨wd_32_7, cy_yX3_renew⟩
theorem cw_RL_132 : CWB RL 132 yX6_sheet cX6_sheet 5 (some .int) 3 := ⟨wd_32_13, cy_yX6_sheet⟩
theorem cw_RL_133 : CWB RL 133 yX5_lose cX5_lose 3 (some .int) 1 := ⟨wd_32_17, cy_yX5_lose⟩
theorem cw_RL_136 : CWB RL 136 yX6_lose cX6_lose 3 (some .int) 1 := ⟨wd_32_21, cy_yX6_lose⟩
theorem cw_RL_137 : CWB RL 137 yX5_put cX5_put 4 (some .int) 3 := ⟨wd_33_1, cy_yX5_put⟩
theorem cw_RX5_276 : CWB RX5 276 yX3_cut cX3_cut 2 (some .int) 1 := ⟨wd_33_5, cy_yX3_cut⟩
theorem cw_RL_140 : CWB RL 140 yX6_put cX6_put 4 (some .int) 3 := ⟨wd_33_9, cy_yX6_put⟩
theorem cw_RL_141 : CWB RL 141 yX5_cell cX5_cell 5 (some .long) 3 := ⟨wd_33_13, cy_yX5_cell⟩
theorem cw_RL_144 : CWB RL 144 yX6_cell cX6_cell 4 (some .long) 3 := ⟨wd_33_17, cy_yX6_cell⟩
theorem cw_RX6_225 : CWB RX6 225 yX6_lost cX6_lost 2 (some .long) 1 := ⟨wd_33_21, cy_yX6_lost⟩
theorem cw_RL_145 : CWB RL 145 yX5_copy cX5_copy 8 (some .int) 5 := ⟨wd_34_1, cy_yX5_copy⟩
theorem cw_RL_148 : CWB RL 148 yX6_copy cX6_copy 10 (some .int) 5 := ⟨wd_34_9, cy_yX6_copy⟩
theorem cw_RL_149 : CWB RL 149 yX5_tell cX5_tell 2 (some .int) 1 := ⟨wd_34_13, cy_yX5_tell⟩
theorem cw_RX5_288 : CWB RX5 288 yX5_shrimpBody cX5_shrimpBody 2 (some .int) 1 := ⟨wd_34_17, cy_yX5_shrimpBody⟩
theorem cw_RX5_297 : CWB RX5 297 yX5_leave cX5_leave 2 none 1 := ⟨wd_34_21, cy_yX5_leave⟩
theorem cw_RX5_291 : CWB RX5 291 yX5_crabBody cX5_crabBody 2 (some .int) 1 := ⟨wd_35_2, cy_yX5_crabBody⟩
theorem cw_RX5_294 : CWB RX5 294 yX5_limpetBody cX5_limpetBody 3 (some .int) 1 := ⟨wd_35_6, cy_yX5_limpetBody⟩
theorem cw_RL_152 : CWB RL 152 yX6_tell cX6_tell 3 (some .int) 1 := ⟨wd_35_10, cy_yX6_tell⟩
theorem cw_RX6_232 : CWB RX6 232 yX6_begins cX6_begins 2 none 1 := ⟨wd_35_14, cy_yX6_begins⟩
theorem cw_RL_153 : CWB RL 153 yX5_name cX5_name 3 (some .int) 1 := ⟨wd_35_19, cy_yX5_name⟩
theorem cw_RL_156 : CWB RL 156 yX6_name cX6_name 2 (some .int) 1 := ⟨wd_35_23, cy_yX6_name⟩
theorem cw_RL_157 : CWB RL 157 yX5_as cX5_as 3 (some .int) 2 := ⟨wd_36_3, cy_yX5_as⟩
theorem cw_RL_160 : CWB RL 160 yX6_as cX6_as 3 (some .int) 2 := ⟨wd_36_7, cy_yX6_as⟩
theorem cw_RL_161 : CWB RL 161 yX5_trace cX5_trace 1 (some .int) 0 := ⟨wd_36_11, cy_yX5_trace⟩
theorem cw_RL_164 : CWB RL 164 yX6_trace cX6_trace 1 (some .int) 0 := ⟨wd_36_15, cy_yX6_trace⟩
theorem cw_RL_165 : CWB RL 165 yX5_fault cX5_fault 1 (some .int) 0 := ⟨wd_36_19, cy_yX5_fault⟩
theorem cw_RL_168 : CWB RL 168 yX6_fault cX6_fault 1 (some .int) 0 := ⟨wd_36_23, cy_yX6_fault⟩
theorem cw_RL_169 : CWB RL 169 yX5_many cX5_many 2 (some .int) 1 := ⟨wd_37_3, cy_yX5_many⟩
theorem cw_RL_172 : CWB RL 172 yX6_many cX6_many 2 (some .int) 1 := ⟨wd_37_7, cy_yX6_many⟩
theorem cw_RX3_26 : CWN RX3 26 yX5_isWithin RX5 cX5_isWithin 3 (some .boolean) 3 := ⟨List.mem_of_getElem? (i := 5) rfl, cy_yX5_isWithin⟩
theorem cw_RX0_35 : CWN RX0 35 yX5_isWithin RX5 cX5_isWithin 3 (some .boolean) 3 := ⟨List.mem_of_getElem? (i := 6) rfl, cy_yX5_isWithin⟩
theorem cw_RX4_89 : CWN RX4 89 yX5_oneIf RX5 cX5_oneIf 1 (some .int) 1 := ⟨List.mem_of_getElem? (i := 7) rfl, cy_yX5_oneIf⟩
theorem cw_RX2_41 : CWN RX2 41 yX5_isWithin RX5 cX5_isWithin 3 (some .boolean) 3 := ⟨List.mem_of_getElem? (i := 8) rfl, cy_yX5_isWithin⟩
