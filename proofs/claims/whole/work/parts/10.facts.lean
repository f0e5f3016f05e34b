abbrev Y_X10_init : YT := (yX10_init, cX10_init, 2, none)
theorem cy_X10_init : CY Y_X10_init 0 := ⟨bw_of (i := 58) (w := Cond.code yX10_init cX10_init 2 (none)) (by decide +kernel) rfl, bw_of (i := 38) (w := Cond.initialized yX10_init.cls) (by decide +kernel) rfl, by decide, by decide +kernel, by decide +kernel, by decide +kernel⟩
theorem ci_X10_init : Cond.instanceMethod yX10_init ∈ BW := bw_of (i := 57) (w := Cond.instanceMethod yX10_init) (by decide +kernel) rfl
abbrev Y_X7_init : YT := (yX7_init, cX7_init, 1, none)
theorem cy_X7_init : CY Y_X7_init 0 := ⟨bw_of (i := 66) (w := Cond.code yX7_init cX7_init 1 (none)) (by decide +kernel) rfl, bw_of (i := 39) (w := Cond.initialized yX7_init.cls) (by decide +kernel) rfl, by decide, by decide +kernel, by decide +kernel, by decide +kernel⟩
theorem ci_X7_init : Cond.instanceMethod yX7_init ∈ BW := bw_of (i := 65) (w := Cond.instanceMethod yX7_init) (by decide +kernel) rfl
abbrev Y_J7_fill_fda19 : YT := (yJ7_fill_fda19, cJ7_fill_fda19, 5, none)
theorem cy_J7_fill_fda19 : CY Y_J7_fill_fda19 4 := ⟨bw_of (i := 70) (w := Cond.code yJ7_fill_fda19 cJ7_fill_fda19 5 (none)) (by decide +kernel) rfl, bw_of (i := 40) (w := Cond.initialized yJ7_fill_fda19.cls) (by decide +kernel) rfl, by decide, by decide +kernel, by decide +kernel, by decide +kernel⟩
theorem cs_J7_fill_fda19 : Cond.static yJ7_fill_fda19 ∈ BW := bw_of (i := 69) (w := Cond.static yJ7_fill_fda19) (by decide +kernel) rfl
abbrev Y_J7_rangeCheck_23922 : YT := (yJ7_rangeCheck_23922, cJ7_rangeCheck_23922, 3, none)
theorem cy_J7_rangeCheck_23922 : CY Y_J7_rangeCheck_23922 3 := ⟨bw_of (i := 73) (w := Cond.code yJ7_rangeCheck_23922 cJ7_rangeCheck_23922 3 (none)) (by decide +kernel) rfl, bw_of (i := 40) (w := Cond.initialized yJ7_rangeCheck_23922.cls) (by decide +kernel) rfl, by decide, by decide +kernel, by decide +kernel, by decide +kernel⟩
theorem cs_J7_rangeCheck_23922 : Cond.static yJ7_rangeCheck_23922 ∈ BW := bw_of (i := 72) (w := Cond.static yJ7_rangeCheck_23922) (by decide +kernel) rfl
abbrev Y_X6_init : YT := (yX6_init, cX6_init, 1, none)
theorem cy_X6_init : CY Y_X6_init 0 := ⟨bw_of (i := 90) (w := Cond.code yX6_init cX6_init 1 (none)) (by decide +kernel) rfl, bw_of (i := 41) (w := Cond.initialized yX6_init.cls) (by decide +kernel) rfl, by decide, by decide +kernel, by decide +kernel, by decide +kernel⟩
theorem ci_X6_init : Cond.instanceMethod yX6_init ∈ BW := bw_of (i := 89) (w := Cond.instanceMethod yX6_init) (by decide +kernel) rfl
abbrev Y_X4_init : YT := (yX4_init, cX4_init, 1, none)
theorem cy_X4_init : CY Y_X4_init 0 := ⟨bw_of (i := 104) (w := Cond.code yX4_init cX4_init 1 (none)) (by decide +kernel) rfl, bw_of (i := 42) (w := Cond.initialized yX4_init.cls) (by decide +kernel) rfl, by decide, by decide +kernel, by decide +kernel, by decide +kernel⟩
theorem ci_X4_init : Cond.instanceMethod yX4_init ∈ BW := bw_of (i := 103) (w := Cond.instanceMethod yX4_init) (by decide +kernel) rfl
abbrev Y_X5_init : YT := (yX5_init, cX5_init, 1, none)
theorem cy_X5_init : CY Y_X5_init 0 := ⟨bw_of (i := 147) (w := Cond.code yX5_init cX5_init 1 (none)) (by decide +kernel) rfl, bw_of (i := 43) (w := Cond.initialized yX5_init.cls) (by decide +kernel) rfl, by decide, by decide +kernel, by decide +kernel, by decide +kernel⟩
theorem ci_X5_init : Cond.instanceMethod yX5_init ∈ BW := bw_of (i := 146) (w := Cond.instanceMethod yX5_init) (by decide +kernel) rfl
abbrev Y_X1_init : YT := (yX1_init, cX1_init, 2, none)
theorem cy_X1_init : CY Y_X1_init 1 := ⟨bw_of (i := 168) (w := Cond.code yX1_init cX1_init 2 (none)) (by decide +kernel) rfl, bw_of (i := 44) (w := Cond.initialized yX1_init.cls) (by decide +kernel) rfl, by decide, by decide +kernel, by decide +kernel, by decide +kernel⟩
theorem ci_X1_init : Cond.instanceMethod yX1_init ∈ BW := bw_of (i := 167) (w := Cond.instanceMethod yX1_init) (by decide +kernel) rfl
abbrev Y_X2_init : YT := (yX2_init, cX2_init, 1, none)
theorem cy_X2_init : CY Y_X2_init 0 := ⟨bw_of (i := 181) (w := Cond.code yX2_init cX2_init 1 (none)) (by decide +kernel) rfl, bw_of (i := 45) (w := Cond.initialized yX2_init.cls) (by decide +kernel) rfl, by decide, by decide +kernel, by decide +kernel, by decide +kernel⟩
theorem ci_X2_init : Cond.instanceMethod yX2_init ∈ BW := bw_of (i := 180) (w := Cond.instanceMethod yX2_init) (by decide +kernel) rfl
abbrev Y_X9_init : YT := (yX9_init, cX9_init, 1, none)
theorem cy_X9_init : CY Y_X9_init 0 := ⟨bw_of (i := 198) (w := Cond.code yX9_init cX9_init 1 (none)) (by decide +kernel) rfl, bw_of (i := 46) (w := Cond.initialized yX9_init.cls) (by decide +kernel) rfl, by decide, by decide +kernel, by decide +kernel, by decide +kernel⟩
theorem ci_X9_init : Cond.instanceMethod yX9_init ∈ BW := bw_of (i := 197) (w := Cond.instanceMethod yX9_init) (by decide +kernel) rfl
abbrev Y_X3_init : YT := (yX3_init, cX3_init, 1, none)
theorem cy_X3_init : CY Y_X3_init 0 := ⟨bw_of (i := 219) (w := Cond.code yX3_init cX3_init 1 (none)) (by decide +kernel) rfl, bw_of (i := 47) (w := Cond.initialized yX3_init.cls) (by decide +kernel) rfl, by decide, by decide +kernel, by decide +kernel, by decide +kernel⟩
theorem ci_X3_init : Cond.instanceMethod yX3_init ∈ BW := bw_of (i := 218) (w := Cond.instanceMethod yX3_init) (by decide +kernel) rfl
abbrev Y_X10_feed : YT := (yX10_feed, cX10_feed, 6, some .int)
theorem cy_X10_feed : CY Y_X10_feed 5 := ⟨bw_of (i := 278) (w := Cond.code yX10_feed cX10_feed 6 (some .int)) (by decide +kernel) rfl, bw_of (i := 38) (w := Cond.initialized yX10_feed.cls) (by decide +kernel) rfl, by decide, by decide +kernel, by decide +kernel, by decide +kernel⟩
theorem ci_X10_feed : CI Y_X10_feed := ⟨bw_of (i := 276) (w := Cond.instanceMethod yX10_feed) (by decide +kernel) rfl, bw_of (i := 277) (w := Cond.selects yX10_feed.cls yX10_feed yX10_feed) (by decide +kernel) rfl⟩
abbrev Y_X10_putBytes : YT := (yX10_putBytes, cX10_putBytes, 3, none)
theorem cy_X10_putBytes : CY Y_X10_putBytes 1 := ⟨bw_of (i := 282) (w := Cond.code yX10_putBytes cX10_putBytes 3 (none)) (by decide +kernel) rfl, bw_of (i := 38) (w := Cond.initialized yX10_putBytes.cls) (by decide +kernel) rfl, by decide, by decide +kernel, by decide +kernel, by decide +kernel⟩
theorem ci_X10_putBytes : CI Y_X10_putBytes := ⟨bw_of (i := 281) (w := Cond.instanceMethod yX10_putBytes) (by decide +kernel) rfl, bw_of (i := 0) (w := Cond.selects yX10_putBytes.cls yX10_putBytes yX10_putBytes) (by decide +kernel) rfl⟩
abbrev Y_X10_end : YT := (yX10_end, cX10_end, 2, some .int)
theorem cy_X10_end : CY Y_X10_end 1 := ⟨bw_of (i := 286) (w := Cond.code yX10_end cX10_end 2 (some .int)) (by decide +kernel) rfl, bw_of (i := 38) (w := Cond.initialized yX10_end.cls) (by decide +kernel) rfl, by decide, by decide +kernel, by decide +kernel, by decide +kernel⟩
theorem ci_X10_end : CI Y_X10_end := ⟨bw_of (i := 284) (w := Cond.instanceMethod yX10_end) (by decide +kernel) rfl, bw_of (i := 285) (w := Cond.selects yX10_end.cls yX10_end yX10_end) (by decide +kernel) rfl⟩
abbrev Y_X10_script : YT := (yX10_script, cX10_script, 3, some .int)
theorem cy_X10_script : CY Y_X10_script 2 := ⟨bw_of (i := 290) (w := Cond.code yX10_script cX10_script 3 (some .int)) (by decide +kernel) rfl, bw_of (i := 38) (w := Cond.initialized yX10_script.cls) (by decide +kernel) rfl, by decide, by decide +kernel, by decide +kernel, by decide +kernel⟩
theorem ci_X10_script : CI Y_X10_script := ⟨bw_of (i := 288) (w := Cond.instanceMethod yX10_script) (by decide +kernel) rfl, bw_of (i := 289) (w := Cond.selects yX10_script.cls yX10_script yX10_script) (by decide +kernel) rfl⟩
abbrev Y_X10_isSign : YT := (yX10_isSign, cX10_isSign, 1, some .boolean)
theorem cy_X10_isSign : CY Y_X10_isSign 1 := ⟨bw_of (i := 293) (w := Cond.code yX10_isSign cX10_isSign 1 (some .boolean)) (by decide +kernel) rfl, bw_of (i := 38) (w := Cond.initialized yX10_isSign.cls) (by decide +kernel) rfl, by decide, by decide +kernel, by decide +kernel, by decide +kernel⟩
theorem cs_X10_isSign : Cond.static yX10_isSign ∈ BW := bw_of (i := 292) (w := Cond.static yX10_isSign) (by decide +kernel) rfl
abbrev Y_X7_changeScript : YT := (yX7_changeScript, cX7_changeScript, 4, some .int)
theorem cy_X7_changeScript : CY Y_X7_changeScript 2 := ⟨bw_of (i := 297) (w := Cond.code yX7_changeScript cX7_changeScript 4 (some .int)) (by decide +kernel) rfl, bw_of (i := 39) (w := Cond.initialized yX7_changeScript.cls) (by decide +kernel) rfl, by decide, by decide +kernel, by decide +kernel, by decide +kernel⟩
theorem ci_X7_changeScript : CI Y_X7_changeScript := ⟨bw_of (i := 295) (w := Cond.instanceMethod yX7_changeScript) (by decide +kernel) rfl, bw_of (i := 296) (w := Cond.selects yX7_changeScript.cls yX7_changeScript yX7_changeScript) (by decide +kernel) rfl⟩
abbrev Y_X7_scriptOf : YT := (yX7_scriptOf, cX7_scriptOf, 2, some .int)
theorem cy_X7_scriptOf : CY Y_X7_scriptOf 1 := ⟨bw_of (i := 301) (w := Cond.code yX7_scriptOf cX7_scriptOf 2 (some .int)) (by decide +kernel) rfl, bw_of (i := 39) (w := Cond.initialized yX7_scriptOf.cls) (by decide +kernel) rfl, by decide, by decide +kernel, by decide +kernel, by decide +kernel⟩
theorem ci_X7_scriptOf : CI Y_X7_scriptOf := ⟨bw_of (i := 299) (w := Cond.instanceMethod yX7_scriptOf) (by decide +kernel) rfl, bw_of (i := 300) (w := Cond.selects yX7_scriptOf.cls yX7_scriptOf yX7_scriptOf) (by decide +kernel) rfl⟩
abbrev Y_X10_seen : YT := (yX10_seen, cX10_seen, 3, some .int)
theorem cy_X10_seen : CY Y_X10_seen 2 := ⟨bw_of (i := 306) (w := Cond.code yX10_seen cX10_seen 3 (some .int)) (by decide +kernel) rfl, bw_of (i := 38) (w := Cond.initialized yX10_seen.cls) (by decide +kernel) rfl, by decide, by decide +kernel, by decide +kernel, by decide +kernel⟩
theorem ci_X10_seen : CI Y_X10_seen := ⟨bw_of (i := 304) (w := Cond.instanceMethod yX10_seen) (by decide +kernel) rfl, bw_of (i := 305) (w := Cond.selects yX10_seen.cls yX10_seen yX10_seen) (by decide +kernel) rfl⟩
abbrev Y_X7_changeHow : YT := (yX7_changeHow, cX7_changeHow, 4, some .int)
theorem cy_X7_changeHow : CY Y_X7_changeHow 2 := ⟨bw_of (i := 310) (w := Cond.code yX7_changeHow cX7_changeHow 4 (some .int)) (by decide +kernel) rfl, bw_of (i := 39) (w := Cond.initialized yX7_changeHow.cls) (by decide +kernel) rfl, by decide, by decide +kernel, by decide +kernel, by decide +kernel⟩
theorem ci_X7_changeHow : CI Y_X7_changeHow := ⟨bw_of (i := 308) (w := Cond.instanceMethod yX7_changeHow) (by decide +kernel) rfl, bw_of (i := 309) (w := Cond.selects yX7_changeHow.cls yX7_changeHow yX7_changeHow) (by decide +kernel) rfl⟩
abbrev Y_X7_howOf : YT := (yX7_howOf, cX7_howOf, 2, some .int)
theorem cy_X7_howOf : CY Y_X7_howOf 1 := ⟨bw_of (i := 314) (w := Cond.code yX7_howOf cX7_howOf 2 (some .int)) (by decide +kernel) rfl, bw_of (i := 39) (w := Cond.initialized yX7_howOf.cls) (by decide +kernel) rfl, by decide, by decide +kernel, by decide +kernel, by decide +kernel⟩
theorem ci_X7_howOf : CI Y_X7_howOf := ⟨bw_of (i := 312) (w := Cond.instanceMethod yX7_howOf) (by decide +kernel) rfl, bw_of (i := 313) (w := Cond.selects yX7_howOf.cls yX7_howOf yX7_howOf) (by decide +kernel) rfl⟩
abbrev Y_X10_confuse : YT := (yX10_confuse, cX10_confuse, 4, some .int)
theorem cy_X10_confuse : CY Y_X10_confuse 3 := ⟨bw_of (i := 318) (w := Cond.code yX10_confuse cX10_confuse 4 (some .int)) (by decide +kernel) rfl, bw_of (i := 38) (w := Cond.initialized yX10_confuse.cls) (by decide +kernel) rfl, by decide, by decide +kernel, by decide +kernel, by decide +kernel⟩
theorem ci_X10_confuse : CI Y_X10_confuse := ⟨bw_of (i := 316) (w := Cond.instanceMethod yX10_confuse) (by decide +kernel) rfl, bw_of (i := 317) (w := Cond.selects yX10_confuse.cls yX10_confuse yX10_confuse) (by decide +kernel) rfl⟩
abbrev Y_X10_isPiece : YT := (yX10_isPiece, cX10_isPiece, 1, some .boolean)
theorem cy_X10_isPiece : CY Y_X10_isPiece 1 := ⟨bw_of (i := 321) (w := Cond.code yX10_isPiece cX10_isPiece 1 (some .boolean)) (by decide +kernel) rfl, bw_of (i := 38) (w := Cond.initialized yX10_isPiece.cls) (by decide +kernel) rfl, by decide, by decide +kernel, by decide +kernel, by decide +kernel⟩
theorem cs_X10_isPiece : Cond.static yX10_isPiece ∈ BW := bw_of (i := 320) (w := Cond.static yX10_isPiece) (by decide +kernel) rfl
abbrev Y_X4_forget : YT := (yX4_forget, cX4_forget, 5, some .int)
theorem cy_X4_forget : CY Y_X4_forget 2 := ⟨bw_of (i := 325) (w := Cond.code yX4_forget cX4_forget 5 (some .int)) (by decide +kernel) rfl, bw_of (i := 42) (w := Cond.initialized yX4_forget.cls) (by decide +kernel) rfl, by decide, by decide +kernel, by decide +kernel, by decide +kernel⟩
theorem ci_X4_forget : CI Y_X4_forget := ⟨bw_of (i := 323) (w := Cond.instanceMethod yX4_forget) (by decide +kernel) rfl, bw_of (i := 324) (w := Cond.selects yX4_forget.cls yX4_forget yX4_forget) (by decide +kernel) rfl⟩
abbrev Y_X4_placeOf : YT := (yX4_placeOf, cX4_placeOf, 4, some .int)
theorem cy_X4_placeOf : CY Y_X4_placeOf 2 := ⟨bw_of (i := 329) (w := Cond.code yX4_placeOf cX4_placeOf 4 (some .int)) (by decide +kernel) rfl, bw_of (i := 42) (w := Cond.initialized yX4_placeOf.cls) (by decide +kernel) rfl, by decide, by decide +kernel, by decide +kernel, by decide +kernel⟩
theorem ci_X4_placeOf : CI Y_X4_placeOf := ⟨bw_of (i := 328) (w := Cond.instanceMethod yX4_placeOf) (by decide +kernel) rfl, bw_of (i := 1) (w := Cond.selects yX4_placeOf.cls yX4_placeOf yX4_placeOf) (by decide +kernel) rfl⟩
abbrev Y_X4_tell : YT := (yX4_tell, cX4_tell, 6, some .int)
theorem cy_X4_tell : CY Y_X4_tell 3 := ⟨bw_of (i := 333) (w := Cond.code yX4_tell cX4_tell 6 (some .int)) (by decide +kernel) rfl, bw_of (i := 42) (w := Cond.initialized yX4_tell.cls) (by decide +kernel) rfl, by decide, by decide +kernel, by decide +kernel, by decide +kernel⟩
theorem ci_X4_tell : CI Y_X4_tell := ⟨bw_of (i := 331) (w := Cond.instanceMethod yX4_tell) (by decide +kernel) rfl, bw_of (i := 332) (w := Cond.selects yX4_tell.cls yX4_tell yX4_tell) (by decide +kernel) rfl⟩
abbrev Y_X10_chain : YT := (yX10_chain, cX10_chain, 4, some .int)
theorem cy_X10_chain : CY Y_X10_chain 2 := ⟨bw_of (i := 337) (w := Cond.code yX10_chain cX10_chain 4 (some .int)) (by decide +kernel) rfl, bw_of (i := 38) (w := Cond.initialized yX10_chain.cls) (by decide +kernel) rfl, by decide, by decide +kernel, by decide +kernel, by decide +kernel⟩
theorem ci_X10_chain : CI Y_X10_chain := ⟨bw_of (i := 335) (w := Cond.instanceMethod yX10_chain) (by decide +kernel) rfl, bw_of (i := 336) (w := Cond.selects yX10_chain.cls yX10_chain yX10_chain) (by decide +kernel) rfl⟩
abbrev Y_X4_closeChains : YT := (yX4_closeChains, cX4_closeChains, 2, none)
theorem cy_X4_closeChains : CY Y_X4_closeChains 0 := ⟨bw_of (i := 341) (w := Cond.code yX4_closeChains cX4_closeChains 2 (none)) (by decide +kernel) rfl, bw_of (i := 42) (w := Cond.initialized yX4_closeChains.cls) (by decide +kernel) rfl, by decide, by decide +kernel, by decide +kernel, by decide +kernel⟩
theorem ci_X4_closeChains : CI Y_X4_closeChains := ⟨bw_of (i := 339) (w := Cond.instanceMethod yX4_closeChains) (by decide +kernel) rfl, bw_of (i := 340) (w := Cond.selects yX4_closeChains.cls yX4_closeChains yX4_closeChains) (by decide +kernel) rfl⟩
abbrev Y_J7_fill_53178 : YT := (yJ7_fill_53178, cJ7_fill_53178, 4, none)
theorem cy_J7_fill_53178 : CY Y_J7_fill_53178 2 := ⟨bw_of (i := 344) (w := Cond.code yJ7_fill_53178 cJ7_fill_53178 4 (none)) (by decide +kernel) rfl, bw_of (i := 40) (w := Cond.initialized yJ7_fill_53178.cls) (by decide +kernel) rfl, by decide, by decide +kernel, by decide +kernel, by decide +kernel⟩
theorem cs_J7_fill_53178 : Cond.static yJ7_fill_53178 ∈ BW := bw_of (i := 343) (w := Cond.static yJ7_fill_53178) (by decide +kernel) rfl
abbrev Y_X4_addPiece : YT := (yX4_addPiece, cX4_addPiece, 3, none)
theorem cy_X4_addPiece : CY Y_X4_addPiece 1 := ⟨bw_of (i := 348) (w := Cond.code yX4_addPiece cX4_addPiece 3 (none)) (by decide +kernel) rfl, bw_of (i := 42) (w := Cond.initialized yX4_addPiece.cls) (by decide +kernel) rfl, by decide, by decide +kernel, by decide +kernel, by decide +kernel⟩
theorem ci_X4_addPiece : CI Y_X4_addPiece := ⟨bw_of (i := 347) (w := Cond.instanceMethod yX4_addPiece) (by decide +kernel) rfl, bw_of (i := 2) (w := Cond.selects yX4_addPiece.cls yX4_addPiece yX4_addPiece) (by decide +kernel) rfl⟩
abbrev Y_X4_leadingSign : YT := (yX4_leadingSign, cX4_leadingSign, 1, some .int)
theorem cy_X4_leadingSign : CY Y_X4_leadingSign 1 := ⟨bw_of (i := 351) (w := Cond.code yX4_leadingSign cX4_leadingSign 1 (some .int)) (by decide +kernel) rfl, bw_of (i := 42) (w := Cond.initialized yX4_leadingSign.cls) (by decide +kernel) rfl, by decide, by decide +kernel, by decide +kernel, by decide +kernel⟩
theorem cs_X4_leadingSign : Cond.static yX4_leadingSign ∈ BW := bw_of (i := 350) (w := Cond.static yX4_leadingSign) (by decide +kernel) rfl
abbrev Y_X4_indexOf : YT := (yX4_indexOf, cX4_indexOf, 5, some .int)
theorem cy_X4_indexOf : CY Y_X4_indexOf 1 := ⟨bw_of (i := 356) (w := Cond.code yX4_indexOf cX4_indexOf 5 (some .int)) (by decide +kernel) rfl, bw_of (i := 42) (w := Cond.initialized yX4_indexOf.cls) (by decide +kernel) rfl, by decide, by decide +kernel, by decide +kernel, by decide +kernel⟩
theorem ci_X4_indexOf : CI Y_X4_indexOf := ⟨bw_of (i := 354) (w := Cond.instanceMethod yX4_indexOf) (by decide +kernel) rfl, bw_of (i := 355) (w := Cond.selects yX4_indexOf.cls yX4_indexOf yX4_indexOf) (by decide +kernel) rfl⟩
abbrev Y_X4_writeSteps : YT := (yX4_writeSteps, cX4_writeSteps, 5, none)
theorem cy_X4_writeSteps : CY Y_X4_writeSteps 0 := ⟨bw_of (i := 360) (w := Cond.code yX4_writeSteps cX4_writeSteps 5 (none)) (by decide +kernel) rfl, bw_of (i := 42) (w := Cond.initialized yX4_writeSteps.cls) (by decide +kernel) rfl, by decide, by decide +kernel, by decide +kernel, by decide +kernel⟩
theorem ci_X4_writeSteps : CI Y_X4_writeSteps := ⟨bw_of (i := 359) (w := Cond.instanceMethod yX4_writeSteps) (by decide +kernel) rfl, bw_of (i := 3) (w := Cond.selects yX4_writeSteps.cls yX4_writeSteps yX4_writeSteps) (by decide +kernel) rfl⟩
abbrev Y_J9_min_7cf53 : YT := (yJ9_min_7cf53, cJ9_min_7cf53, 2, some .int)
theorem cy_J9_min_7cf53 : CY Y_J9_min_7cf53 2 := ⟨bw_of (i := 363) (w := Cond.code yJ9_min_7cf53 cJ9_min_7cf53 2 (some .int)) (by decide +kernel) rfl, bw_of (i := 49) (w := Cond.initialized yJ9_min_7cf53.cls) (by decide +kernel) rfl, by decide, by decide +kernel, by decide +kernel, by decide +kernel⟩
theorem cs_J9_min_7cf53 : Cond.static yJ9_min_7cf53 ∈ BW := bw_of (i := 362) (w := Cond.static yJ9_min_7cf53) (by decide +kernel) rfl
abbrev Y_J9_max_7cf53 : YT := (yJ9_max_7cf53, cJ9_max_7cf53, 2, some .int)
theorem cy_J9_max_7cf53 : CY Y_J9_max_7cf53 2 := ⟨bw_of (i := 366) (w := Cond.code yJ9_max_7cf53 cJ9_max_7cf53 2 (some .int)) (by decide +kernel) rfl, bw_of (i := 49) (w := Cond.initialized yJ9_max_7cf53.cls) (by decide +kernel) rfl, by decide, by decide +kernel, by decide +kernel, by decide +kernel⟩
theorem cs_J9_max_7cf53 : Cond.static yJ9_max_7cf53 ∈ BW := bw_of (i := 365) (w := Cond.static yJ9_max_7cf53) (by decide +kernel) rfl
abbrev Y_X4_goOver : YT := (yX4_goOver, cX4_goOver, 7, none)
theorem cy_X4_goOver : CY Y_X4_goOver 1 := ⟨bw_of (i := 372) (w := Cond.code yX4_goOver cX4_goOver 7 (none)) (by decide +kernel) rfl, bw_of (i := 42) (w := Cond.initialized yX4_goOver.cls) (by decide +kernel) rfl, by decide, by decide +kernel, by decide +kernel, by decide +kernel⟩
theorem ci_X4_goOver : CI Y_X4_goOver := ⟨bw_of (i := 371) (w := Cond.instanceMethod yX4_goOver) (by decide +kernel) rfl, bw_of (i := 4) (w := Cond.selects yX4_goOver.cls yX4_goOver yX4_goOver) (by decide +kernel) rfl⟩
abbrev Y_X4_leastBetween : YT := (yX4_leastBetween, cX4_leastBetween, 3, some .int)
theorem cy_X4_leastBetween : CY Y_X4_leastBetween 2 := ⟨bw_of (i := 377) (w := Cond.code yX4_leastBetween cX4_leastBetween 3 (some .int)) (by decide +kernel) rfl, bw_of (i := 42) (w := Cond.initialized yX4_leastBetween.cls) (by decide +kernel) rfl, by decide, by decide +kernel, by decide +kernel, by decide +kernel⟩
theorem ci_X4_leastBetween : CI Y_X4_leastBetween := ⟨bw_of (i := 375) (w := Cond.instanceMethod yX4_leastBetween) (by decide +kernel) rfl, bw_of (i := 376) (w := Cond.selects yX4_leastBetween.cls yX4_leastBetween yX4_leastBetween) (by decide +kernel) rfl⟩
abbrev Y_X10_allow : YT := (yX10_allow, cX10_allow, 2, some .int)
theorem cy_X10_allow : CY Y_X10_allow 1 := ⟨bw_of (i := 382) (w := Cond.code yX10_allow cX10_allow 2 (some .int)) (by decide +kernel) rfl, bw_of (i := 38) (w := Cond.initialized yX10_allow.cls) (by decide +kernel) rfl, by decide, by decide +kernel, by decide +kernel, by decide +kernel⟩
theorem ci_X10_allow : CI Y_X10_allow := ⟨bw_of (i := 380) (w := Cond.instanceMethod yX10_allow) (by decide +kernel) rfl, bw_of (i := 381) (w := Cond.selects yX10_allow.cls yX10_allow yX10_allow) (by decide +kernel) rfl⟩
abbrev Y_X10_isSet : YT := (yX10_isSet, cX10_isSet, 1, some .boolean)
theorem cy_X10_isSet : CY Y_X10_isSet 1 := ⟨bw_of (i := 385) (w := Cond.code yX10_isSet cX10_isSet 1 (some .boolean)) (by decide +kernel) rfl, bw_of (i := 38) (w := Cond.initialized yX10_isSet.cls) (by decide +kernel) rfl, by decide, by decide +kernel, by decide +kernel, by decide +kernel⟩
theorem cs_X10_isSet : Cond.static yX10_isSet ∈ BW := bw_of (i := 384) (w := Cond.static yX10_isSet) (by decide +kernel) rfl
abbrev Y_X6_add : YT := (yX6_add, cX6_add, 3, some .int)
theorem cy_X6_add : CY Y_X6_add 1 := ⟨bw_of (i := 389) (w := Cond.code yX6_add cX6_add 3 (some .int)) (by decide +kernel) rfl, bw_of (i := 41) (w := Cond.initialized yX6_add.cls) (by decide +kernel) rfl, by decide, by decide +kernel, by decide +kernel, by decide +kernel⟩
theorem ci_X6_add : CI Y_X6_add := ⟨bw_of (i := 387) (w := Cond.instanceMethod yX6_add) (by decide +kernel) rfl, bw_of (i := 388) (w := Cond.selects yX6_add.cls yX6_add yX6_add) (by decide +kernel) rfl⟩
abbrev Y_X10_name : YT := (yX10_name, cX10_name, 2, some .int)
theorem cy_X10_name : CY Y_X10_name 0 := ⟨bw_of (i := 393) (w := Cond.code yX10_name cX10_name 2 (some .int)) (by decide +kernel) rfl, bw_of (i := 38) (w := Cond.initialized yX10_name.cls) (by decide +kernel) rfl, by decide, by decide +kernel, by decide +kernel, by decide +kernel⟩
theorem ci_X10_name : CI Y_X10_name := ⟨bw_of (i := 391) (w := Cond.instanceMethod yX10_name) (by decide +kernel) rfl, bw_of (i := 392) (w := Cond.selects yX10_name.cls yX10_name yX10_name) (by decide +kernel) rfl⟩
abbrev Y_X10_judgeTape : YT := (yX10_judgeTape, cX10_judgeTape, 5, none)
theorem cy_X10_judgeTape : CY Y_X10_judgeTape 1 := ⟨bw_of (i := 397) (w := Cond.code yX10_judgeTape cX10_judgeTape 5 (none)) (by decide +kernel) rfl, bw_of (i := 38) (w := Cond.initialized yX10_judgeTape.cls) (by decide +kernel) rfl, by decide, by decide +kernel, by decide +kernel, by decide +kernel⟩
theorem ci_X10_judgeTape : CI Y_X10_judgeTape := ⟨bw_of (i := 396) (w := Cond.instanceMethod yX10_judgeTape) (by decide +kernel) rfl, bw_of (i := 5) (w := Cond.selects yX10_judgeTape.cls yX10_judgeTape yX10_judgeTape) (by decide +kernel) rfl⟩
abbrev Y_X10_setFault : YT := (yX10_setFault, cX10_setFault, 3, none)
theorem cy_X10_setFault : CY Y_X10_setFault 2 := ⟨bw_of (i := 401) (w := Cond.code yX10_setFault cX10_setFault 3 (none)) (by decide +kernel) rfl, bw_of (i := 38) (w := Cond.initialized yX10_setFault.cls) (by decide +kernel) rfl, by decide, by decide +kernel, by decide +kernel, by decide +kernel⟩
theorem ci_X10_setFault : CI Y_X10_setFault := ⟨bw_of (i := 400) (w := Cond.instanceMethod yX10_setFault) (by decide +kernel) rfl, bw_of (i := 6) (w := Cond.selects yX10_setFault.cls yX10_setFault yX10_setFault) (by decide +kernel) rfl⟩
abbrev Y_X8_init : YT := (yX8_init, cX8_init, 3, none)
theorem cy_X8_init : CY Y_X8_init 2 := ⟨bw_of (i := 407) (w := Cond.code yX8_init cX8_init 3 (none)) (by decide +kernel) rfl, bw_of (i := 50) (w := Cond.initialized yX8_init.cls) (by decide +kernel) rfl, by decide, by decide +kernel, by decide +kernel, by decide +kernel⟩
theorem ci_X8_init : Cond.instanceMethod yX8_init ∈ BW := bw_of (i := 406) (w := Cond.instanceMethod yX8_init) (by decide +kernel) rfl
abbrev Y_J7_copyOf_59c91 : YT := (yJ7_copyOf_59c91, cJ7_copyOf_59c91, 3, some (.array .int))
theorem cy_J7_copyOf_59c91 : CY Y_J7_copyOf_59c91 2 := ⟨bw_of (i := 413) (w := Cond.code yJ7_copyOf_59c91 cJ7_copyOf_59c91 3 (some (.array .int))) (by decide +kernel) rfl, bw_of (i := 40) (w := Cond.initialized yJ7_copyOf_59c91.cls) (by decide +kernel) rfl, by decide, by decide +kernel, by decide +kernel, by decide +kernel⟩
theorem cs_J7_copyOf_59c91 : Cond.static yJ7_copyOf_59c91 ∈ BW := bw_of (i := 412) (w := Cond.static yJ7_copyOf_59c91) (by decide +kernel) rfl
abbrev Y_X8_look : YT := (yX8_look, cX8_look, 6, none)
theorem cy_X8_look : CY Y_X8_look 1 := ⟨bw_of (i := 456) (w := Cond.code yX8_look cX8_look 6 (none)) (by decide +kernel) rfl, bw_of (i := 50) (w := Cond.initialized yX8_look.cls) (by decide +kernel) rfl, by decide, by decide +kernel, by decide +kernel, by decide +kernel⟩
theorem ci_X8_look : CI Y_X8_look := ⟨bw_of (i := 454) (w := Cond.instanceMethod yX8_look) (by decide +kernel) rfl, bw_of (i := 455) (w := Cond.selects yX8_look.cls yX8_look yX8_look) (by decide +kernel) rfl⟩
abbrev Y_X8_turnFrom : YT := (yX8_turnFrom, cX8_turnFrom, 5, none)
theorem cy_X8_turnFrom : CY Y_X8_turnFrom 1 := ⟨bw_of (i := 461) (w := Cond.code yX8_turnFrom cX8_turnFrom 5 (none)) (by decide +kernel) rfl, bw_of (i := 50) (w := Cond.initialized yX8_turnFrom.cls) (by decide +kernel) rfl, by decide, by decide +kernel, by decide +kernel, by decide +kernel⟩
theorem ci_X8_turnFrom : CI Y_X8_turnFrom := ⟨bw_of (i := 460) (w := Cond.instanceMethod yX8_turnFrom) (by decide +kernel) rfl, bw_of (i := 7) (w := Cond.selects yX8_turnFrom.cls yX8_turnFrom yX8_turnFrom) (by decide +kernel) rfl⟩
abbrev Y_X10_fault : YT := (yX10_fault, cX10_fault, 2, some .int)
theorem cy_X10_fault : CY Y_X10_fault 1 := ⟨bw_of (i := 465) (w := Cond.code yX10_fault cX10_fault 2 (some .int)) (by decide +kernel) rfl, bw_of (i := 38) (w := Cond.initialized yX10_fault.cls) (by decide +kernel) rfl, by decide, by decide +kernel, by decide +kernel, by decide +kernel⟩
theorem ci_X10_fault : CI Y_X10_fault := ⟨bw_of (i := 463) (w := Cond.instanceMethod yX10_fault) (by decide +kernel) rfl, bw_of (i := 464) (w := Cond.selects yX10_fault.cls yX10_fault yX10_fault) (by decide +kernel) rfl⟩
abbrev Y_X10_about : YT := (yX10_about, cX10_about, 2, some .int)
theorem cy_X10_about : CY Y_X10_about 1 := ⟨bw_of (i := 469) (w := Cond.code yX10_about cX10_about 2 (some .int)) (by decide +kernel) rfl, bw_of (i := 38) (w := Cond.initialized yX10_about.cls) (by decide +kernel) rfl, by decide, by decide +kernel, by decide +kernel, by decide +kernel⟩
theorem ci_X10_about : CI Y_X10_about := ⟨bw_of (i := 467) (w := Cond.instanceMethod yX10_about) (by decide +kernel) rfl, bw_of (i := 468) (w := Cond.selects yX10_about.cls yX10_about yX10_about) (by decide +kernel) rfl⟩
abbrev Y_X8_scriptBits : YT := (yX8_scriptBits, cX8_scriptBits, 4, some .int)
theorem cy_X8_scriptBits : CY Y_X8_scriptBits 1 := ⟨bw_of (i := 473) (w := Cond.code yX8_scriptBits cX8_scriptBits 4 (some .int)) (by decide +kernel) rfl, bw_of (i := 50) (w := Cond.initialized yX8_scriptBits.cls) (by decide +kernel) rfl, by decide, by decide +kernel, by decide +kernel, by decide +kernel⟩
theorem ci_X8_scriptBits : CI Y_X8_scriptBits := ⟨bw_of (i := 471) (w := Cond.instanceMethod yX8_scriptBits) (by decide +kernel) rfl, bw_of (i := 472) (w := Cond.selects yX8_scriptBits.cls yX8_scriptBits yX8_scriptBits) (by decide +kernel) rfl⟩
abbrev Y_X10_isMixed : YT := (yX10_isMixed, cX10_isMixed, 3, some .boolean)
theorem cy_X10_isMixed : CY Y_X10_isMixed 1 := ⟨bw_of (i := 478) (w := Cond.code yX10_isMixed cX10_isMixed 3 (some .boolean)) (by decide +kernel) rfl, bw_of (i := 38) (w := Cond.initialized yX10_isMixed.cls) (by decide +kernel) rfl, by decide, by decide +kernel, by decide +kernel, by decide +kernel⟩
theorem ci_X10_isMixed : CI Y_X10_isMixed := ⟨bw_of (i := 477) (w := Cond.instanceMethod yX10_isMixed) (by decide +kernel) rfl, bw_of (i := 8) (w := Cond.selects yX10_isMixed.cls yX10_isMixed yX10_isMixed) (by decide +kernel) rfl⟩
abbrev Y_J6_bitCount_0f7a4 : YT := (yJ6_bitCount_0f7a4, cJ6_bitCount_0f7a4, 1, some .int)
theorem cy_J6_bitCount_0f7a4 : CY Y_J6_bitCount_0f7a4 1 := ⟨bw_of (i := 481) (w := Cond.code yJ6_bitCount_0f7a4 cJ6_bitCount_0f7a4 1 (some .int)) (by decide +kernel) rfl, bw_of (i := 52) (w := Cond.initialized yJ6_bitCount_0f7a4.cls) (by decide +kernel) rfl, by decide, by decide +kernel, by decide +kernel, by decide +kernel⟩
theorem cs_J6_bitCount_0f7a4 : Cond.static yJ6_bitCount_0f7a4 ∈ BW := bw_of (i := 480) (w := Cond.static yJ6_bitCount_0f7a4) (by decide +kernel) rfl
abbrev Y_X6_holdTogether : YT := (yX6_holdTogether, cX6_holdTogether, 3, some .boolean)
theorem cy_X6_holdTogether : CY Y_X6_holdTogether 1 := ⟨bw_of (i := 488) (w := Cond.code yX6_holdTogether cX6_holdTogether 3 (some .boolean)) (by decide +kernel) rfl, bw_of (i := 41) (w := Cond.initialized yX6_holdTogether.cls) (by decide +kernel) rfl, by decide, by decide +kernel, by decide +kernel, by decide +kernel⟩
theorem ci_X6_holdTogether : CI Y_X6_holdTogether := ⟨bw_of (i := 486) (w := Cond.instanceMethod yX6_holdTogether) (by decide +kernel) rfl, bw_of (i := 487) (w := Cond.selects yX6_holdTogether.cls yX6_holdTogether yX6_holdTogether) (by decide +kernel) rfl⟩
abbrev Y_X10_bit : YT := (yX10_bit, cX10_bit, 1, some .int)
theorem cy_X10_bit : CY Y_X10_bit 1 := ⟨bw_of (i := 491) (w := Cond.code yX10_bit cX10_bit 1 (some .int)) (by decide +kernel) rfl, bw_of (i := 38) (w := Cond.initialized yX10_bit.cls) (by decide +kernel) rfl, by decide, by decide +kernel, by decide +kernel, by decide +kernel⟩
theorem cs_X10_bit : Cond.static yX10_bit ∈ BW := bw_of (i := 490) (w := Cond.static yX10_bit) (by decide +kernel) rfl
abbrev Y_X8_has : YT := (yX8_has, cX8_has, 4, some .boolean)
theorem cy_X8_has : CY Y_X8_has 2 := ⟨bw_of (i := 495) (w := Cond.code yX8_has cX8_has 4 (some .boolean)) (by decide +kernel) rfl, bw_of (i := 50) (w := Cond.initialized yX8_has.cls) (by decide +kernel) rfl, by decide, by decide +kernel, by decide +kernel, by decide +kernel⟩
theorem ci_X8_has : CI Y_X8_has := ⟨bw_of (i := 493) (w := Cond.instanceMethod yX8_has) (by decide +kernel) rfl, bw_of (i := 494) (w := Cond.selects yX8_has.cls yX8_has yX8_has) (by decide +kernel) rfl⟩
abbrev Y_X8_isPadded : YT := (yX8_isPadded, cX8_isPadded, 2, some .boolean)
theorem cy_X8_isPadded : CY Y_X8_isPadded 1 := ⟨bw_of (i := 499) (w := Cond.code yX8_isPadded cX8_isPadded 2 (some .boolean)) (by decide +kernel) rfl, bw_of (i := 50) (w := Cond.initialized yX8_isPadded.cls) (by decide +kernel) rfl, by decide, by decide +kernel, by decide +kernel, by decide +kernel⟩
theorem ci_X8_isPadded : CI Y_X8_isPadded := ⟨bw_of (i := 497) (w := Cond.instanceMethod yX8_isPadded) (by decide +kernel) rfl, bw_of (i := 498) (w := Cond.selects yX8_isPadded.cls yX8_isPadded yX8_isPadded) (by decide +kernel) rfl⟩
abbrev Y_X8_seenAt : YT := (yX8_seenAt, cX8_seenAt, 2, some .int)
theorem cy_X8_seenAt : CY Y_X8_seenAt 1 := ⟨bw_of (i := 503) (w := Cond.code yX8_seenAt cX8_seenAt 2 (some .int)) (by decide +kernel) rfl, bw_of (i := 50) (w := Cond.initialized yX8_seenAt.cls) (by decide +kernel) rfl, by decide, by decide +kernel, by decide +kernel, by decide +kernel⟩
theorem ci_X8_seenAt : CI Y_X8_seenAt := ⟨bw_of (i := 501) (w := Cond.instanceMethod yX8_seenAt) (by decide +kernel) rfl, bw_of (i := 502) (w := Cond.selects yX8_seenAt.cls yX8_seenAt yX8_seenAt) (by decide +kernel) rfl⟩
abbrev Y_X10_rule : YT := (yX10_rule, cX10_rule, 6, some .int)
theorem cy_X10_rule : CY Y_X10_rule 4 := ⟨bw_of (i := 507) (w := Cond.code yX10_rule cX10_rule 6 (some .int)) (by decide +kernel) rfl, bw_of (i := 38) (w := Cond.initialized yX10_rule.cls) (by decide +kernel) rfl, by decide, by decide +kernel, by decide +kernel, by decide +kernel⟩
theorem ci_X10_rule : CI Y_X10_rule := ⟨bw_of (i := 505) (w := Cond.instanceMethod yX10_rule) (by decide +kernel) rfl, bw_of (i := 506) (w := Cond.selects yX10_rule.cls yX10_rule yX10_rule) (by decide +kernel) rfl⟩
abbrev Y_X10_registerAt : YT := (yX10_registerAt, cX10_registerAt, 2, some (.object "NameGuard$Register"))
theorem cy_X10_registerAt : CY Y_X10_registerAt 1 := ⟨bw_of (i := 511) (w := Cond.code yX10_registerAt cX10_registerAt 2 (some (.object "NameGuard$Register"))) (by decide +kernel) rfl, bw_of (i := 38) (w := Cond.initialized yX10_registerAt.cls) (by decide +kernel) rfl, by decide, by decide +kernel, by decide +kernel, by decide +kernel⟩
theorem ci_X10_registerAt : CI Y_X10_registerAt := ⟨bw_of (i := 510) (w := Cond.instanceMethod yX10_registerAt) (by decide +kernel) rfl, bw_of (i := 9) (w := Cond.selects yX10_registerAt.cls yX10_registerAt yX10_registerAt) (by decide +kernel) rfl⟩
abbrev Y_X10_ask : YT := (yX10_ask, cX10_ask, 3, some .int)
theorem cy_X10_ask : CY Y_X10_ask 2 := ⟨bw_of (i := 515) (w := Cond.code yX10_ask cX10_ask 3 (some .int)) (by decide +kernel) rfl, bw_of (i := 38) (w := Cond.initialized yX10_ask.cls) (by decide +kernel) rfl, by decide, by decide +kernel, by decide +kernel, by decide +kernel⟩
theorem ci_X10_ask : CI Y_X10_ask := ⟨bw_of (i := 513) (w := Cond.instanceMethod yX10_ask) (by decide +kernel) rfl, bw_of (i := 514) (w := Cond.selects yX10_ask.cls yX10_ask yX10_ask) (by decide +kernel) rfl⟩
abbrev Y_X10_verdict : YT := (yX10_verdict, cX10_verdict, 6, some .int)
theorem cy_X10_verdict : CY Y_X10_verdict 2 := ⟨bw_of (i := 519) (w := Cond.code yX10_verdict cX10_verdict 6 (some .int)) (by decide +kernel) rfl, bw_of (i := 38) (w := Cond.initialized yX10_verdict.cls) (by decide +kernel) rfl, by decide, by decide +kernel, by decide +kernel, by decide +kernel⟩
theorem ci_X10_verdict : CI Y_X10_verdict := ⟨bw_of (i := 518) (w := Cond.instanceMethod yX10_verdict) (by decide +kernel) rfl, bw_of (i := 10) (w := Cond.selects yX10_verdict.cls yX10_verdict yX10_verdict) (by decide +kernel) rfl⟩
abbrev Y_X10_isHeld : YT := (yX10_isHeld, cX10_isHeld, 5, some .boolean)
theorem cy_X10_isHeld : CY Y_X10_isHeld 2 := ⟨bw_of (i := 523) (w := Cond.code yX10_isHeld cX10_isHeld 5 (some .boolean)) (by decide +kernel) rfl, bw_of (i := 38) (w := Cond.initialized yX10_isHeld.cls) (by decide +kernel) rfl, by decide, by decide +kernel, by decide +kernel, by decide +kernel⟩
theorem ci_X10_isHeld : CI Y_X10_isHeld := ⟨bw_of (i := 522) (w := Cond.instanceMethod yX10_isHeld) (by decide +kernel) rfl, bw_of (i := 11) (w := Cond.selects yX10_isHeld.cls yX10_isHeld yX10_isHeld) (by decide +kernel) rfl⟩
abbrev Y_X10_standingAt : YT := (yX10_standingAt, cX10_standingAt, 3, some (.object "NameGuard$Entry"))
theorem cy_X10_standingAt : CY Y_X10_standingAt 1 := ⟨bw_of (i := 527) (w := Cond.code yX10_standingAt cX10_standingAt 3 (some (.object "NameGuard$Entry"))) (by decide +kernel) rfl, bw_of (i := 38) (w := Cond.initialized yX10_standingAt.cls) (by decide +kernel) rfl, by decide, by decide +kernel, by decide +kernel, by decide +kernel⟩
theorem ci_X10_standingAt : CI Y_X10_standingAt := ⟨bw_of (i := 526) (w := Cond.instanceMethod yX10_standingAt) (by decide +kernel) rfl, bw_of (i := 12) (w := Cond.selects yX10_standingAt.cls yX10_standingAt yX10_standingAt) (by decide +kernel) rfl⟩
abbrev Y_X10_entryAt : YT := (yX10_entryAt, cX10_entryAt, 2, some (.object "NameGuard$Entry"))
theorem cy_X10_entryAt : CY Y_X10_entryAt 1 := ⟨bw_of (i := 531) (w := Cond.code yX10_entryAt cX10_entryAt 2 (some (.object "NameGuard$Entry"))) (by decide +kernel) rfl, bw_of (i := 38) (w := Cond.initialized yX10_entryAt.cls) (by decide +kernel) rfl, by decide, by decide +kernel, by decide +kernel, by decide +kernel⟩
theorem ci_X10_entryAt : CI Y_X10_entryAt := ⟨bw_of (i := 530) (w := Cond.instanceMethod yX10_entryAt) (by decide +kernel) rfl, bw_of (i := 13) (w := Cond.selects yX10_entryAt.cls yX10_entryAt yX10_entryAt) (by decide +kernel) rfl⟩
abbrev Y_X8_isSeenAs : YT := (yX8_isSeenAs, cX8_isSeenAs, 3, some .boolean)
theorem cy_X8_isSeenAs : CY Y_X8_isSeenAs 1 := ⟨bw_of (i := 535) (w := Cond.code yX8_isSeenAs cX8_isSeenAs 3 (some .boolean)) (by decide +kernel) rfl, bw_of (i := 50) (w := Cond.initialized yX8_isSeenAs.cls) (by decide +kernel) rfl, by decide, by decide +kernel, by decide +kernel, by decide +kernel⟩
theorem ci_X8_isSeenAs : CI Y_X8_isSeenAs := ⟨bw_of (i := 533) (w := Cond.instanceMethod yX8_isSeenAs) (by decide +kernel) rfl, bw_of (i := 534) (w := Cond.selects yX8_isSeenAs.cls yX8_isSeenAs yX8_isSeenAs) (by decide +kernel) rfl⟩
abbrev Y_X10_leastToOthers : YT := (yX10_leastToOthers, cX10_leastToOthers, 9, some .int)
theorem cy_X10_leastToOthers : CY Y_X10_leastToOthers 4 := ⟨bw_of (i := 540) (w := Cond.code yX10_leastToOthers cX10_leastToOthers 9 (some .int)) (by decide +kernel) rfl, bw_of (i := 38) (w := Cond.initialized yX10_leastToOthers.cls) (by decide +kernel) rfl, by decide, by decide +kernel, by decide +kernel, by decide +kernel⟩
theorem ci_X10_leastToOthers : CI Y_X10_leastToOthers := ⟨bw_of (i := 539) (w := Cond.instanceMethod yX10_leastToOthers) (by decide +kernel) rfl, bw_of (i := 14) (w := Cond.selects yX10_leastToOthers.cls yX10_leastToOthers yX10_leastToOthers) (by decide +kernel) rfl⟩
abbrev Y_X10_costBetween : YT := (yX10_costBetween, cX10_costBetween, 4, some .int)
theorem cy_X10_costBetween : CY Y_X10_costBetween 3 := ⟨bw_of (i := 545) (w := Cond.code yX10_costBetween cX10_costBetween 4 (some .int)) (by decide +kernel) rfl, bw_of (i := 38) (w := Cond.initialized yX10_costBetween.cls) (by decide +kernel) rfl, by decide, by decide +kernel, by decide +kernel, by decide +kernel⟩
theorem ci_X10_costBetween : CI Y_X10_costBetween := ⟨bw_of (i := 544) (w := Cond.instanceMethod yX10_costBetween) (by decide +kernel) rfl, bw_of (i := 15) (w := Cond.selects yX10_costBetween.cls yX10_costBetween yX10_costBetween) (by decide +kernel) rfl⟩
abbrev Y_X8_findPieces : YT := (yX8_findPieces, cX8_findPieces, 3, none)
theorem cy_X8_findPieces : CY Y_X8_findPieces 1 := ⟨bw_of (i := 549) (w := Cond.code yX8_findPieces cX8_findPieces 3 (none)) (by decide +kernel) rfl, bw_of (i := 50) (w := Cond.initialized yX8_findPieces.cls) (by decide +kernel) rfl, by decide, by decide +kernel, by decide +kernel, by decide +kernel⟩
theorem ci_X8_findPieces : CI Y_X8_findPieces := ⟨bw_of (i := 547) (w := Cond.instanceMethod yX8_findPieces) (by decide +kernel) rfl, bw_of (i := 548) (w := Cond.selects yX8_findPieces.cls yX8_findPieces yX8_findPieces) (by decide +kernel) rfl⟩
abbrev Y_X8_pieceAt : YT := (yX8_pieceAt, cX8_pieceAt, 3, some .int)
theorem cy_X8_pieceAt : CY Y_X8_pieceAt 2 := ⟨bw_of (i := 554) (w := Cond.code yX8_pieceAt cX8_pieceAt 3 (some .int)) (by decide +kernel) rfl, bw_of (i := 50) (w := Cond.initialized yX8_pieceAt.cls) (by decide +kernel) rfl, by decide, by decide +kernel, by decide +kernel, by decide +kernel⟩
theorem ci_X8_pieceAt : CI Y_X8_pieceAt := ⟨bw_of (i := 552) (w := Cond.instanceMethod yX8_pieceAt) (by decide +kernel) rfl, bw_of (i := 553) (w := Cond.selects yX8_pieceAt.cls yX8_pieceAt yX8_pieceAt) (by decide +kernel) rfl⟩
abbrev Y_X1_leastWithin : YT := (yX1_leastWithin, cX1_leastWithin, 9, some .int)
theorem cy_X1_leastWithin : CY Y_X1_leastWithin 3 := ⟨bw_of (i := 558) (w := Cond.code yX1_leastWithin cX1_leastWithin 9 (some .int)) (by decide +kernel) rfl, bw_of (i := 44) (w := Cond.initialized yX1_leastWithin.cls) (by decide +kernel) rfl, by decide, by decide +kernel, by decide +kernel, by decide +kernel⟩
theorem ci_X1_leastWithin : CI Y_X1_leastWithin := ⟨bw_of (i := 556) (w := Cond.instanceMethod yX1_leastWithin) (by decide +kernel) rfl, bw_of (i := 557) (w := Cond.selects yX1_leastWithin.cls yX1_leastWithin yX1_leastWithin) (by decide +kernel) rfl⟩
abbrev Y_X1_fillRow : YT := (yX1_fillRow, cX1_fillRow, 12, some .int)
theorem cy_X1_fillRow : CY Y_X1_fillRow 3 := ⟨bw_of (i := 564) (w := Cond.code yX1_fillRow cX1_fillRow 12 (some .int)) (by decide +kernel) rfl, bw_of (i := 44) (w := Cond.initialized yX1_fillRow.cls) (by decide +kernel) rfl, by decide, by decide +kernel, by decide +kernel, by decide +kernel⟩
theorem ci_X1_fillRow : CI Y_X1_fillRow := ⟨bw_of (i := 563) (w := Cond.instanceMethod yX1_fillRow) (by decide +kernel) rfl, bw_of (i := 16) (w := Cond.selects yX1_fillRow.cls yX1_fillRow yX1_fillRow) (by decide +kernel) rfl⟩
abbrev Y_X1_costBy : YT := (yX1_costBy, cX1_costBy, 9, some .int)
theorem cy_X1_costBy : CY Y_X1_costBy 5 := ⟨bw_of (i := 570) (w := Cond.code yX1_costBy cX1_costBy 9 (some .int)) (by decide +kernel) rfl, bw_of (i := 44) (w := Cond.initialized yX1_costBy.cls) (by decide +kernel) rfl, by decide, by decide +kernel, by decide +kernel, by decide +kernel⟩
theorem ci_X1_costBy : CI Y_X1_costBy := ⟨bw_of (i := 569) (w := Cond.instanceMethod yX1_costBy) (by decide +kernel) rfl, bw_of (i := 17) (w := Cond.selects yX1_costBy.cls yX1_costBy yX1_costBy) (by decide +kernel) rfl⟩
abbrev Y_X8_pieceIndexAt : YT := (yX8_pieceIndexAt, cX8_pieceIndexAt, 3, some .int)
theorem cy_X8_pieceIndexAt : CY Y_X8_pieceIndexAt 2 := ⟨bw_of (i := 579) (w := Cond.code yX8_pieceIndexAt cX8_pieceIndexAt 3 (some .int)) (by decide +kernel) rfl, bw_of (i := 50) (w := Cond.initialized yX8_pieceIndexAt.cls) (by decide +kernel) rfl, by decide, by decide +kernel, by decide +kernel, by decide +kernel⟩
theorem ci_X8_pieceIndexAt : CI Y_X8_pieceIndexAt := ⟨bw_of (i := 577) (w := Cond.instanceMethod yX8_pieceIndexAt) (by decide +kernel) rfl, bw_of (i := 578) (w := Cond.selects yX8_pieceIndexAt.cls yX8_pieceIndexAt yX8_pieceIndexAt) (by decide +kernel) rfl⟩
abbrev Y_X10_enter : YT := (yX10_enter, cX10_enter, 4, some .int)
theorem cy_X10_enter : CY Y_X10_enter 2 := ⟨bw_of (i := 584) (w := Cond.code yX10_enter cX10_enter 4 (some .int)) (by decide +kernel) rfl, bw_of (i := 38) (w := Cond.initialized yX10_enter.cls) (by decide +kernel) rfl, by decide, by decide +kernel, by decide +kernel, by decide +kernel⟩
theorem ci_X10_enter : CI Y_X10_enter := ⟨bw_of (i := 582) (w := Cond.instanceMethod yX10_enter) (by decide +kernel) rfl, bw_of (i := 583) (w := Cond.selects yX10_enter.cls yX10_enter yX10_enter) (by decide +kernel) rfl⟩
abbrev Y_X0_init : YT := (yX0_init, cX0_init, 4, none)
theorem cy_X0_init : CY Y_X0_init 3 := ⟨bw_of (i := 588) (w := Cond.code yX0_init cX0_init 4 (none)) (by decide +kernel) rfl, bw_of (i := 53) (w := Cond.initialized yX0_init.cls) (by decide +kernel) rfl, by decide, by decide +kernel, by decide +kernel, by decide +kernel⟩
theorem ci_X0_init : Cond.instanceMethod yX0_init ∈ BW := bw_of (i := 587) (w := Cond.instanceMethod yX0_init) (by decide +kernel) rfl
abbrev Y_X10_strike : YT := (yX10_strike, cX10_strike, 3, some .int)
theorem cy_X10_strike : CY Y_X10_strike 1 := ⟨bw_of (i := 610) (w := Cond.code yX10_strike cX10_strike 3 (some .int)) (by decide +kernel) rfl, bw_of (i := 38) (w := Cond.initialized yX10_strike.cls) (by decide +kernel) rfl, by decide, by decide +kernel, by decide +kernel, by decide +kernel⟩
theorem ci_X10_strike : CI Y_X10_strike := ⟨bw_of (i := 608) (w := Cond.instanceMethod yX10_strike) (by decide +kernel) rfl, bw_of (i := 609) (w := Cond.selects yX10_strike.cls yX10_strike yX10_strike) (by decide +kernel) rfl⟩
abbrev Y_X10_entry : YT := (yX10_entry, cX10_entry, 4, some .int)
theorem cy_X10_entry : CY Y_X10_entry 2 := ⟨bw_of (i := 614) (w := Cond.code yX10_entry cX10_entry 4 (some .int)) (by decide +kernel) rfl, bw_of (i := 38) (w := Cond.initialized yX10_entry.cls) (by decide +kernel) rfl, by decide, by decide +kernel, by decide +kernel, by decide +kernel⟩
theorem ci_X10_entry : CI Y_X10_entry := ⟨bw_of (i := 612) (w := Cond.instanceMethod yX10_entry) (by decide +kernel) rfl, bw_of (i := 613) (w := Cond.selects yX10_entry.cls yX10_entry yX10_entry) (by decide +kernel) rfl⟩
abbrev Y_X8_toldAt : YT := (yX8_toldAt, cX8_toldAt, 2, some .int)
theorem cy_X8_toldAt : CY Y_X8_toldAt 1 := ⟨bw_of (i := 618) (w := Cond.code yX8_toldAt cX8_toldAt 2 (some .int)) (by decide +kernel) rfl, bw_of (i := 50) (w := Cond.initialized yX8_toldAt.cls) (by decide +kernel) rfl, by decide, by decide +kernel, by decide +kernel, by decide +kernel⟩
theorem ci_X8_toldAt : CI Y_X8_toldAt := ⟨bw_of (i := 616) (w := Cond.instanceMethod yX8_toldAt) (by decide +kernel) rfl, bw_of (i := 617) (w := Cond.selects yX8_toldAt.cls yX8_toldAt yX8_toldAt) (by decide +kernel) rfl⟩
abbrev Y_X10_far : YT := (yX10_far, cX10_far, 3, some .int)
theorem cy_X10_far : CY Y_X10_far 1 := ⟨bw_of (i := 622) (w := Cond.code yX10_far cX10_far 3 (some .int)) (by decide +kernel) rfl, bw_of (i := 38) (w := Cond.initialized yX10_far.cls) (by decide +kernel) rfl, by decide, by decide +kernel, by decide +kernel, by decide +kernel⟩
theorem ci_X10_far : CI Y_X10_far := ⟨bw_of (i := 620) (w := Cond.instanceMethod yX10_far) (by decide +kernel) rfl, bw_of (i := 621) (w := Cond.selects yX10_far.cls yX10_far yX10_far) (by decide +kernel) rfl⟩
abbrev Y_X10_near : YT := (yX10_near, cX10_near, 6, some .int)
theorem cy_X10_near : CY Y_X10_near 2 := ⟨bw_of (i := 627) (w := Cond.code yX10_near cX10_near 6 (some .int)) (by decide +kernel) rfl, bw_of (i := 38) (w := Cond.initialized yX10_near.cls) (by decide +kernel) rfl, by decide, by decide +kernel, by decide +kernel, by decide +kernel⟩
theorem ci_X10_near : CI Y_X10_near := ⟨bw_of (i := 625) (w := Cond.instanceMethod yX10_near) (by decide +kernel) rfl, bw_of (i := 626) (w := Cond.selects yX10_near.cls yX10_near yX10_near) (by decide +kernel) rfl⟩
abbrev Y_X2_insert : YT := (yX2_insert, cX2_insert, 4, none)
theorem cy_X2_insert : CY Y_X2_insert 2 := ⟨bw_of (i := 631) (w := Cond.code yX2_insert cX2_insert 4 (none)) (by decide +kernel) rfl, bw_of (i := 45) (w := Cond.initialized yX2_insert.cls) (by decide +kernel) rfl, by decide, by decide +kernel, by decide +kernel, by decide +kernel⟩
theorem ci_X2_insert : CI Y_X2_insert := ⟨bw_of (i := 629) (w := Cond.instanceMethod yX2_insert) (by decide +kernel) rfl, bw_of (i := 630) (w := Cond.selects yX2_insert.cls yX2_insert yX2_insert) (by decide +kernel) rfl⟩
abbrev Y_X10_nearest : YT := (yX10_nearest, cX10_nearest, 3, some .int)
theorem cy_X10_nearest : CY Y_X10_nearest 2 := ⟨bw_of (i := 635) (w := Cond.code yX10_nearest cX10_nearest 3 (some .int)) (by decide +kernel) rfl, bw_of (i := 38) (w := Cond.initialized yX10_nearest.cls) (by decide +kernel) rfl, by decide, by decide +kernel, by decide +kernel, by decide +kernel⟩
theorem ci_X10_nearest : CI Y_X10_nearest := ⟨bw_of (i := 633) (w := Cond.instanceMethod yX10_nearest) (by decide +kernel) rfl, bw_of (i := 634) (w := Cond.selects yX10_nearest.cls yX10_nearest yX10_nearest) (by decide +kernel) rfl⟩
abbrev Y_X2_tell : YT := (yX2_tell, cX2_tell, 3, some .int)
theorem cy_X2_tell : CY Y_X2_tell 2 := ⟨bw_of (i := 639) (w := Cond.code yX2_tell cX2_tell 3 (some .int)) (by decide +kernel) rfl, bw_of (i := 45) (w := Cond.initialized yX2_tell.cls) (by decide +kernel) rfl, by decide, by decide +kernel, by decide +kernel, by decide +kernel⟩
theorem ci_X2_tell : CI Y_X2_tell := ⟨bw_of (i := 637) (w := Cond.instanceMethod yX2_tell) (by decide +kernel) rfl, bw_of (i := 638) (w := Cond.selects yX2_tell.cls yX2_tell yX2_tell) (by decide +kernel) rfl⟩
abbrev Y_X10_ways : YT := (yX10_ways, cX10_ways, 3, some .int)
theorem cy_X10_ways : CY Y_X10_ways 1 := ⟨bw_of (i := 643) (w := Cond.code yX10_ways cX10_ways 3 (some .int)) (by decide +kernel) rfl, bw_of (i := 38) (w := Cond.initialized yX10_ways.cls) (by decide +kernel) rfl, by decide, by decide +kernel, by decide +kernel, by decide +kernel⟩
theorem ci_X10_ways : CI Y_X10_ways := ⟨bw_of (i := 641) (w := Cond.instanceMethod yX10_ways) (by decide +kernel) rfl, bw_of (i := 642) (w := Cond.selects yX10_ways.cls yX10_ways yX10_ways) (by decide +kernel) rfl⟩
abbrev Y_X1_writeWay : YT := (yX1_writeWay, cX1_writeWay, 11, none)
theorem cy_X1_writeWay : CY Y_X1_writeWay 3 := ⟨bw_of (i := 647) (w := Cond.code yX1_writeWay cX1_writeWay 11 (none)) (by decide +kernel) rfl, bw_of (i := 44) (w := Cond.initialized yX1_writeWay.cls) (by decide +kernel) rfl, by decide, by decide +kernel, by decide +kernel, by decide +kernel⟩
theorem ci_X1_writeWay : CI Y_X1_writeWay := ⟨bw_of (i := 645) (w := Cond.instanceMethod yX1_writeWay) (by decide +kernel) rfl, bw_of (i := 646) (w := Cond.selects yX1_writeWay.cls yX1_writeWay yX1_writeWay) (by decide +kernel) rfl⟩
abbrev Y_X1_firstShape : YT := (yX1_firstShape, cX1_firstShape, 6, some .int)
theorem cy_X1_firstShape : CY Y_X1_firstShape 4 := ⟨bw_of (i := 651) (w := Cond.code yX1_firstShape cX1_firstShape 6 (some .int)) (by decide +kernel) rfl, bw_of (i := 44) (w := Cond.initialized yX1_firstShape.cls) (by decide +kernel) rfl, by decide, by decide +kernel, by decide +kernel, by decide +kernel⟩
theorem ci_X1_firstShape : CI Y_X1_firstShape := ⟨bw_of (i := 650) (w := Cond.instanceMethod yX1_firstShape) (by decide +kernel) rfl, bw_of (i := 18) (w := Cond.selects yX1_firstShape.cls yX1_firstShape yX1_firstShape) (by decide +kernel) rfl⟩
abbrev Y_X9_add : YT := (yX9_add, cX9_add, 4, none)
theorem cy_X9_add : CY Y_X9_add 3 := ⟨bw_of (i := 656) (w := Cond.code yX9_add cX9_add 4 (none)) (by decide +kernel) rfl, bw_of (i := 46) (w := Cond.initialized yX9_add.cls) (by decide +kernel) rfl, by decide, by decide +kernel, by decide +kernel, by decide +kernel⟩
theorem ci_X9_add : CI Y_X9_add := ⟨bw_of (i := 654) (w := Cond.instanceMethod yX9_add) (by decide +kernel) rfl, bw_of (i := 655) (w := Cond.selects yX9_add.cls yX9_add yX9_add) (by decide +kernel) rfl⟩
abbrev Y_X10_way : YT := (yX10_way, cX10_way, 3, some .int)
theorem cy_X10_way : CY Y_X10_way 2 := ⟨bw_of (i := 660) (w := Cond.code yX10_way cX10_way 3 (some .int)) (by decide +kernel) rfl, bw_of (i := 38) (w := Cond.initialized yX10_way.cls) (by decide +kernel) rfl, by decide, by decide +kernel, by decide +kernel, by decide +kernel⟩
theorem ci_X10_way : CI Y_X10_way := ⟨bw_of (i := 658) (w := Cond.instanceMethod yX10_way) (by decide +kernel) rfl, bw_of (i := 659) (w := Cond.selects yX10_way.cls yX10_way yX10_way) (by decide +kernel) rfl⟩
abbrev Y_X9_tell : YT := (yX9_tell, cX9_tell, 3, some .int)
theorem cy_X9_tell : CY Y_X9_tell 2 := ⟨bw_of (i := 664) (w := Cond.code yX9_tell cX9_tell 3 (some .int)) (by decide +kernel) rfl, bw_of (i := 46) (w := Cond.initialized yX9_tell.cls) (by decide +kernel) rfl, by decide, by decide +kernel, by decide +kernel, by decide +kernel⟩
theorem ci_X9_tell : CI Y_X9_tell := ⟨bw_of (i := 662) (w := Cond.instanceMethod yX9_tell) (by decide +kernel) rfl, bw_of (i := 663) (w := Cond.selects yX9_tell.cls yX9_tell yX9_tell) (by decide +kernel) rfl⟩
abbrev Y_X10_likes : YT := (yX10_likes, cX10_likes, 5, some .int)
theorem cy_X10_likes : CY Y_X10_likes 1 := ⟨bw_of (i := 668) (w := Cond.code yX10_likes cX10_likes 5 (some .int)) (by decide +kernel) rfl, bw_of (i := 38) (w := Cond.initialized yX10_likes.cls) (by decide +kernel) rfl, by decide, by decide +kernel, by decide +kernel, by decide +kernel⟩
theorem ci_X10_likes : CI Y_X10_likes := ⟨bw_of (i := 666) (w := Cond.instanceMethod yX10_likes) (by decide +kernel) rfl, bw_of (i := 667) (w := Cond.selects yX10_likes.cls yX10_likes yX10_likes) (by decide +kernel) rfl⟩
abbrev Y_X10_addPairsOf : YT := (yX10_addPairsOf, cX10_addPairsOf, 7, none)
theorem cy_X10_addPairsOf : CY Y_X10_addPairsOf 3 := ⟨bw_of (i := 672) (w := Cond.code yX10_addPairsOf cX10_addPairsOf 7 (none)) (by decide +kernel) rfl, bw_of (i := 38) (w := Cond.initialized yX10_addPairsOf.cls) (by decide +kernel) rfl, by decide, by decide +kernel, by decide +kernel, by decide +kernel⟩
theorem ci_X10_addPairsOf : CI Y_X10_addPairsOf := ⟨bw_of (i := 671) (w := Cond.instanceMethod yX10_addPairsOf) (by decide +kernel) rfl, bw_of (i := 19) (w := Cond.selects yX10_addPairsOf.cls yX10_addPairsOf yX10_addPairsOf) (by decide +kernel) rfl⟩
abbrev Y_X3_add : YT := (yX3_add, cX3_add, 4, none)
theorem cy_X3_add : CY Y_X3_add 3 := ⟨bw_of (i := 676) (w := Cond.code yX3_add cX3_add 4 (none)) (by decide +kernel) rfl, bw_of (i := 47) (w := Cond.initialized yX3_add.cls) (by decide +kernel) rfl, by decide, by decide +kernel, by decide +kernel, by decide +kernel⟩
theorem ci_X3_add : CI Y_X3_add := ⟨bw_of (i := 674) (w := Cond.instanceMethod yX3_add) (by decide +kernel) rfl, bw_of (i := 675) (w := Cond.selects yX3_add.cls yX3_add yX3_add) (by decide +kernel) rfl⟩
abbrev Y_X10_like : YT := (yX10_like, cX10_like, 3, some .int)
theorem cy_X10_like : CY Y_X10_like 2 := ⟨bw_of (i := 680) (w := Cond.code yX10_like cX10_like 3 (some .int)) (by decide +kernel) rfl, bw_of (i := 38) (w := Cond.initialized yX10_like.cls) (by decide +kernel) rfl, by decide, by decide +kernel, by decide +kernel, by decide +kernel⟩
theorem ci_X10_like : CI Y_X10_like := ⟨bw_of (i := 678) (w := Cond.instanceMethod yX10_like) (by decide +kernel) rfl, bw_of (i := 679) (w := Cond.selects yX10_like.cls yX10_like yX10_like) (by decide +kernel) rfl⟩
abbrev Y_X3_tell : YT := (yX3_tell, cX3_tell, 3, some .int)
theorem cy_X3_tell : CY Y_X3_tell 2 := ⟨bw_of (i := 684) (w := Cond.code yX3_tell cX3_tell 3 (some .int)) (by decide +kernel) rfl, bw_of (i := 47) (w := Cond.initialized yX3_tell.cls) (by decide +kernel) rfl, by decide, by decide +kernel, by decide +kernel, by decide +kernel⟩
theorem ci_X3_tell : CI Y_X3_tell := ⟨bw_of (i := 682) (w := Cond.instanceMethod yX3_tell) (by decide +kernel) rfl, bw_of (i := 683) (w := Cond.selects yX3_tell.cls yX3_tell yX3_tell) (by decide +kernel) rfl⟩
abbrev Y_X10_count : YT := (yX10_count, cX10_count, 2, some .int)
theorem cy_X10_count : CY Y_X10_count 1 := ⟨bw_of (i := 688) (w := Cond.code yX10_count cX10_count 2 (some .int)) (by decide +kernel) rfl, bw_of (i := 38) (w := Cond.initialized yX10_count.cls) (by decide +kernel) rfl, by decide, by decide +kernel, by decide +kernel, by decide +kernel⟩
theorem ci_X10_count : CI Y_X10_count := ⟨bw_of (i := 686) (w := Cond.instanceMethod yX10_count) (by decide +kernel) rfl, bw_of (i := 687) (w := Cond.selects yX10_count.cls yX10_count yX10_count) (by decide +kernel) rfl⟩
abbrev Y_X10_countStanding : YT := (yX10_countStanding, cX10_countStanding, 3, some .int)
theorem cy_X10_countStanding : CY Y_X10_countStanding 0 := ⟨bw_of (i := 692) (w := Cond.code yX10_countStanding cX10_countStanding 3 (some .int)) (by decide +kernel) rfl, bw_of (i := 38) (w := Cond.initialized yX10_countStanding.cls) (by decide +kernel) rfl, by decide, by decide +kernel, by decide +kernel, by decide +kernel⟩
theorem ci_X10_countStanding : CI Y_X10_countStanding := ⟨bw_of (i := 691) (w := Cond.instanceMethod yX10_countStanding) (by decide +kernel) rfl, bw_of (i := 20) (w := Cond.selects yX10_countStanding.cls yX10_countStanding yX10_countStanding) (by decide +kernel) rfl⟩
abbrev Y_X4_countPieces : YT := (yX4_countPieces, cX4_countPieces, 1, some .int)
theorem cy_X4_countPieces : CY Y_X4_countPieces 0 := ⟨bw_of (i := 696) (w := Cond.code yX4_countPieces cX4_countPieces 1 (some .int)) (by decide +kernel) rfl, bw_of (i := 42) (w := Cond.initialized yX4_countPieces.cls) (by decide +kernel) rfl, by decide, by decide +kernel, by decide +kernel, by decide +kernel⟩
theorem ci_X4_countPieces : CI Y_X4_countPieces := ⟨bw_of (i := 694) (w := Cond.instanceMethod yX4_countPieces) (by decide +kernel) rfl, bw_of (i := 695) (w := Cond.selects yX4_countPieces.cls yX4_countPieces yX4_countPieces) (by decide +kernel) rfl⟩
abbrev Y_X10_countOfRegister : YT := (yX10_countOfRegister, cX10_countOfRegister, 3, some .int)
theorem cy_X10_countOfRegister : CY Y_X10_countOfRegister 1 := ⟨bw_of (i := 701) (w := Cond.code yX10_countOfRegister cX10_countOfRegister 3 (some .int)) (by decide +kernel) rfl, bw_of (i := 38) (w := Cond.initialized yX10_countOfRegister.cls) (by decide +kernel) rfl, by decide, by decide +kernel, by decide +kernel, by decide +kernel⟩
theorem ci_X10_countOfRegister : CI Y_X10_countOfRegister := ⟨bw_of (i := 700) (w := Cond.instanceMethod yX10_countOfRegister) (by decide +kernel) rfl, bw_of (i := 21) (w := Cond.selects yX10_countOfRegister.cls yX10_countOfRegister yX10_countOfRegister) (by decide +kernel) rfl⟩
abbrev Y_X11_init : YT := (yX11_init, cX11_init, 2, none)
theorem cy_X11_init : CY Y_X11_init 0 := ⟨bw_of (i := 706) (w := Cond.code yX11_init cX11_init 2 (none)) (by decide +kernel) rfl, bw_of (i := 48) (w := Cond.initialized yX11_init.cls) (by decide +kernel) rfl, by decide, by decide +kernel, by decide +kernel, by decide +kernel⟩
theorem ci_X11_init : Cond.instanceMethod yX11_init ∈ BW := bw_of (i := 705) (w := Cond.instanceMethod yX11_init) (by decide +kernel) rfl
abbrev Y_X11_makeNodes : YT := (yX11_makeNodes, cX11_makeNodes, 5, none)
theorem cy_X11_makeNodes : CY Y_X11_makeNodes 0 := ⟨bw_of (i := 711) (w := Cond.code yX11_makeNodes cX11_makeNodes 5 (none)) (by decide +kernel) rfl, bw_of (i := 48) (w := Cond.initialized yX11_makeNodes.cls) (by decide +kernel) rfl, by decide, by decide +kernel, by decide +kernel, by decide +kernel⟩
theorem ci_X11_makeNodes : CI Y_X11_makeNodes := ⟨bw_of (i := 710) (w := Cond.instanceMethod yX11_makeNodes) (by decide +kernel) rfl, bw_of (i := 22) (w := Cond.selects yX11_makeNodes.cls yX11_makeNodes yX11_makeNodes) (by decide +kernel) rfl⟩
abbrev Y_X11_node : YT := (yX11_node, cX11_node, 2, some .int)
theorem cy_X11_node : CY Y_X11_node 1 := ⟨bw_of (i := 716) (w := Cond.code yX11_node cX11_node 2 (some .int)) (by decide +kernel) rfl, bw_of (i := 48) (w := Cond.initialized yX11_node.cls) (by decide +kernel) rfl, by decide, by decide +kernel, by decide +kernel, by decide +kernel⟩
theorem ci_X11_node : CI Y_X11_node := ⟨bw_of (i := 715) (w := Cond.instanceMethod yX11_node) (by decide +kernel) rfl, bw_of (i := 23) (w := Cond.selects yX11_node.cls yX11_node yX11_node) (by decide +kernel) rfl⟩
abbrev Y_X11_nodeOf : YT := (yX11_nodeOf, cX11_nodeOf, 2, some .int)
theorem cy_X11_nodeOf : CY Y_X11_nodeOf 1 := ⟨bw_of (i := 720) (w := Cond.code yX11_nodeOf cX11_nodeOf 2 (some .int)) (by decide +kernel) rfl, bw_of (i := 48) (w := Cond.initialized yX11_nodeOf.cls) (by decide +kernel) rfl, by decide, by decide +kernel, by decide +kernel, by decide +kernel⟩
theorem ci_X11_nodeOf : CI Y_X11_nodeOf := ⟨bw_of (i := 719) (w := Cond.instanceMethod yX11_nodeOf) (by decide +kernel) rfl, bw_of (i := 24) (w := Cond.selects yX11_nodeOf.cls yX11_nodeOf yX11_nodeOf) (by decide +kernel) rfl⟩
abbrev Y_X11_feed : YT := (yX11_feed, cX11_feed, 9, some .int)
theorem cy_X11_feed : CY Y_X11_feed 5 := ⟨bw_of (i := 853) (w := Cond.code yX11_feed cX11_feed 9 (some .int)) (by decide +kernel) rfl, bw_of (i := 48) (w := Cond.initialized yX11_feed.cls) (by decide +kernel) rfl, by decide, by decide +kernel, by decide +kernel, by decide +kernel⟩
theorem ci_X11_feed : CI Y_X11_feed := ⟨bw_of (i := 851) (w := Cond.instanceMethod yX11_feed) (by decide +kernel) rfl, bw_of (i := 852) (w := Cond.selects yX11_feed.cls yX11_feed yX11_feed) (by decide +kernel) rfl⟩
abbrev Y_X11_end : YT := (yX11_end, cX11_end, 2, some .int)
theorem cy_X11_end : CY Y_X11_end 1 := ⟨bw_of (i := 857) (w := Cond.code yX11_end cX11_end 2 (some .int)) (by decide +kernel) rfl, bw_of (i := 48) (w := Cond.initialized yX11_end.cls) (by decide +kernel) rfl, by decide, by decide +kernel, by decide +kernel, by decide +kernel⟩
theorem ci_X11_end : CI Y_X11_end := ⟨bw_of (i := 855) (w := Cond.instanceMethod yX11_end) (by decide +kernel) rfl, bw_of (i := 856) (w := Cond.selects yX11_end.cls yX11_end yX11_end) (by decide +kernel) rfl⟩
abbrev Y_X11_script : YT := (yX11_script, cX11_script, 4, some .int)
theorem cy_X11_script : CY Y_X11_script 2 := ⟨bw_of (i := 861) (w := Cond.code yX11_script cX11_script 4 (some .int)) (by decide +kernel) rfl, bw_of (i := 48) (w := Cond.initialized yX11_script.cls) (by decide +kernel) rfl, by decide, by decide +kernel, by decide +kernel, by decide +kernel⟩
theorem ci_X11_script : CI Y_X11_script := ⟨bw_of (i := 859) (w := Cond.instanceMethod yX11_script) (by decide +kernel) rfl, bw_of (i := 860) (w := Cond.selects yX11_script.cls yX11_script yX11_script) (by decide +kernel) rfl⟩
abbrev Y_X11_isSign : YT := (yX11_isSign, cX11_isSign, 1, some .boolean)
theorem cy_X11_isSign : CY Y_X11_isSign 1 := ⟨bw_of (i := 864) (w := Cond.code yX11_isSign cX11_isSign 1 (some .boolean)) (by decide +kernel) rfl, bw_of (i := 48) (w := Cond.initialized yX11_isSign.cls) (by decide +kernel) rfl, by decide, by decide +kernel, by decide +kernel, by decide +kernel⟩
theorem cs_X11_isSign : Cond.static yX11_isSign ∈ BW := bw_of (i := 863) (w := Cond.static yX11_isSign) (by decide +kernel) rfl
abbrev Y_X11_in : YT := (yX11_in, cX11_in, 3, some .boolean)
theorem cy_X11_in : CY Y_X11_in 3 := ⟨bw_of (i := 867) (w := Cond.code yX11_in cX11_in 3 (some .boolean)) (by decide +kernel) rfl, bw_of (i := 48) (w := Cond.initialized yX11_in.cls) (by decide +kernel) rfl, by decide, by decide +kernel, by decide +kernel, by decide +kernel⟩
theorem cs_X11_in : Cond.static yX11_in ∈ BW := bw_of (i := 866) (w := Cond.static yX11_in) (by decide +kernel) rfl
abbrev Y_X11_seen : YT := (yX11_seen, cX11_seen, 4, some .int)
theorem cy_X11_seen : CY Y_X11_seen 2 := ⟨bw_of (i := 871) (w := Cond.code yX11_seen cX11_seen 4 (some .int)) (by decide +kernel) rfl, bw_of (i := 48) (w := Cond.initialized yX11_seen.cls) (by decide +kernel) rfl, by decide, by decide +kernel, by decide +kernel, by decide +kernel⟩
theorem ci_X11_seen : CI Y_X11_seen := ⟨bw_of (i := 869) (w := Cond.instanceMethod yX11_seen) (by decide +kernel) rfl, bw_of (i := 870) (w := Cond.selects yX11_seen.cls yX11_seen yX11_seen) (by decide +kernel) rfl⟩
abbrev Y_X11_confuse : YT := (yX11_confuse, cX11_confuse, 6, some .int)
theorem cy_X11_confuse : CY Y_X11_confuse 3 := ⟨bw_of (i := 875) (w := Cond.code yX11_confuse cX11_confuse 6 (some .int)) (by decide +kernel) rfl, bw_of (i := 48) (w := Cond.initialized yX11_confuse.cls) (by decide +kernel) rfl, by decide, by decide +kernel, by decide +kernel, by decide +kernel⟩
theorem ci_X11_confuse : CI Y_X11_confuse := ⟨bw_of (i := 873) (w := Cond.instanceMethod yX11_confuse) (by decide +kernel) rfl, bw_of (i := 874) (w := Cond.selects yX11_confuse.cls yX11_confuse yX11_confuse) (by decide +kernel) rfl⟩
abbrev Y_X11_isPiece : YT := (yX11_isPiece, cX11_isPiece, 1, some .boolean)
theorem cy_X11_isPiece : CY Y_X11_isPiece 1 := ⟨bw_of (i := 878) (w := Cond.code yX11_isPiece cX11_isPiece 1 (some .boolean)) (by decide +kernel) rfl, bw_of (i := 48) (w := Cond.initialized yX11_isPiece.cls) (by decide +kernel) rfl, by decide, by decide +kernel, by decide +kernel, by decide +kernel⟩
theorem cs_X11_isPiece : Cond.static yX11_isPiece ∈ BW := bw_of (i := 877) (w := Cond.static yX11_isPiece) (by decide +kernel) rfl
abbrev Y_X11_find : YT := (yX11_find, cX11_find, 4, some .int)
theorem cy_X11_find : CY Y_X11_find 2 := ⟨bw_of (i := 882) (w := Cond.code yX11_find cX11_find 4 (some .int)) (by decide +kernel) rfl, bw_of (i := 48) (w := Cond.initialized yX11_find.cls) (by decide +kernel) rfl, by decide, by decide +kernel, by decide +kernel, by decide +kernel⟩
theorem ci_X11_find : CI Y_X11_find := ⟨bw_of (i := 881) (w := Cond.instanceMethod yX11_find) (by decide +kernel) rfl, bw_of (i := 25) (w := Cond.selects yX11_find.cls yX11_find yX11_find) (by decide +kernel) rfl⟩
abbrev Y_X11_chain : YT := (yX11_chain, cX11_chain, 4, some .int)
theorem cy_X11_chain : CY Y_X11_chain 2 := ⟨bw_of (i := 886) (w := Cond.code yX11_chain cX11_chain 4 (some .int)) (by decide +kernel) rfl, bw_of (i := 48) (w := Cond.initialized yX11_chain.cls) (by decide +kernel) rfl, by decide, by decide +kernel, by decide +kernel, by decide +kernel⟩
theorem ci_X11_chain : CI Y_X11_chain := ⟨bw_of (i := 884) (w := Cond.instanceMethod yX11_chain) (by decide +kernel) rfl, bw_of (i := 885) (w := Cond.selects yX11_chain.cls yX11_chain yX11_chain) (by decide +kernel) rfl⟩
abbrev Y_X11_chainOf : YT := (yX11_chainOf, cX11_chainOf, 5, some .int)
theorem cy_X11_chainOf : CY Y_X11_chainOf 2 := ⟨bw_of (i := 890) (w := Cond.code yX11_chainOf cX11_chainOf 5 (some .int)) (by decide +kernel) rfl, bw_of (i := 48) (w := Cond.initialized yX11_chainOf.cls) (by decide +kernel) rfl, by decide, by decide +kernel, by decide +kernel, by decide +kernel⟩
theorem ci_X11_chainOf : CI Y_X11_chainOf := ⟨bw_of (i := 889) (w := Cond.instanceMethod yX11_chainOf) (by decide +kernel) rfl, bw_of (i := 26) (w := Cond.selects yX11_chainOf.cls yX11_chainOf yX11_chainOf) (by decide +kernel) rfl⟩
abbrev Y_X11_allow : YT := (yX11_allow, cX11_allow, 3, some .int)
theorem cy_X11_allow : CY Y_X11_allow 1 := ⟨bw_of (i := 894) (w := Cond.code yX11_allow cX11_allow 3 (some .int)) (by decide +kernel) rfl, bw_of (i := 48) (w := Cond.initialized yX11_allow.cls) (by decide +kernel) rfl, by decide, by decide +kernel, by decide +kernel, by decide +kernel⟩
theorem ci_X11_allow : CI Y_X11_allow := ⟨bw_of (i := 892) (w := Cond.instanceMethod yX11_allow) (by decide +kernel) rfl, bw_of (i := 893) (w := Cond.selects yX11_allow.cls yX11_allow yX11_allow) (by decide +kernel) rfl⟩
abbrev Y_X11_name : YT := (yX11_name, cX11_name, 3, some .int)
theorem cy_X11_name : CY Y_X11_name 0 := ⟨bw_of (i := 898) (w := Cond.code yX11_name cX11_name 3 (some .int)) (by decide +kernel) rfl, bw_of (i := 48) (w := Cond.initialized yX11_name.cls) (by decide +kernel) rfl, by decide, by decide +kernel, by decide +kernel, by decide +kernel⟩
theorem ci_X11_name : CI Y_X11_name := ⟨bw_of (i := 896) (w := Cond.instanceMethod yX11_name) (by decide +kernel) rfl, bw_of (i := 897) (w := Cond.selects yX11_name.cls yX11_name yX11_name) (by decide +kernel) rfl⟩
abbrev Y_X11_readName : YT := (yX11_readName, cX11_readName, 4, some .boolean)
theorem cy_X11_readName : CY Y_X11_readName 1 := ⟨bw_of (i := 902) (w := Cond.code yX11_readName cX11_readName 4 (some .boolean)) (by decide +kernel) rfl, bw_of (i := 48) (w := Cond.initialized yX11_readName.cls) (by decide +kernel) rfl, by decide, by decide +kernel, by decide +kernel, by decide +kernel⟩
theorem ci_X11_readName : CI Y_X11_readName := ⟨bw_of (i := 901) (w := Cond.instanceMethod yX11_readName) (by decide +kernel) rfl, bw_of (i := 27) (w := Cond.selects yX11_readName.cls yX11_readName yX11_readName) (by decide +kernel) rfl⟩
abbrev Y_X11_wrong : YT := (yX11_wrong, cX11_wrong, 3, some .boolean)
theorem cy_X11_wrong : CY Y_X11_wrong 2 := ⟨bw_of (i := 906) (w := Cond.code yX11_wrong cX11_wrong 3 (some .boolean)) (by decide +kernel) rfl, bw_of (i := 48) (w := Cond.initialized yX11_wrong.cls) (by decide +kernel) rfl, by decide, by decide +kernel, by decide +kernel, by decide +kernel⟩
theorem ci_X11_wrong : CI Y_X11_wrong := ⟨bw_of (i := 905) (w := Cond.instanceMethod yX11_wrong) (by decide +kernel) rfl, bw_of (i := 28) (w := Cond.selects yX11_wrong.cls yX11_wrong yX11_wrong) (by decide +kernel) rfl⟩
abbrev Y_X11_see : YT := (yX11_see, cX11_see, 8, some .int)
theorem cy_X11_see : CY Y_X11_see 2 := ⟨bw_of (i := 910) (w := Cond.code yX11_see cX11_see 8 (some .int)) (by decide +kernel) rfl, bw_of (i := 48) (w := Cond.initialized yX11_see.cls) (by decide +kernel) rfl, by decide, by decide +kernel, by decide +kernel, by decide +kernel⟩
theorem ci_X11_see : CI Y_X11_see := ⟨bw_of (i := 909) (w := Cond.instanceMethod yX11_see) (by decide +kernel) rfl, bw_of (i := 29) (w := Cond.selects yX11_see.cls yX11_see yX11_see) (by decide +kernel) rfl⟩
abbrev Y_X11_turn : YT := (yX11_turn, cX11_turn, 6, none)
theorem cy_X11_turn : CY Y_X11_turn 3 := ⟨bw_of (i := 913) (w := Cond.code yX11_turn cX11_turn 6 (none)) (by decide +kernel) rfl, bw_of (i := 48) (w := Cond.initialized yX11_turn.cls) (by decide +kernel) rfl, by decide, by decide +kernel, by decide +kernel, by decide +kernel⟩
theorem cs_X11_turn : Cond.static yX11_turn ∈ BW := bw_of (i := 912) (w := Cond.static yX11_turn) (by decide +kernel) rfl
abbrev Y_X11_fault : YT := (yX11_fault, cX11_fault, 2, some .int)
theorem cy_X11_fault : CY Y_X11_fault 1 := ⟨bw_of (i := 917) (w := Cond.code yX11_fault cX11_fault 2 (some .int)) (by decide +kernel) rfl, bw_of (i := 48) (w := Cond.initialized yX11_fault.cls) (by decide +kernel) rfl, by decide, by decide +kernel, by decide +kernel, by decide +kernel⟩
theorem ci_X11_fault : CI Y_X11_fault := ⟨bw_of (i := 915) (w := Cond.instanceMethod yX11_fault) (by decide +kernel) rfl, bw_of (i := 916) (w := Cond.selects yX11_fault.cls yX11_fault yX11_fault) (by decide +kernel) rfl⟩
abbrev Y_X11_about : YT := (yX11_about, cX11_about, 3, some .int)
theorem cy_X11_about : CY Y_X11_about 1 := ⟨bw_of (i := 921) (w := Cond.code yX11_about cX11_about 3 (some .int)) (by decide +kernel) rfl, bw_of (i := 48) (w := Cond.initialized yX11_about.cls) (by decide +kernel) rfl, by decide, by decide +kernel, by decide +kernel, by decide +kernel⟩
theorem ci_X11_about : CI Y_X11_about := ⟨bw_of (i := 919) (w := Cond.instanceMethod yX11_about) (by decide +kernel) rfl, bw_of (i := 920) (w := Cond.selects yX11_about.cls yX11_about yX11_about) (by decide +kernel) rfl⟩
abbrev Y_X11_scripts : YT := (yX11_scripts, cX11_scripts, 4, some .int)
theorem cy_X11_scripts : CY Y_X11_scripts 0 := ⟨bw_of (i := 925) (w := Cond.code yX11_scripts cX11_scripts 4 (some .int)) (by decide +kernel) rfl, bw_of (i := 48) (w := Cond.initialized yX11_scripts.cls) (by decide +kernel) rfl, by decide, by decide +kernel, by decide +kernel, by decide +kernel⟩
theorem ci_X11_scripts : CI Y_X11_scripts := ⟨bw_of (i := 924) (w := Cond.instanceMethod yX11_scripts) (by decide +kernel) rfl, bw_of (i := 30) (w := Cond.selects yX11_scripts.cls yX11_scripts yX11_scripts) (by decide +kernel) rfl⟩
abbrev Y_X11_isMixed : YT := (yX11_isMixed, cX11_isMixed, 3, some .boolean)
theorem cy_X11_isMixed : CY Y_X11_isMixed 0 := ⟨bw_of (i := 929) (w := Cond.code yX11_isMixed cX11_isMixed 3 (some .boolean)) (by decide +kernel) rfl, bw_of (i := 48) (w := Cond.initialized yX11_isMixed.cls) (by decide +kernel) rfl, by decide, by decide +kernel, by decide +kernel, by decide +kernel⟩
theorem ci_X11_isMixed : CI Y_X11_isMixed := ⟨bw_of (i := 928) (w := Cond.instanceMethod yX11_isMixed) (by decide +kernel) rfl, bw_of (i := 31) (w := Cond.selects yX11_isMixed.cls yX11_isMixed yX11_isMixed) (by decide +kernel) rfl⟩
abbrev Y_X11_has : YT := (yX11_has, cX11_has, 3, some .boolean)
theorem cy_X11_has : CY Y_X11_has 1 := ⟨bw_of (i := 933) (w := Cond.code yX11_has cX11_has 3 (some .boolean)) (by decide +kernel) rfl, bw_of (i := 48) (w := Cond.initialized yX11_has.cls) (by decide +kernel) rfl, by decide, by decide +kernel, by decide +kernel, by decide +kernel⟩
theorem ci_X11_has : CI Y_X11_has := ⟨bw_of (i := 932) (w := Cond.instanceMethod yX11_has) (by decide +kernel) rfl, bw_of (i := 32) (w := Cond.selects yX11_has.cls yX11_has yX11_has) (by decide +kernel) rfl⟩
abbrev Y_X11_rule : YT := (yX11_rule, cX11_rule, 5, some .int)
theorem cy_X11_rule : CY Y_X11_rule 4 := ⟨bw_of (i := 937) (w := Cond.code yX11_rule cX11_rule 5 (some .int)) (by decide +kernel) rfl, bw_of (i := 48) (w := Cond.initialized yX11_rule.cls) (by decide +kernel) rfl, by decide, by decide +kernel, by decide +kernel, by decide +kernel⟩
theorem ci_X11_rule : CI Y_X11_rule := ⟨bw_of (i := 935) (w := Cond.instanceMethod yX11_rule) (by decide +kernel) rfl, bw_of (i := 936) (w := Cond.selects yX11_rule.cls yX11_rule yX11_rule) (by decide +kernel) rfl⟩
abbrev Y_X11_isRegister : YT := (yX11_isRegister, cX11_isRegister, 1, some .boolean)
theorem cy_X11_isRegister : CY Y_X11_isRegister 1 := ⟨bw_of (i := 940) (w := Cond.code yX11_isRegister cX11_isRegister 1 (some .boolean)) (by decide +kernel) rfl, bw_of (i := 48) (w := Cond.initialized yX11_isRegister.cls) (by decide +kernel) rfl, by decide, by decide +kernel, by decide +kernel, by decide +kernel⟩
theorem cs_X11_isRegister : Cond.static yX11_isRegister ∈ BW := bw_of (i := 939) (w := Cond.static yX11_isRegister) (by decide +kernel) rfl
abbrev Y_X11_ask : YT := (yX11_ask, cX11_ask, 6, some .int)
theorem cy_X11_ask : CY Y_X11_ask 2 := ⟨bw_of (i := 944) (w := Cond.code yX11_ask cX11_ask 6 (some .int)) (by decide +kernel) rfl, bw_of (i := 48) (w := Cond.initialized yX11_ask.cls) (by decide +kernel) rfl, by decide, by decide +kernel, by decide +kernel, by decide +kernel⟩
theorem ci_X11_ask : CI Y_X11_ask := ⟨bw_of (i := 942) (w := Cond.instanceMethod yX11_ask) (by decide +kernel) rfl, bw_of (i := 943) (w := Cond.selects yX11_ask.cls yX11_ask yX11_ask) (by decide +kernel) rfl⟩
abbrev Y_X11_isIn : YT := (yX11_isIn, cX11_isIn, 3, some .boolean)
theorem cy_X11_isIn : CY Y_X11_isIn 2 := ⟨bw_of (i := 948) (w := Cond.code yX11_isIn cX11_isIn 3 (some .boolean)) (by decide +kernel) rfl, bw_of (i := 48) (w := Cond.initialized yX11_isIn.cls) (by decide +kernel) rfl, by decide, by decide +kernel, by decide +kernel, by decide +kernel⟩
theorem ci_X11_isIn : CI Y_X11_isIn := ⟨bw_of (i := 947) (w := Cond.instanceMethod yX11_isIn) (by decide +kernel) rfl, bw_of (i := 33) (w := Cond.selects yX11_isIn.cls yX11_isIn yX11_isIn) (by decide +kernel) rfl⟩
abbrev Y_X11_isSame : YT := (yX11_isSame, cX11_isSame, 5, some .boolean)
theorem cy_X11_isSame : CY Y_X11_isSame 2 := ⟨bw_of (i := 952) (w := Cond.code yX11_isSame cX11_isSame 5 (some .boolean)) (by decide +kernel) rfl, bw_of (i := 48) (w := Cond.initialized yX11_isSame.cls) (by decide +kernel) rfl, by decide, by decide +kernel, by decide +kernel, by decide +kernel⟩
theorem ci_X11_isSame : CI Y_X11_isSame := ⟨bw_of (i := 951) (w := Cond.instanceMethod yX11_isSame) (by decide +kernel) rfl, bw_of (i := 34) (w := Cond.selects yX11_isSame.cls yX11_isSame yX11_isSame) (by decide +kernel) rfl⟩
abbrev Y_X11_reckon : YT := (yX11_reckon, cX11_reckon, 10, some .int)
theorem cy_X11_reckon : CY Y_X11_reckon 2 := ⟨bw_of (i := 956) (w := Cond.code yX11_reckon cX11_reckon 10 (some .int)) (by decide +kernel) rfl, bw_of (i := 48) (w := Cond.initialized yX11_reckon.cls) (by decide +kernel) rfl, by decide, by decide +kernel, by decide +kernel, by decide +kernel⟩
theorem ci_X11_reckon : CI Y_X11_reckon := ⟨bw_of (i := 955) (w := Cond.instanceMethod yX11_reckon) (by decide +kernel) rfl, bw_of (i := 35) (w := Cond.selects yX11_reckon.cls yX11_reckon yX11_reckon) (by decide +kernel) rfl⟩
abbrev Y_X11_piece : YT := (yX11_piece, cX11_piece, 3, some .int)
theorem cy_X11_piece : CY Y_X11_piece 3 := ⟨bw_of (i := 959) (w := Cond.code yX11_piece cX11_piece 3 (some .int)) (by decide +kernel) rfl, bw_of (i := 48) (w := Cond.initialized yX11_piece.cls) (by decide +kernel) rfl, by decide, by decide +kernel, by decide +kernel, by decide +kernel⟩
theorem cs_X11_piece : Cond.static yX11_piece ∈ BW := bw_of (i := 958) (w := Cond.static yX11_piece) (by decide +kernel) rfl
abbrev Y_X11_enter : YT := (yX11_enter, cX11_enter, 5, some .int)
theorem cy_X11_enter : CY Y_X11_enter 2 := ⟨bw_of (i := 963) (w := Cond.code yX11_enter cX11_enter 5 (some .int)) (by decide +kernel) rfl, bw_of (i := 48) (w := Cond.initialized yX11_enter.cls) (by decide +kernel) rfl, by decide, by decide +kernel, by decide +kernel, by decide +kernel⟩
theorem ci_X11_enter : CI Y_X11_enter := ⟨bw_of (i := 961) (w := Cond.instanceMethod yX11_enter) (by decide +kernel) rfl, bw_of (i := 962) (w := Cond.selects yX11_enter.cls yX11_enter yX11_enter) (by decide +kernel) rfl⟩
abbrev Y_X11_strike : YT := (yX11_strike, cX11_strike, 2, some .int)
theorem cy_X11_strike : CY Y_X11_strike 1 := ⟨bw_of (i := 968) (w := Cond.code yX11_strike cX11_strike 2 (some .int)) (by decide +kernel) rfl, bw_of (i := 48) (w := Cond.initialized yX11_strike.cls) (by decide +kernel) rfl, by decide, by decide +kernel, by decide +kernel, by decide +kernel⟩
theorem ci_X11_strike : CI Y_X11_strike := ⟨bw_of (i := 966) (w := Cond.instanceMethod yX11_strike) (by decide +kernel) rfl, bw_of (i := 967) (w := Cond.selects yX11_strike.cls yX11_strike yX11_strike) (by decide +kernel) rfl⟩
abbrev Y_X11_isEntry : YT := (yX11_isEntry, cX11_isEntry, 2, some .boolean)
theorem cy_X11_isEntry : CY Y_X11_isEntry 1 := ⟨bw_of (i := 972) (w := Cond.code yX11_isEntry cX11_isEntry 2 (some .boolean)) (by decide +kernel) rfl, bw_of (i := 48) (w := Cond.initialized yX11_isEntry.cls) (by decide +kernel) rfl, by decide, by decide +kernel, by decide +kernel, by decide +kernel⟩
theorem ci_X11_isEntry : CI Y_X11_isEntry := ⟨bw_of (i := 971) (w := Cond.instanceMethod yX11_isEntry) (by decide +kernel) rfl, bw_of (i := 36) (w := Cond.selects yX11_isEntry.cls yX11_isEntry yX11_isEntry) (by decide +kernel) rfl⟩
abbrev Y_X11_entry : YT := (yX11_entry, cX11_entry, 3, some .int)
theorem cy_X11_entry : CY Y_X11_entry 2 := ⟨bw_of (i := 976) (w := Cond.code yX11_entry cX11_entry 3 (some .int)) (by decide +kernel) rfl, bw_of (i := 48) (w := Cond.initialized yX11_entry.cls) (by decide +kernel) rfl, by decide, by decide +kernel, by decide +kernel, by decide +kernel⟩
theorem ci_X11_entry : CI Y_X11_entry := ⟨bw_of (i := 974) (w := Cond.instanceMethod yX11_entry) (by decide +kernel) rfl, bw_of (i := 975) (w := Cond.selects yX11_entry.cls yX11_entry yX11_entry) (by decide +kernel) rfl⟩
abbrev Y_X11_far : YT := (yX11_far, cX11_far, 3, some .int)
theorem cy_X11_far : CY Y_X11_far 1 := ⟨bw_of (i := 980) (w := Cond.code yX11_far cX11_far 3 (some .int)) (by decide +kernel) rfl, bw_of (i := 48) (w := Cond.initialized yX11_far.cls) (by decide +kernel) rfl, by decide, by decide +kernel, by decide +kernel, by decide +kernel⟩
theorem ci_X11_far : CI Y_X11_far := ⟨bw_of (i := 978) (w := Cond.instanceMethod yX11_far) (by decide +kernel) rfl, bw_of (i := 979) (w := Cond.selects yX11_far.cls yX11_far yX11_far) (by decide +kernel) rfl⟩
abbrev Y_X11_near : YT := (yX11_near, cX11_near, 6, some .int)
theorem cy_X11_near : CY Y_X11_near 2 := ⟨bw_of (i := 984) (w := Cond.code yX11_near cX11_near 6 (some .int)) (by decide +kernel) rfl, bw_of (i := 48) (w := Cond.initialized yX11_near.cls) (by decide +kernel) rfl, by decide, by decide +kernel, by decide +kernel, by decide +kernel⟩
theorem ci_X11_near : CI Y_X11_near := ⟨bw_of (i := 982) (w := Cond.instanceMethod yX11_near) (by decide +kernel) rfl, bw_of (i := 983) (w := Cond.selects yX11_near.cls yX11_near yX11_near) (by decide +kernel) rfl⟩
abbrev Y_X11_nearest : YT := (yX11_nearest, cX11_nearest, 3, some .int)
theorem cy_X11_nearest : CY Y_X11_nearest 2 := ⟨bw_of (i := 988) (w := Cond.code yX11_nearest cX11_nearest 3 (some .int)) (by decide +kernel) rfl, bw_of (i := 48) (w := Cond.initialized yX11_nearest.cls) (by decide +kernel) rfl, by decide, by decide +kernel, by decide +kernel, by decide +kernel⟩
theorem ci_X11_nearest : CI Y_X11_nearest := ⟨bw_of (i := 986) (w := Cond.instanceMethod yX11_nearest) (by decide +kernel) rfl, bw_of (i := 987) (w := Cond.selects yX11_nearest.cls yX11_nearest yX11_nearest) (by decide +kernel) rfl⟩
abbrev Y_X11_ways : YT := (yX11_ways, cX11_ways, 10, some .int)
theorem cy_X11_ways : CY Y_X11_ways 1 := ⟨bw_of (i := 992) (w := Cond.code yX11_ways cX11_ways 10 (some .int)) (by decide +kernel) rfl, bw_of (i := 48) (w := Cond.initialized yX11_ways.cls) (by decide +kernel) rfl, by decide, by decide +kernel, by decide +kernel, by decide +kernel⟩
theorem ci_X11_ways : CI Y_X11_ways := ⟨bw_of (i := 990) (w := Cond.instanceMethod yX11_ways) (by decide +kernel) rfl, bw_of (i := 991) (w := Cond.selects yX11_ways.cls yX11_ways yX11_ways) (by decide +kernel) rfl⟩
abbrev Y_X11_way : YT := (yX11_way, cX11_way, 3, some .int)
theorem cy_X11_way : CY Y_X11_way 2 := ⟨bw_of (i := 996) (w := Cond.code yX11_way cX11_way 3 (some .int)) (by decide +kernel) rfl, bw_of (i := 48) (w := Cond.initialized yX11_way.cls) (by decide +kernel) rfl, by decide, by decide +kernel, by decide +kernel, by decide +kernel⟩
theorem ci_X11_way : CI Y_X11_way := ⟨bw_of (i := 994) (w := Cond.instanceMethod yX11_way) (by decide +kernel) rfl, bw_of (i := 995) (w := Cond.selects yX11_way.cls yX11_way yX11_way) (by decide +kernel) rfl⟩
abbrev Y_X11_likes : YT := (yX11_likes, cX11_likes, 6, some .int)
theorem cy_X11_likes : CY Y_X11_likes 1 := ⟨bw_of (i := 1000) (w := Cond.code yX11_likes cX11_likes 6 (some .int)) (by decide +kernel) rfl, bw_of (i := 48) (w := Cond.initialized yX11_likes.cls) (by decide +kernel) rfl, by decide, by decide +kernel, by decide +kernel, by decide +kernel⟩
theorem ci_X11_likes : CI Y_X11_likes := ⟨bw_of (i := 998) (w := Cond.instanceMethod yX11_likes) (by decide +kernel) rfl, bw_of (i := 999) (w := Cond.selects yX11_likes.cls yX11_likes yX11_likes) (by decide +kernel) rfl⟩
abbrev Y_X11_like : YT := (yX11_like, cX11_like, 3, some .int)
theorem cy_X11_like : CY Y_X11_like 2 := ⟨bw_of (i := 1004) (w := Cond.code yX11_like cX11_like 3 (some .int)) (by decide +kernel) rfl, bw_of (i := 48) (w := Cond.initialized yX11_like.cls) (by decide +kernel) rfl, by decide, by decide +kernel, by decide +kernel, by decide +kernel⟩
theorem ci_X11_like : CI Y_X11_like := ⟨bw_of (i := 1002) (w := Cond.instanceMethod yX11_like) (by decide +kernel) rfl, bw_of (i := 1003) (w := Cond.selects yX11_like.cls yX11_like yX11_like) (by decide +kernel) rfl⟩
abbrev Y_X11_count : YT := (yX11_count, cX11_count, 4, some .int)
theorem cy_X11_count : CY Y_X11_count 1 := ⟨bw_of (i := 1008) (w := Cond.code yX11_count cX11_count 4 (some .int)) (by decide +kernel) rfl, bw_of (i := 48) (w := Cond.initialized yX11_count.cls) (by decide +kernel) rfl, by decide, by decide +kernel, by decide +kernel, by decide +kernel⟩
theorem ci_X11_count : CI Y_X11_count := ⟨bw_of (i := 1006) (w := Cond.instanceMethod yX11_count) (by decide +kernel) rfl, bw_of (i := 1007) (w := Cond.selects yX11_count.cls yX11_count yX11_count) (by decide +kernel) rfl⟩
theorem a_L_7 : Cond.classLink RL 7 RX10 ∈ BW := bw_of (i := 54) (by decide +kernel) rfl
theorem n_L_7 : NC RL 7 10 := ⟨(RX10, TX10, 15), rfl, a_L_7, bw_of (i := 55) (by decide +kernel) rfl, bw_of (i := 38) (by decide +kernel) rfl⟩
theorem m_L_9 : Cond.methodLink RL 9 yX10_init ∈ BW := bw_of (i := 56) (by decide +kernel) rfl
theorem m_X10_3 : Cond.methodLink RX10 3 objectInit ∈ BW := bw_of (i := 59) (by decide +kernel) rfl
theorem a_X10_17 : Cond.classLink RX10 17 RX7 ∈ BW := bw_of (i := 62) (by decide +kernel) rfl
theorem n_X10_17 : NC RX10 17 7 := ⟨(RX7, TX7, 3), rfl, a_X10_17, bw_of (i := 63) (by decide +kernel) rfl, bw_of (i := 39) (by decide +kernel) rfl⟩
theorem m_X10_19 : Cond.methodLink RX10 19 yX7_init ∈ BW := bw_of (i := 64) (by decide +kernel) rfl
theorem m_X7_3 : Cond.methodLink RX7 3 objectInit ∈ BW := bw_of (i := 67) (by decide +kernel) rfl
theorem m_X7_22 : Cond.methodLink RX7 22 yJ7_fill_fda19 ∈ BW := bw_of (i := 68) (by decide +kernel) rfl
theorem m_J7_13 : Cond.methodLink RJ7 13 yJ7_rangeCheck_23922 ∈ BW := bw_of (i := 71) (by decide +kernel) rfl
theorem f_X7_9 : FG RX7 9 7 0 := ⟨(RX7, TX7, 3), rfl, by decide, bw_of (i := 74) (by decide +kernel) rfl⟩
theorem f_X7_15 : FG RX7 15 7 1 := ⟨(RX7, TX7, 3), rfl, by decide, bw_of (i := 75) (by decide +kernel) rfl⟩
theorem f_X7_18 : FG RX7 18 7 2 := ⟨(RX7, TX7, 3), rfl, by decide, bw_of (i := 76) (by decide +kernel) rfl⟩
theorem f_X8_52 : FGN RX8 52 7 2 := ⟨(RX7, TX7, 3), "NameGuard", rfl, by decide, nw_of (i := 40) (by decide +kernel) rfl⟩
theorem a_X10_24 : Cond.classLink RX10 24 RX6 ∈ BW := bw_of (i := 86) (by decide +kernel) rfl
theorem n_X10_24 : NC RX10 24 6 := ⟨(RX6, TX6, 2), rfl, a_X10_24, bw_of (i := 87) (by decide +kernel) rfl, bw_of (i := 41) (by decide +kernel) rfl⟩
theorem m_X10_26 : Cond.methodLink RX10 26 yX6_init ∈ BW := bw_of (i := 88) (by decide +kernel) rfl
theorem m_X6_3 : Cond.methodLink RX6 3 objectInit ∈ BW := bw_of (i := 91) (by decide +kernel) rfl
theorem f_X6_9 : FG RX6 9 6 0 := ⟨(RX6, TX6, 2), rfl, by decide, bw_of (i := 92) (by decide +kernel) rfl⟩
theorem f_X6_15 : FG RX6 15 6 1 := ⟨(RX6, TX6, 2), rfl, by decide, bw_of (i := 93) (by decide +kernel) rfl⟩
theorem f_X10_283 : FGN RX10 283 6 1 := ⟨(RX6, TX6, 2), "NameGuard", rfl, by decide, nw_of (i := 57) (by decide +kernel) rfl⟩
theorem a_X10_31 : Cond.classLink RX10 31 RX4 ∈ BW := bw_of (i := 100) (by decide +kernel) rfl
theorem n_X10_31 : NC RX10 31 4 := ⟨(RX4, TX4, 11), rfl, a_X10_31, bw_of (i := 101) (by decide +kernel) rfl, bw_of (i := 42) (by decide +kernel) rfl⟩
theorem m_X10_33 : Cond.methodLink RX10 33 yX4_init ∈ BW := bw_of (i := 102) (by decide +kernel) rfl
theorem m_X4_3 : Cond.methodLink RX4 3 objectInit ∈ BW := bw_of (i := 105) (by decide +kernel) rfl
theorem f_X4_9 : FG RX4 9 4 0 := ⟨(RX4, TX4, 11), rfl, by decide, bw_of (i := 106) (by decide +kernel) rfl⟩
theorem f_X4_15 : FG RX4 15 4 1 := ⟨(RX4, TX4, 11), rfl, by decide, bw_of (i := 107) (by decide +kernel) rfl⟩
theorem f_X4_18 : FG RX4 18 4 2 := ⟨(RX4, TX4, 11), rfl, by decide, bw_of (i := 108) (by decide +kernel) rfl⟩
theorem f_X4_21 : FG RX4 21 4 3 := ⟨(RX4, TX4, 11), rfl, by decide, bw_of (i := 109) (by decide +kernel) rfl⟩
theorem f_X10_280 : FGN RX10 280 4 3 := ⟨(RX4, TX4, 11), "NameGuard", rfl, by decide, nw_of (i := 73) (by decide +kernel) rfl⟩
theorem f_X4_25 : FG RX4 25 4 4 := ⟨(RX4, TX4, 11), rfl, by decide, bw_of (i := 111) (by decide +kernel) rfl⟩
theorem f_X8_65 : FGN RX8 65 4 4 := ⟨(RX4, TX4, 11), "NameGuard", rfl, by decide, nw_of (i := 75) (by decide +kernel) rfl⟩
theorem f_X4_28 : FG RX4 28 4 5 := ⟨(RX4, TX4, 11), rfl, by decide, bw_of (i := 113) (by decide +kernel) rfl⟩
theorem f_X4_31 : FG RX4 31 4 6 := ⟨(RX4, TX4, 11), rfl, by decide, bw_of (i := 114) (by decide +kernel) rfl⟩
theorem f_X4_34 : FG RX4 34 4 7 := ⟨(RX4, TX4, 11), rfl, by decide, bw_of (i := 115) (by decide +kernel) rfl⟩
theorem f_X4_37 : FG RX4 37 4 8 := ⟨(RX4, TX4, 11), rfl, by decide, bw_of (i := 116) (by decide +kernel) rfl⟩
theorem f_X4_40 : FG RX4 40 4 9 := ⟨(RX4, TX4, 11), rfl, by decide, bw_of (i := 117) (by decide +kernel) rfl⟩
theorem f_X4_43 : FG RX4 43 4 10 := ⟨(RX4, TX4, 11), rfl, by decide, bw_of (i := 118) (by decide +kernel) rfl⟩
theorem a_X10_48 : Cond.classLink RX10 48 RX5 ∈ BW := bw_of (i := 142) (by decide +kernel) rfl
theorem n_X10_48 : NC RX10 48 5 := ⟨(RX5, TX5, 3), rfl, a_X10_48, bw_of (i := 144) (by decide +kernel) rfl, bw_of (i := 43) (by decide +kernel) rfl⟩
theorem m_X10_54 : Cond.methodLink RX10 54 yX5_init ∈ BW := bw_of (i := 145) (by decide +kernel) rfl
theorem m_X5_1 : Cond.methodLink RX5 1 objectInit ∈ BW := bw_of (i := 148) (by decide +kernel) rfl
theorem f_X5_7 : FG RX5 7 5 0 := ⟨(RX5, TX5, 3), rfl, by decide, bw_of (i := 149) (by decide +kernel) rfl⟩
theorem f_X10_196 : FGN RX10 196 5 0 := ⟨(RX5, TX5, 3), "NameGuard", rfl, by decide, nw_of (i := 113) (by decide +kernel) rfl⟩
theorem f_X5_13 : FG RX5 13 5 1 := ⟨(RX5, TX5, 3), rfl, by decide, bw_of (i := 151) (by decide +kernel) rfl⟩
theorem f_X10_199 : FGN RX10 199 5 1 := ⟨(RX5, TX5, 3), "NameGuard", rfl, by decide, nw_of (i := 115) (by decide +kernel) rfl⟩
theorem f_X5_16 : FG RX5 16 5 2 := ⟨(RX5, TX5, 3), rfl, by decide, bw_of (i := 153) (by decide +kernel) rfl⟩
theorem f_X10_202 : FGN RX10 202 5 2 := ⟨(RX5, TX5, 3), "NameGuard", rfl, by decide, nw_of (i := 117) (by decide +kernel) rfl⟩
theorem a_X10_55 : Cond.classLink RX10 55 RX0 ∈ BW := bw_of (i := 162) (by decide +kernel) rfl
theorem n_X10_55 : NC RX10 55 0 := ⟨(RX0, TX0, 4), rfl, a_X10_55, bw_of (i := 585) (by decide +kernel) rfl, bw_of (i := 53) (by decide +kernel) rfl⟩
theorem a_X10_64 : Cond.classLink RX10 64 RX1 ∈ BW := bw_of (i := 164) (by decide +kernel) rfl
theorem n_X10_64 : NC RX10 64 1 := ⟨(RX1, TX1, 2), rfl, a_X10_64, bw_of (i := 165) (by decide +kernel) rfl, bw_of (i := 44) (by decide +kernel) rfl⟩
theorem m_X10_66 : Cond.methodLink RX10 66 yX1_init ∈ BW := bw_of (i := 166) (by decide +kernel) rfl
theorem m_X1_3 : Cond.methodLink RX1 3 objectInit ∈ BW := bw_of (i := 169) (by decide +kernel) rfl
theorem f_X1_9 : FG RX1 9 1 0 := ⟨(RX1, TX1, 2), rfl, by decide, bw_of (i := 170) (by decide +kernel) rfl⟩
theorem f_X1_15 : FG RX1 15 1 1 := ⟨(RX1, TX1, 2), rfl, by decide, bw_of (i := 171) (by decide +kernel) rfl⟩
theorem a_X10_73 : Cond.classLink RX10 73 RX2 ∈ BW := bw_of (i := 177) (by decide +kernel) rfl
theorem n_X10_73 : NC RX10 73 2 := ⟨(RX2, TX2, 3), rfl, a_X10_73, bw_of (i := 178) (by decide +kernel) rfl, bw_of (i := 45) (by decide +kernel) rfl⟩
theorem m_X10_75 : Cond.methodLink RX10 75 yX2_init ∈ BW := bw_of (i := 179) (by decide +kernel) rfl
theorem m_X2_3 : Cond.methodLink RX2 3 objectInit ∈ BW := bw_of (i := 182) (by decide +kernel) rfl
theorem f_X2_9 : FG RX2 9 2 0 := ⟨(RX2, TX2, 3), rfl, by decide, bw_of (i := 183) (by decide +kernel) rfl⟩
theorem f_X2_15 : FG RX2 15 2 1 := ⟨(RX2, TX2, 3), rfl, by decide, bw_of (i := 184) (by decide +kernel) rfl⟩
theorem f_X2_18 : FG RX2 18 2 2 := ⟨(RX2, TX2, 3), rfl, by decide, bw_of (i := 185) (by decide +kernel) rfl⟩
theorem f_X10_255 : FGN RX10 255 2 2 := ⟨(RX2, TX2, 3), "NameGuard", rfl, by decide, nw_of (i := 149) (by decide +kernel) rfl⟩
theorem a_X10_80 : Cond.classLink RX10 80 RX9 ∈ BW := bw_of (i := 194) (by decide +kernel) rfl
theorem n_X10_80 : NC RX10 80 9 := ⟨(RX9, TX9, 4), rfl, a_X10_80, bw_of (i := 195) (by decide +kernel) rfl, bw_of (i := 46) (by decide +kernel) rfl⟩
theorem m_X10_82 : Cond.methodLink RX10 82 yX9_init ∈ BW := bw_of (i := 196) (by decide +kernel) rfl
theorem m_X9_3 : Cond.methodLink RX9 3 objectInit ∈ BW := bw_of (i := 199) (by decide +kernel) rfl
theorem f_X9_9 : FG RX9 9 9 0 := ⟨(RX9, TX9, 4), rfl, by decide, bw_of (i := 200) (by decide +kernel) rfl⟩
theorem f_X9_15 : FG RX9 15 9 1 := ⟨(RX9, TX9, 4), rfl, by decide, bw_of (i := 201) (by decide +kernel) rfl⟩
theorem f_X9_18 : FG RX9 18 9 2 := ⟨(RX9, TX9, 4), rfl, by decide, bw_of (i := 202) (by decide +kernel) rfl⟩
theorem f_X9_21 : FG RX9 21 9 3 := ⟨(RX9, TX9, 4), rfl, by decide, bw_of (i := 203) (by decide +kernel) rfl⟩
theorem f_X1_67 : FGN RX1 67 9 3 := ⟨(RX9, TX9, 4), "NameGuard", rfl, by decide, nw_of (i := 167) (by decide +kernel) rfl⟩
theorem f_X10_267 : FGN RX10 267 9 3 := ⟨(RX9, TX9, 4), "NameGuard", rfl, by decide, nw_of (i := 168) (by decide +kernel) rfl⟩
theorem a_X10_87 : Cond.classLink RX10 87 RX3 ∈ BW := bw_of (i := 215) (by decide +kernel) rfl
theorem n_X10_87 : NC RX10 87 3 := ⟨(RX3, TX3, 2), rfl, a_X10_87, bw_of (i := 216) (by decide +kernel) rfl, bw_of (i := 47) (by decide +kernel) rfl⟩
theorem m_X10_89 : Cond.methodLink RX10 89 yX3_init ∈ BW := bw_of (i := 217) (by decide +kernel) rfl
theorem m_X3_3 : Cond.methodLink RX3 3 objectInit ∈ BW := bw_of (i := 220) (by decide +kernel) rfl
theorem f_X3_9 : FG RX3 9 3 0 := ⟨(RX3, TX3, 2), rfl, by decide, bw_of (i := 221) (by decide +kernel) rfl⟩
theorem f_X3_15 : FG RX3 15 3 1 := ⟨(RX3, TX3, 2), rfl, by decide, bw_of (i := 222) (by decide +kernel) rfl⟩
theorem f_X10_269 : FGN RX10 269 3 1 := ⟨(RX3, TX3, 2), "NameGuard", rfl, by decide, nw_of (i := 186) (by decide +kernel) rfl⟩
theorem f_X10_9 : FG RX10 9 10 0 := ⟨(RX10, TX10, 15), rfl, by decide, bw_of (i := 229) (by decide +kernel) rfl⟩
theorem f_X10_13 : FG RX10 13 10 1 := ⟨(RX10, TX10, 15), rfl, by decide, bw_of (i := 230) (by decide +kernel) rfl⟩
theorem f_X10_20 : FG RX10 20 10 2 := ⟨(RX10, TX10, 15), rfl, by decide, bw_of (i := 231) (by decide +kernel) rfl⟩
theorem f_X10_27 : FG RX10 27 10 3 := ⟨(RX10, TX10, 15), rfl, by decide, bw_of (i := 232) (by decide +kernel) rfl⟩
theorem f_X10_34 : FG RX10 34 10 4 := ⟨(RX10, TX10, 15), rfl, by decide, bw_of (i := 233) (by decide +kernel) rfl⟩
theorem f_X10_38 : FG RX10 38 10 5 := ⟨(RX10, TX10, 15), rfl, by decide, bw_of (i := 234) (by decide +kernel) rfl⟩
theorem f_X10_42 : FG RX10 42 10 6 := ⟨(RX10, TX10, 15), rfl, by decide, bw_of (i := 235) (by decide +kernel) rfl⟩
theorem f_X10_45 : FG RX10 45 10 7 := ⟨(RX10, TX10, 15), rfl, by decide, bw_of (i := 236) (by decide +kernel) rfl⟩
theorem f_X10_50 : FG RX10 50 10 8 := ⟨(RX10, TX10, 15), rfl, by decide, bw_of (i := 237) (by decide +kernel) rfl⟩
theorem f_X10_57 : FG RX10 57 10 9 := ⟨(RX10, TX10, 15), rfl, by decide, bw_of (i := 238) (by decide +kernel) rfl⟩
theorem f_X10_61 : FG RX10 61 10 10 := ⟨(RX10, TX10, 15), rfl, by decide, bw_of (i := 239) (by decide +kernel) rfl⟩
theorem f_X10_69 : FG RX10 69 10 11 := ⟨(RX10, TX10, 15), rfl, by decide, bw_of (i := 240) (by decide +kernel) rfl⟩
theorem f_X10_76 : FG RX10 76 10 12 := ⟨(RX10, TX10, 15), rfl, by decide, bw_of (i := 241) (by decide +kernel) rfl⟩
theorem f_X10_83 : FG RX10 83 10 13 := ⟨(RX10, TX10, 15), rfl, by decide, bw_of (i := 242) (by decide +kernel) rfl⟩
theorem f_X10_90 : FG RX10 90 10 14 := ⟨(RX10, TX10, 15), rfl, by decide, bw_of (i := 243) (by decide +kernel) rfl⟩
theorem m_L_13 : Cond.methodLink RL 13 yX10_feed ∈ BW := bw_of (i := 275) (by decide +kernel) rfl
theorem m_X10_94 : Cond.methodLink RX10 94 yX10_putBytes ∈ BW := bw_of (i := 279) (by decide +kernel) rfl
theorem m_L_18 : Cond.methodLink RL 18 yX10_end ∈ BW := bw_of (i := 283) (by decide +kernel) rfl
theorem m_L_23 : Cond.methodLink RL 23 yX10_script ∈ BW := bw_of (i := 287) (by decide +kernel) rfl
theorem m_X10_98 : Cond.methodLink RX10 98 yX10_isSign ∈ BW := bw_of (i := 291) (by decide +kernel) rfl
theorem m_X10_102 : Cond.methodLink RX10 102 yX7_changeScript ∈ BW := bw_of (i := 294) (by decide +kernel) rfl
theorem m_X7_32 : Cond.methodLink RX7 32 yX7_scriptOf ∈ BW := bw_of (i := 298) (by decide +kernel) rfl
theorem m_X7_28 : Cond.methodLinkNest RX7 28 yX10_isSign "NameGuard" ∈ NW := nw_of (i := 265) (by decide +kernel) rfl
theorem m_L_28 : Cond.methodLink RL 28 yX10_seen ∈ BW := bw_of (i := 303) (by decide +kernel) rfl
theorem m_X10_106 : Cond.methodLink RX10 106 yX7_changeHow ∈ BW := bw_of (i := 307) (by decide +kernel) rfl
theorem m_X7_36 : Cond.methodLink RX7 36 yX7_howOf ∈ BW := bw_of (i := 311) (by decide +kernel) rfl
theorem m_L_32 : Cond.methodLink RL 32 yX10_confuse ∈ BW := bw_of (i := 315) (by decide +kernel) rfl
theorem m_X10_109 : Cond.methodLink RX10 109 yX10_isPiece ∈ BW := bw_of (i := 319) (by decide +kernel) rfl
theorem m_X10_112 : Cond.methodLink RX10 112 yX4_forget ∈ BW := bw_of (i := 322) (by decide +kernel) rfl
theorem m_X4_46 : Cond.methodLink RX4 46 yX4_placeOf ∈ BW := bw_of (i := 326) (by decide +kernel) rfl
theorem m_X10_115 : Cond.methodLink RX10 115 yX4_tell ∈ BW := bw_of (i := 330) (by decide +kernel) rfl
theorem m_L_37 : Cond.methodLink RL 37 yX10_chain ∈ BW := bw_of (i := 334) (by decide +kernel) rfl
theorem m_X10_119 : Cond.methodLink RX10 119 yX4_closeChains ∈ BW := bw_of (i := 338) (by decide +kernel) rfl
theorem m_X4_53 : Cond.methodLink RX4 53 yJ7_fill_53178 ∈ BW := bw_of (i := 342) (by decide +kernel) rfl
theorem m_X4_59 : Cond.methodLink RX4 59 yX4_addPiece ∈ BW := bw_of (i := 345) (by decide +kernel) rfl
theorem m_X4_69 : Cond.methodLink RX4 69 yX4_leadingSign ∈ BW := bw_of (i := 349) (by decide +kernel) rfl
theorem m_X4_73 : Cond.methodLinkNest RX4 73 yX10_isSign "NameGuard" ∈ NW := nw_of (i := 315) (by decide +kernel) rfl
theorem m_X4_77 : Cond.methodLink RX4 77 yX4_indexOf ∈ BW := bw_of (i := 353) (by decide +kernel) rfl
theorem m_X4_63 : Cond.methodLink RX4 63 yX4_writeSteps ∈ BW := bw_of (i := 357) (by decide +kernel) rfl
theorem m_X4_81 : Cond.methodLink RX4 81 yJ9_min_7cf53 ∈ BW := bw_of (i := 361) (by decide +kernel) rfl
theorem m_X4_86 : Cond.methodLink RX4 86 yJ9_max_7cf53 ∈ BW := bw_of (i := 364) (by decide +kernel) rfl
theorem k_X4_80 : Cond.constant RX4 80 (536870912) ∈ BW := bw_of (i := 367) (by decide +kernel) rfl
theorem m_X4_89 : Cond.methodLink RX4 89 yJ7_fill_fda19 ∈ BW := bw_of (i := 368) (by decide +kernel) rfl
theorem m_X4_66 : Cond.methodLink RX4 66 yX4_goOver ∈ BW := bw_of (i := 369) (by decide +kernel) rfl
theorem m_X10_122 : Cond.methodLink RX10 122 yX4_indexOf ∈ BW := bw_of (i := 373) (by decide +kernel) rfl
theorem m_X10_126 : Cond.methodLink RX10 126 yX4_leastBetween ∈ BW := bw_of (i := 374) (by decide +kernel) rfl
theorem k_X10_129 : Cond.constant RX10 129 (536870912) ∈ BW := bw_of (i := 378) (by decide +kernel) rfl
theorem m_L_41 : Cond.methodLink RL 41 yX10_allow ∈ BW := bw_of (i := 379) (by decide +kernel) rfl
theorem m_X10_130 : Cond.methodLink RX10 130 yX10_isSet ∈ BW := bw_of (i := 383) (by decide +kernel) rfl
theorem m_X10_133 : Cond.methodLink RX10 133 yX6_add ∈ BW := bw_of (i := 386) (by decide +kernel) rfl
theorem m_L_45 : Cond.methodLink RL 45 yX10_name ∈ BW := bw_of (i := 390) (by decide +kernel) rfl
theorem m_X10_136 : Cond.methodLink RX10 136 yX10_judgeTape ∈ BW := bw_of (i := 394) (by decide +kernel) rfl
theorem m_X10_151 : Cond.methodLink RX10 151 yX10_setFault ∈ BW := bw_of (i := 398) (by decide +kernel) rfl
theorem m_X10_155 : Cond.methodLink RX10 155 yX7_howOf ∈ BW := bw_of (i := 402) (by decide +kernel) rfl
theorem a_X10_139 : Cond.classLink RX10 139 RX8 ∈ BW := bw_of (i := 403) (by decide +kernel) rfl
theorem n_X10_139 : NC RX10 139 8 := ⟨(RX8, TX8, 8), rfl, a_X10_139, bw_of (i := 404) (by decide +kernel) rfl, bw_of (i := 50) (by decide +kernel) rfl⟩
theorem m_X10_141 : Cond.methodLink RX10 141 yX8_init ∈ BW := bw_of (i := 405) (by decide +kernel) rfl
theorem m_X8_3 : Cond.methodLink RX8 3 objectInit ∈ BW := bw_of (i := 408) (by decide +kernel) rfl
theorem m_X8_9 : Cond.methodLink RX8 9 yJ9_min_7cf53 ∈ BW := bw_of (i := 409) (by decide +kernel) rfl
theorem m_X8_15 : Cond.methodLink RX8 15 yJ9_max_7cf53 ∈ BW := bw_of (i := 410) (by decide +kernel) rfl
theorem m_X8_24 : Cond.methodLink RX8 24 yJ7_copyOf_59c91 ∈ BW := bw_of (i := 411) (by decide +kernel) rfl
theorem m_J7_304 : Cond.methodLink RJ7 304 yJ9_min_7cf53 ∈ BW := bw_of (i := 421) (by decide +kernel) rfl
theorem f_X8_30 : FG RX8 30 8 0 := ⟨(RX8, TX8, 8), rfl, by decide, bw_of (i := 425) (by decide +kernel) rfl⟩
theorem f_X8_18 : FG RX8 18 8 1 := ⟨(RX8, TX8, 8), rfl, by decide, bw_of (i := 426) (by decide +kernel) rfl⟩
theorem f_X10_158 : FGN RX10 158 8 1 := ⟨(RX8, TX8, 8), "NameGuard", rfl, by decide, nw_of (i := 390) (by decide +kernel) rfl⟩
theorem f_X8_34 : FG RX8 34 8 2 := ⟨(RX8, TX8, 8), rfl, by decide, bw_of (i := 428) (by decide +kernel) rfl⟩
theorem f_X8_43 : FG RX8 43 8 3 := ⟨(RX8, TX8, 8), rfl, by decide, bw_of (i := 429) (by decide +kernel) rfl⟩
theorem f_X1_19 : FGN RX1 19 8 3 := ⟨(RX8, TX8, 8), "NameGuard", rfl, by decide, nw_of (i := 393) (by decide +kernel) rfl⟩
theorem f_X10_148 : FGN RX10 148 8 3 := ⟨(RX8, TX8, 8), "NameGuard", rfl, by decide, nw_of (i := 394) (by decide +kernel) rfl⟩
theorem f_X8_46 : FG RX8 46 8 4 := ⟨(RX8, TX8, 8), rfl, by decide, bw_of (i := 432) (by decide +kernel) rfl⟩
theorem f_X8_37 : FG RX8 37 8 5 := ⟨(RX8, TX8, 8), rfl, by decide, bw_of (i := 433) (by decide +kernel) rfl⟩
theorem f_X8_40 : FG RX8 40 8 6 := ⟨(RX8, TX8, 8), rfl, by decide, bw_of (i := 434) (by decide +kernel) rfl⟩
theorem f_X8_49 : FG RX8 49 8 7 := ⟨(RX8, TX8, 8), rfl, by decide, bw_of (i := 435) (by decide +kernel) rfl⟩
theorem m_X10_144 : Cond.methodLink RX10 144 yX8_look ∈ BW := bw_of (i := 453) (by decide +kernel) rfl
theorem m_X8_57 : Cond.methodLink RX8 57 yX7_howOf ∈ BW := bw_of (i := 457) (by decide +kernel) rfl
theorem m_X8_61 : Cond.methodLink RX8 61 yX8_turnFrom ∈ BW := bw_of (i := 458) (by decide +kernel) rfl
theorem m_L_50 : Cond.methodLink RL 50 yX10_fault ∈ BW := bw_of (i := 462) (by decide +kernel) rfl
theorem m_L_54 : Cond.methodLink RL 54 yX10_about ∈ BW := bw_of (i := 466) (by decide +kernel) rfl
theorem m_X10_161 : Cond.methodLink RX10 161 yX8_scriptBits ∈ BW := bw_of (i := 470) (by decide +kernel) rfl
theorem m_X8_77 : Cond.methodLink RX8 77 yX7_scriptOf ∈ BW := bw_of (i := 474) (by decide +kernel) rfl
theorem m_X10_165 : Cond.methodLink RX10 165 yX10_isMixed ∈ BW := bw_of (i := 475) (by decide +kernel) rfl
theorem m_X10_184 : Cond.methodLink RX10 184 yJ6_bitCount_0f7a4 ∈ BW := bw_of (i := 479) (by decide +kernel) rfl
theorem k_J6_265 : Cond.constant RJ6 265 (1431655765) ∈ BW := bw_of (i := 482) (by decide +kernel) rfl
theorem k_J6_266 : Cond.constant RJ6 266 (858993459) ∈ BW := bw_of (i := 483) (by decide +kernel) rfl
theorem k_J6_267 : Cond.constant RJ6 267 (252645135) ∈ BW := bw_of (i := 484) (by decide +kernel) rfl
theorem m_X10_189 : Cond.methodLink RX10 189 yX6_holdTogether ∈ BW := bw_of (i := 485) (by decide +kernel) rfl
theorem m_X10_169 : Cond.methodLink RX10 169 yX10_bit ∈ BW := bw_of (i := 489) (by decide +kernel) rfl
theorem m_X10_173 : Cond.methodLink RX10 173 yX8_has ∈ BW := bw_of (i := 492) (by decide +kernel) rfl
theorem m_X10_177 : Cond.methodLink RX10 177 yX8_isPadded ∈ BW := bw_of (i := 496) (by decide +kernel) rfl
theorem m_X10_181 : Cond.methodLink RX10 181 yX8_seenAt ∈ BW := bw_of (i := 500) (by decide +kernel) rfl
theorem m_L_58 : Cond.methodLink RL 58 yX10_rule ∈ BW := bw_of (i := 504) (by decide +kernel) rfl
theorem m_X10_192 : Cond.methodLink RX10 192 yX10_registerAt ∈ BW := bw_of (i := 508) (by decide +kernel) rfl
theorem m_L_63 : Cond.methodLink RL 63 yX10_ask ∈ BW := bw_of (i := 512) (by decide +kernel) rfl
theorem m_X10_206 : Cond.methodLink RX10 206 yX10_verdict ∈ BW := bw_of (i := 516) (by decide +kernel) rfl
theorem m_X10_209 : Cond.methodLink RX10 209 yX10_isHeld ∈ BW := bw_of (i := 520) (by decide +kernel) rfl
theorem m_X10_217 : Cond.methodLink RX10 217 yX10_standingAt ∈ BW := bw_of (i := 524) (by decide +kernel) rfl
theorem m_X10_248 : Cond.methodLink RX10 248 yX10_entryAt ∈ BW := bw_of (i := 528) (by decide +kernel) rfl
theorem m_X10_227 : Cond.methodLink RX10 227 yX8_isSeenAs ∈ BW := bw_of (i := 532) (by decide +kernel) rfl
theorem m_X8_74 : Cond.methodLink RX8 74 yX8_seenAt ∈ BW := bw_of (i := 536) (by decide +kernel) rfl
theorem m_X10_213 : Cond.methodLink RX10 213 yX10_leastToOthers ∈ BW := bw_of (i := 537) (by decide +kernel) rfl
theorem m_X10_233 : Cond.methodLink RX10 233 yJ9_min_7cf53 ∈ BW := bw_of (i := 541) (by decide +kernel) rfl
theorem m_X10_238 : Cond.methodLink RX10 238 yX10_costBetween ∈ BW := bw_of (i := 542) (by decide +kernel) rfl
theorem m_X10_294 : Cond.methodLink RX10 294 yX8_findPieces ∈ BW := bw_of (i := 546) (by decide +kernel) rfl
theorem m_X8_68 : Cond.methodLink RX8 68 yX4_indexOf ∈ BW := bw_of (i := 550) (by decide +kernel) rfl
theorem m_X8_71 : Cond.methodLink RX8 71 yX8_pieceAt ∈ BW := bw_of (i := 551) (by decide +kernel) rfl
theorem m_X10_297 : Cond.methodLink RX10 297 yX1_leastWithin ∈ BW := bw_of (i := 555) (by decide +kernel) rfl
theorem k_X1_25 : Cond.constant RX1 25 (536870912) ∈ BW := bw_of (i := 559) (by decide +kernel) rfl
theorem m_X1_26 : Cond.methodLink RX1 26 yJ7_fill_fda19 ∈ BW := bw_of (i := 560) (by decide +kernel) rfl
theorem m_X1_32 : Cond.methodLink RX1 32 yX1_fillRow ∈ BW := bw_of (i := 561) (by decide +kernel) rfl
theorem m_X1_36 : Cond.methodLink RX1 36 yJ9_max_7cf53 ∈ BW := bw_of (i := 565) (by decide +kernel) rfl
theorem m_X1_42 : Cond.methodLink RX1 42 yJ9_min_7cf53 ∈ BW := bw_of (i := 566) (by decide +kernel) rfl
theorem m_X1_45 : Cond.methodLink RX1 45 yX1_costBy ∈ BW := bw_of (i := 567) (by decide +kernel) rfl
theorem f_X1_49 : Cond.fieldLink RX1 49 "NameGuard$Measure" "X_SIGNS" "[I" ∈ BW := bw_of (i := 571) (by decide +kernel) rfl
theorem f_X1_52 : Cond.fieldLink RX1 52 "NameGuard$Measure" "Y_SIGNS" "[I" ∈ BW := bw_of (i := 573) (by decide +kernel) rfl
theorem m_X1_55 : Cond.methodLink RX1 55 yX8_seenAt ∈ BW := bw_of (i := 575) (by decide +kernel) rfl
theorem m_X1_59 : Cond.methodLink RX1 59 yX8_pieceIndexAt ∈ BW := bw_of (i := 576) (by decide +kernel) rfl
theorem m_X1_62 : Cond.methodLink RX1 62 yX4_leastBetween ∈ BW := bw_of (i := 580) (by decide +kernel) rfl
theorem m_L_67 : Cond.methodLink RL 67 yX10_enter ∈ BW := bw_of (i := 581) (by decide +kernel) rfl
theorem m_X10_242 : Cond.methodLink RX10 242 yX0_init ∈ BW := bw_of (i := 586) (by decide +kernel) rfl
theorem m_X0_1 : Cond.methodLink RX0 1 objectInit ∈ BW := bw_of (i := 589) (by decide +kernel) rfl
theorem f_X0_7 : FG RX0 7 0 0 := ⟨(RX0, TX0, 4), rfl, by decide, bw_of (i := 590) (by decide +kernel) rfl⟩
theorem f_X10_221 : FGN RX10 221 0 0 := ⟨(RX0, TX0, 4), "NameGuard", rfl, by decide, nw_of (i := 554) (by decide +kernel) rfl⟩
theorem f_X0_13 : FG RX0 13 0 1 := ⟨(RX0, TX0, 4), rfl, by decide, bw_of (i := 592) (by decide +kernel) rfl⟩
theorem f_X10_230 : FGN RX10 230 0 1 := ⟨(RX0, TX0, 4), "NameGuard", rfl, by decide, nw_of (i := 556) (by decide +kernel) rfl⟩
theorem f_X0_16 : FG RX0 16 0 2 := ⟨(RX0, TX0, 4), rfl, by decide, bw_of (i := 594) (by decide +kernel) rfl⟩
theorem f_X10_224 : FGN RX10 224 0 2 := ⟨(RX0, TX0, 4), "NameGuard", rfl, by decide, nw_of (i := 558) (by decide +kernel) rfl⟩
theorem f_X0_20 : FG RX0 20 0 3 := ⟨(RX0, TX0, 4), rfl, by decide, bw_of (i := 596) (by decide +kernel) rfl⟩
theorem f_X10_245 : FGN RX10 245 0 3 := ⟨(RX0, TX0, 4), "NameGuard", rfl, by decide, nw_of (i := 560) (by decide +kernel) rfl⟩
theorem m_L_71 : Cond.methodLink RL 71 yX10_strike ∈ BW := bw_of (i := 607) (by decide +kernel) rfl
theorem m_L_75 : Cond.methodLink RL 75 yX10_entry ∈ BW := bw_of (i := 611) (by decide +kernel) rfl
theorem m_X10_251 : Cond.methodLink RX10 251 yX8_toldAt ∈ BW := bw_of (i := 615) (by decide +kernel) rfl
theorem m_L_79 : Cond.methodLink RL 79 yX10_far ∈ BW := bw_of (i := 619) (by decide +kernel) rfl
theorem k_X10_254 : Cond.constant RX10 254 (536870911) ∈ BW := bw_of (i := 623) (by decide +kernel) rfl
theorem m_L_83 : Cond.methodLink RL 83 yX10_near ∈ BW := bw_of (i := 624) (by decide +kernel) rfl
theorem m_X10_258 : Cond.methodLink RX10 258 yX2_insert ∈ BW := bw_of (i := 628) (by decide +kernel) rfl
theorem m_L_87 : Cond.methodLink RL 87 yX10_nearest ∈ BW := bw_of (i := 632) (by decide +kernel) rfl
theorem m_X10_261 : Cond.methodLink RX10 261 yX2_tell ∈ BW := bw_of (i := 636) (by decide +kernel) rfl
theorem m_L_91 : Cond.methodLink RL 91 yX10_ways ∈ BW := bw_of (i := 640) (by decide +kernel) rfl
theorem m_X10_263 : Cond.methodLink RX10 263 yX1_writeWay ∈ BW := bw_of (i := 644) (by decide +kernel) rfl
theorem m_X1_72 : Cond.methodLink RX1 72 yX1_firstShape ∈ BW := bw_of (i := 648) (by decide +kernel) rfl
theorem m_X1_76 : Cond.methodLink RX1 76 yX8_pieceAt ∈ BW := bw_of (i := 652) (by decide +kernel) rfl
theorem m_X1_79 : Cond.methodLink RX1 79 yX9_add ∈ BW := bw_of (i := 653) (by decide +kernel) rfl
theorem m_L_95 : Cond.methodLink RL 95 yX10_way ∈ BW := bw_of (i := 657) (by decide +kernel) rfl
theorem m_X10_268 : Cond.methodLink RX10 268 yX9_tell ∈ BW := bw_of (i := 661) (by decide +kernel) rfl
theorem m_L_99 : Cond.methodLink RL 99 yX10_likes ∈ BW := bw_of (i := 665) (by decide +kernel) rfl
theorem m_X10_272 : Cond.methodLink RX10 272 yX10_addPairsOf ∈ BW := bw_of (i := 669) (by decide +kernel) rfl
theorem m_X10_276 : Cond.methodLink RX10 276 yX3_add ∈ BW := bw_of (i := 673) (by decide +kernel) rfl
theorem m_L_103 : Cond.methodLink RL 103 yX10_like ∈ BW := bw_of (i := 677) (by decide +kernel) rfl
theorem m_X10_279 : Cond.methodLink RX10 279 yX3_tell ∈ BW := bw_of (i := 681) (by decide +kernel) rfl
theorem m_L_107 : Cond.methodLink RL 107 yX10_count ∈ BW := bw_of (i := 685) (by decide +kernel) rfl
theorem m_X10_284 : Cond.methodLink RX10 284 yX10_countStanding ∈ BW := bw_of (i := 689) (by decide +kernel) rfl
theorem m_X10_288 : Cond.methodLink RX10 288 yX4_countPieces ∈ BW := bw_of (i := 693) (by decide +kernel) rfl
theorem m_X4_50 : Cond.methodLink RX4 50 yX4_closeChains ∈ BW := bw_of (i := 697) (by decide +kernel) rfl
theorem m_X10_291 : Cond.methodLink RX10 291 yX10_countOfRegister ∈ BW := bw_of (i := 698) (by decide +kernel) rfl
theorem a_L_10 : Cond.classLink RL 10 RX11 ∈ BW := bw_of (i := 702) (by decide +kernel) rfl
theorem n_L_10 : NC RL 10 11 := ⟨(RX11, TX11, 42), rfl, a_L_10, bw_of (i := 703) (by decide +kernel) rfl, bw_of (i := 48) (by decide +kernel) rfl⟩
theorem m_L_12 : Cond.methodLink RL 12 yX11_init ∈ BW := bw_of (i := 704) (by decide +kernel) rfl
theorem m_X11_1 : Cond.methodLink RX11 1 objectInit ∈ BW := bw_of (i := 707) (by decide +kernel) rfl
theorem m_X11_103 : Cond.methodLink RX11 103 yX11_makeNodes ∈ BW := bw_of (i := 708) (by decide +kernel) rfl
theorem k_X11_134 : Cond.constant RX11 134 (1000000) ∈ BW := bw_of (i := 712) (by decide +kernel) rfl
theorem m_X11_135 : Cond.methodLink RX11 135 yX11_node ∈ BW := bw_of (i := 713) (by decide +kernel) rfl
theorem m_X11_127 : Cond.methodLink RX11 127 yX11_nodeOf ∈ BW := bw_of (i := 717) (by decide +kernel) rfl
theorem f_X11_7 : FG RX11 7 11 0 := ⟨(RX11, TX11, 42), rfl, by decide, bw_of (i := 721) (by decide +kernel) rfl⟩
theorem f_X11_13 : FG RX11 13 11 1 := ⟨(RX11, TX11, 42), rfl, by decide, bw_of (i := 722) (by decide +kernel) rfl⟩
theorem f_X11_16 : FG RX11 16 11 2 := ⟨(RX11, TX11, 42), rfl, by decide, bw_of (i := 723) (by decide +kernel) rfl⟩
theorem f_X11_110 : FG RX11 110 11 3 := ⟨(RX11, TX11, 42), rfl, by decide, bw_of (i := 724) (by decide +kernel) rfl⟩
theorem f_X11_117 : FG RX11 117 11 4 := ⟨(RX11, TX11, 42), rfl, by decide, bw_of (i := 725) (by decide +kernel) rfl⟩
theorem f_X11_20 : FG RX11 20 11 5 := ⟨(RX11, TX11, 42), rfl, by decide, bw_of (i := 726) (by decide +kernel) rfl⟩
theorem f_X11_23 : FG RX11 23 11 6 := ⟨(RX11, TX11, 42), rfl, by decide, bw_of (i := 727) (by decide +kernel) rfl⟩
theorem f_X11_26 : FG RX11 26 11 7 := ⟨(RX11, TX11, 42), rfl, by decide, bw_of (i := 728) (by decide +kernel) rfl⟩
theorem f_X11_131 : FG RX11 131 11 8 := ⟨(RX11, TX11, 42), rfl, by decide, bw_of (i := 729) (by decide +kernel) rfl⟩
theorem f_X11_29 : FG RX11 29 11 9 := ⟨(RX11, TX11, 42), rfl, by decide, bw_of (i := 730) (by decide +kernel) rfl⟩
theorem f_X11_32 : FG RX11 32 11 10 := ⟨(RX11, TX11, 42), rfl, by decide, bw_of (i := 731) (by decide +kernel) rfl⟩
theorem f_X11_35 : FG RX11 35 11 11 := ⟨(RX11, TX11, 42), rfl, by decide, bw_of (i := 732) (by decide +kernel) rfl⟩
theorem f_X11_141 : FG RX11 141 11 12 := ⟨(RX11, TX11, 42), rfl, by decide, bw_of (i := 733) (by decide +kernel) rfl⟩
theorem f_X11_38 : FG RX11 38 11 13 := ⟨(RX11, TX11, 42), rfl, by decide, bw_of (i := 734) (by decide +kernel) rfl⟩
theorem f_X11_41 : FG RX11 41 11 14 := ⟨(RX11, TX11, 42), rfl, by decide, bw_of (i := 735) (by decide +kernel) rfl⟩
theorem f_X11_44 : FG RX11 44 11 15 := ⟨(RX11, TX11, 42), rfl, by decide, bw_of (i := 736) (by decide +kernel) rfl⟩
theorem f_X11_158 : FG RX11 158 11 16 := ⟨(RX11, TX11, 42), rfl, by decide, bw_of (i := 737) (by decide +kernel) rfl⟩
theorem f_X11_148 : FG RX11 148 11 17 := ⟨(RX11, TX11, 42), rfl, by decide, bw_of (i := 738) (by decide +kernel) rfl⟩
theorem f_X11_47 : FG RX11 47 11 18 := ⟨(RX11, TX11, 42), rfl, by decide, bw_of (i := 739) (by decide +kernel) rfl⟩
theorem f_X11_51 : FG RX11 51 11 19 := ⟨(RX11, TX11, 42), rfl, by decide, bw_of (i := 740) (by decide +kernel) rfl⟩
theorem f_X11_54 : FG RX11 54 11 20 := ⟨(RX11, TX11, 42), rfl, by decide, bw_of (i := 741) (by decide +kernel) rfl⟩
theorem f_X11_57 : FG RX11 57 11 21 := ⟨(RX11, TX11, 42), rfl, by decide, bw_of (i := 742) (by decide +kernel) rfl⟩
theorem f_X11_177 : FG RX11 177 11 22 := ⟨(RX11, TX11, 42), rfl, by decide, bw_of (i := 743) (by decide +kernel) rfl⟩
theorem f_X11_180 : FG RX11 180 11 23 := ⟨(RX11, TX11, 42), rfl, by decide, bw_of (i := 744) (by decide +kernel) rfl⟩
theorem f_X11_60 : FG RX11 60 11 24 := ⟨(RX11, TX11, 42), rfl, by decide, bw_of (i := 745) (by decide +kernel) rfl⟩
theorem f_X11_63 : FG RX11 63 11 25 := ⟨(RX11, TX11, 42), rfl, by decide, bw_of (i := 746) (by decide +kernel) rfl⟩
theorem f_X11_66 : FG RX11 66 11 26 := ⟨(RX11, TX11, 42), rfl, by decide, bw_of (i := 747) (by decide +kernel) rfl⟩
theorem f_X11_190 : FG RX11 190 11 27 := ⟨(RX11, TX11, 42), rfl, by decide, bw_of (i := 748) (by decide +kernel) rfl⟩
theorem f_X11_70 : FG RX11 70 11 28 := ⟨(RX11, TX11, 42), rfl, by decide, bw_of (i := 749) (by decide +kernel) rfl⟩
theorem f_X11_73 : FG RX11 73 11 29 := ⟨(RX11, TX11, 42), rfl, by decide, bw_of (i := 750) (by decide +kernel) rfl⟩
theorem f_X11_76 : FG RX11 76 11 30 := ⟨(RX11, TX11, 42), rfl, by decide, bw_of (i := 751) (by decide +kernel) rfl⟩
theorem f_X11_79 : FG RX11 79 11 31 := ⟨(RX11, TX11, 42), rfl, by decide, bw_of (i := 752) (by decide +kernel) rfl⟩
theorem f_X11_82 : FG RX11 82 11 32 := ⟨(RX11, TX11, 42), rfl, by decide, bw_of (i := 753) (by decide +kernel) rfl⟩
theorem f_X11_208 : FG RX11 208 11 33 := ⟨(RX11, TX11, 42), rfl, by decide, bw_of (i := 754) (by decide +kernel) rfl⟩
theorem f_X11_85 : FG RX11 85 11 34 := ⟨(RX11, TX11, 42), rfl, by decide, bw_of (i := 755) (by decide +kernel) rfl⟩
theorem f_X11_88 : FG RX11 88 11 35 := ⟨(RX11, TX11, 42), rfl, by decide, bw_of (i := 756) (by decide +kernel) rfl⟩
theorem f_X11_91 : FG RX11 91 11 36 := ⟨(RX11, TX11, 42), rfl, by decide, bw_of (i := 757) (by decide +kernel) rfl⟩
theorem f_X11_211 : FG RX11 211 11 37 := ⟨(RX11, TX11, 42), rfl, by decide, bw_of (i := 758) (by decide +kernel) rfl⟩
theorem f_X11_94 : FG RX11 94 11 38 := ⟨(RX11, TX11, 42), rfl, by decide, bw_of (i := 759) (by decide +kernel) rfl⟩
theorem f_X11_97 : FG RX11 97 11 39 := ⟨(RX11, TX11, 42), rfl, by decide, bw_of (i := 760) (by decide +kernel) rfl⟩
theorem f_X11_100 : FG RX11 100 11 40 := ⟨(RX11, TX11, 42), rfl, by decide, bw_of (i := 761) (by decide +kernel) rfl⟩
theorem f_X11_214 : FG RX11 214 11 41 := ⟨(RX11, TX11, 42), rfl, by decide, bw_of (i := 762) (by decide +kernel) rfl⟩
theorem m_L_17 : Cond.methodLink RL 17 yX11_feed ∈ BW := bw_of (i := 850) (by decide +kernel) rfl
theorem m_L_22 : Cond.methodLink RL 22 yX11_end ∈ BW := bw_of (i := 854) (by decide +kernel) rfl
theorem m_L_27 : Cond.methodLink RL 27 yX11_script ∈ BW := bw_of (i := 858) (by decide +kernel) rfl
theorem m_X11_113 : Cond.methodLink RX11 113 yX11_isSign ∈ BW := bw_of (i := 862) (by decide +kernel) rfl
theorem m_X11_106 : Cond.methodLink RX11 106 yX11_in ∈ BW := bw_of (i := 865) (by decide +kernel) rfl
theorem m_L_31 : Cond.methodLink RL 31 yX11_seen ∈ BW := bw_of (i := 868) (by decide +kernel) rfl
theorem m_L_36 : Cond.methodLink RL 36 yX11_confuse ∈ BW := bw_of (i := 872) (by decide +kernel) rfl
theorem m_X11_120 : Cond.methodLink RX11 120 yX11_isPiece ∈ BW := bw_of (i := 876) (by decide +kernel) rfl
theorem m_X11_123 : Cond.methodLink RX11 123 yX11_find ∈ BW := bw_of (i := 879) (by decide +kernel) rfl
theorem m_L_40 : Cond.methodLink RL 40 yX11_chain ∈ BW := bw_of (i := 883) (by decide +kernel) rfl
theorem m_X11_138 : Cond.methodLink RX11 138 yX11_chainOf ∈ BW := bw_of (i := 887) (by decide +kernel) rfl
theorem m_L_44 : Cond.methodLink RL 44 yX11_allow ∈ BW := bw_of (i := 891) (by decide +kernel) rfl
theorem m_L_49 : Cond.methodLink RL 49 yX11_name ∈ BW := bw_of (i := 895) (by decide +kernel) rfl
theorem m_X11_155 : Cond.methodLink RX11 155 yX11_readName ∈ BW := bw_of (i := 899) (by decide +kernel) rfl
theorem m_X11_151 : Cond.methodLink RX11 151 yX11_wrong ∈ BW := bw_of (i := 903) (by decide +kernel) rfl
theorem m_X11_162 : Cond.methodLink RX11 162 yX11_see ∈ BW := bw_of (i := 907) (by decide +kernel) rfl
theorem m_X11_144 : Cond.methodLink RX11 144 yX11_turn ∈ BW := bw_of (i := 911) (by decide +kernel) rfl
theorem m_L_53 : Cond.methodLink RL 53 yX11_fault ∈ BW := bw_of (i := 914) (by decide +kernel) rfl
theorem m_L_57 : Cond.methodLink RL 57 yX11_about ∈ BW := bw_of (i := 918) (by decide +kernel) rfl
theorem m_X11_166 : Cond.methodLink RX11 166 yX11_scripts ∈ BW := bw_of (i := 922) (by decide +kernel) rfl
theorem m_X11_170 : Cond.methodLink RX11 170 yX11_isMixed ∈ BW := bw_of (i := 926) (by decide +kernel) rfl
theorem m_X11_174 : Cond.methodLink RX11 174 yX11_has ∈ BW := bw_of (i := 930) (by decide +kernel) rfl
theorem m_L_62 : Cond.methodLink RL 62 yX11_rule ∈ BW := bw_of (i := 934) (by decide +kernel) rfl
theorem m_X11_187 : Cond.methodLink RX11 187 yX11_isRegister ∈ BW := bw_of (i := 938) (by decide +kernel) rfl
theorem m_L_66 : Cond.methodLink RL 66 yX11_ask ∈ BW := bw_of (i := 941) (by decide +kernel) rfl
theorem m_X11_193 : Cond.methodLink RX11 193 yX11_isIn ∈ BW := bw_of (i := 945) (by decide +kernel) rfl
theorem m_X11_196 : Cond.methodLink RX11 196 yX11_isSame ∈ BW := bw_of (i := 949) (by decide +kernel) rfl
theorem m_X11_199 : Cond.methodLink RX11 199 yX11_reckon ∈ BW := bw_of (i := 953) (by decide +kernel) rfl
theorem m_X11_183 : Cond.methodLink RX11 183 yX11_piece ∈ BW := bw_of (i := 957) (by decide +kernel) rfl
theorem m_L_70 : Cond.methodLink RL 70 yX11_enter ∈ BW := bw_of (i := 960) (by decide +kernel) rfl
theorem m_X11_202 : Cond.methodLink RX11 202 yX11_ask ∈ BW := bw_of (i := 964) (by decide +kernel) rfl
theorem m_L_74 : Cond.methodLink RL 74 yX11_strike ∈ BW := bw_of (i := 965) (by decide +kernel) rfl
theorem m_X11_205 : Cond.methodLink RX11 205 yX11_isEntry ∈ BW := bw_of (i := 969) (by decide +kernel) rfl
theorem m_L_78 : Cond.methodLink RL 78 yX11_entry ∈ BW := bw_of (i := 973) (by decide +kernel) rfl
theorem m_L_82 : Cond.methodLink RL 82 yX11_far ∈ BW := bw_of (i := 977) (by decide +kernel) rfl
theorem m_L_86 : Cond.methodLink RL 86 yX11_near ∈ BW := bw_of (i := 981) (by decide +kernel) rfl
theorem m_L_90 : Cond.methodLink RL 90 yX11_nearest ∈ BW := bw_of (i := 985) (by decide +kernel) rfl
theorem m_L_94 : Cond.methodLink RL 94 yX11_ways ∈ BW := bw_of (i := 989) (by decide +kernel) rfl
theorem m_L_98 : Cond.methodLink RL 98 yX11_way ∈ BW := bw_of (i := 993) (by decide +kernel) rfl
theorem m_L_102 : Cond.methodLink RL 102 yX11_likes ∈ BW := bw_of (i := 997) (by decide +kernel) rfl
theorem m_L_106 : Cond.methodLink RL 106 yX11_like ∈ BW := bw_of (i := 1001) (by decide +kernel) rfl
theorem m_L_110 : Cond.methodLink RL 110 yX11_count ∈ BW := bw_of (i := 1005) (by decide +kernel) rfl
