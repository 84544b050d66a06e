/-! certificates: what the tables say of methods, links, fields (by program wip/whole/gen_cert.py) -/
theorem zu_of (ps : List Nat) {ws : List Cond} (hp : ws = ps.filterMap (fun i => tables_1[i]?)) (hg : ws.all goodWord = true) : ∀ w ∈ ws, w ∈ zG := by
  intro w hw
  have h1 := List.all_eq_true.mp hg w hw
  rw [hp] at hw
  obtain ⟨i, -, hi⟩ := List.mem_filterMap.mp hw
  exact zG_in i hi h1
theorem zu_0 : ∀ w ∈ u_ws RX0 TX0 7, w ∈ zG := zu_of [170, 172, 174, 176, 178, 180, 182] (by decide +kernel) (by decide +kernel)
theorem zu_1 : ∀ w ∈ u_ws RX1 TX1 4, w ∈ zG := zu_of [38, 40, 42, 44] (by decide +kernel) (by decide +kernel)
theorem zu_2 : ∀ w ∈ u_ws RX2 TX2 2, w ∈ zG := zu_of [146, 148] (by decide +kernel) (by decide +kernel)
theorem zu_3 : ∀ w ∈ u_ws RX3 TX3 4, w ∈ zG := zu_of [128, 130, 132, 134] (by decide +kernel) (by decide +kernel)
theorem zu_4 : ∀ w ∈ u_ws RX4 TX4 5, w ∈ zG := zu_of [83, 85, 87, 89, 91] (by decide +kernel) (by decide +kernel)
theorem zu_5 : ∀ w ∈ u_ws RX5 TX5 3, w ∈ zG := zu_of [60, 62, 64] (by decide +kernel) (by decide +kernel)
theorem zu_6 : ∀ w ∈ u_ws RX6 TX6 3, w ∈ zG := zu_of [103, 105, 107] (by decide +kernel) (by decide +kernel)
theorem zu_7 : ∀ w ∈ u_ws RX7 TX7 8, w ∈ zG := zu_of [194, 196, 198, 200, 202, 204, 206, 208] (by decide +kernel) (by decide +kernel)
abbrev kX7_init : zK := (yX7_init, cX7_init, 2, none, 2, 35, 115, 2435, [])
theorem ko_X7_init : zOk kX7_init 0 := ⟨zG_in 20 (by decide +kernel) rfl, zG_in 1 (by decide +kernel) rfl, by decide +kernel, by decide +kernel, by decide +kernel, by decide +kernel⟩
abbrev kX1_init : zK := (yX1_init, cX1_init, 2, none, 1, 14, 4, 96, [])
theorem ko_X1_init : zOk kX1_init 0 := ⟨zG_in 28 (by decide +kernel) rfl, zG_in 2 (by decide +kernel) rfl, by decide +kernel, by decide +kernel, by decide +kernel, by decide +kernel⟩
abbrev kX5_init : zK := (yX5_init, cX5_init, 1, none, 1, 14, 2, 12, [])
theorem ko_X5_init : zOk kX5_init 0 := ⟨zG_in 52 (by decide +kernel) rfl, zG_in 3 (by decide +kernel) rfl, by decide +kernel, by decide +kernel, by decide +kernel, by decide +kernel⟩
abbrev kX4_init : zK := (yX4_init, cX4_init, 1, none, 1, 14, 4, 240, [])
theorem ko_X4_init : zOk kX4_init 0 := ⟨zG_in 71 (by decide +kernel) rfl, zG_in 4 (by decide +kernel) rfl, by decide +kernel, by decide +kernel, by decide +kernel, by decide +kernel⟩
abbrev kX6_init : zK := (yX6_init, cX6_init, 1, none, 1, 14, 3, 72, [])
theorem ko_X6_init : zOk kX6_init 0 := ⟨zG_in 98 (by decide +kernel) rfl, zG_in 5 (by decide +kernel) rfl, by decide +kernel, by decide +kernel, by decide +kernel, by decide +kernel⟩
abbrev kX3_init : zK := (yX3_init, cX3_init, 1, none, 1, 14, 3, 60, [])
theorem ko_X3_init : zOk kX3_init 0 := ⟨zG_in 118 (by decide +kernel) rfl, zG_in 6 (by decide +kernel) rfl, by decide +kernel, by decide +kernel, by decide +kernel, by decide +kernel⟩
abbrev kX2_init : zK := (yX2_init, cX2_init, 2, none, 1, 14, 1, 100, [])
theorem ko_X2_init : zOk kX2_init 0 := ⟨zG_in 140 (by decide +kernel) rfl, zG_in 7 (by decide +kernel) rfl, by decide +kernel, by decide +kernel, by decide +kernel, by decide +kernel⟩
abbrev kX0_init : zK := (yX0_init, cX0_init, 1, none, 1, 14, 6, 119, [])
theorem ko_X0_init : zOk kX0_init 0 := ⟨zG_in 154 (by decide +kernel) rfl, zG_in 8 (by decide +kernel) rfl, by decide +kernel, by decide +kernel, by decide +kernel, by decide +kernel⟩
abbrev kX7_coast : zK := (yX7_coast, cX7_coast, 6, none, 7, 102, 2, 12, [])
theorem ko_X7_coast : zOk kX7_coast 5 := ⟨zG_in 214 (by decide +kernel) rfl, zG_in 1 (by decide +kernel) rfl, by decide +kernel, by decide +kernel, by decide +kernel, by decide +kernel⟩
abbrev kX7_needPoint : zK := (yX7_needPoint, cX7_needPoint, 1, none, 6, 82, 1, 6, [])
theorem ko_X7_needPoint : zOk kX7_needPoint 1 := ⟨zG_in 217 (by decide +kernel) rfl, zG_in 1 (by decide +kernel) rfl, by decide +kernel, by decide +kernel, by decide +kernel, by decide +kernel⟩
abbrev kX7_isWithin : zK := (yX7_isWithin, cX7_isWithin, 2, (some .boolean), 0, 0, 0, 0, [])
theorem ko_X7_isWithin : zOk kX7_isWithin 2 := ⟨zG_in 288 (by decide +kernel) rfl, zG_in 1 (by decide +kernel) rfl, by decide +kernel, by decide +kernel, by decide +kernel, by decide +kernel⟩
abbrev kX7_isName : zK := (yX7_isName, cX7_isName, 1, (some .boolean), 0, 0, 0, 0, [])
theorem ko_X7_isName : zOk kX7_isName 1 := ⟨zG_in 291 (by decide +kernel) rfl, zG_in 1 (by decide +kernel) rfl, by decide +kernel, by decide +kernel, by decide +kernel, by decide +kernel⟩
abbrev kX7_isYear : zK := (yX7_isYear, cX7_isYear, 1, (some .boolean), 0, 0, 0, 0, [])
theorem ko_X7_isYear : zOk kX7_isYear 1 := ⟨zG_in 294 (by decide +kernel) rfl, zG_in 1 (by decide +kernel) rfl, by decide +kernel, by decide +kernel, by decide +kernel, by decide +kernel⟩
abbrev kX7_pilot : zK := (yX7_pilot, cX7_pilot, 4, (some .int), 6, 82, 1, 6, [])
theorem ko_X7_pilot : zOk kX7_pilot 2 := ⟨zG_in 330 (by decide +kernel) rfl, zG_in 1 (by decide +kernel) rfl, by decide +kernel, by decide +kernel, by decide +kernel, by decide +kernel⟩
abbrev kX7_report : zK := (yX7_report, cX7_report, 9, (some .int), 7, 102, 3, 18, [])
theorem ko_X7_report : zOk kX7_report 3 := ⟨zG_in 336 (by decide +kernel) rfl, zG_in 1 (by decide +kernel) rfl, by decide +kernel, by decide +kernel, by decide +kernel, by decide +kernel⟩
abbrev kX7_chart : zK := (yX7_chart, cX7_chart, 6, (some .int), 7, 102, 2, 12, [])
theorem ko_X7_chart : zOk kX7_chart 2 := ⟨zG_in 343 (by decide +kernel) rfl, zG_in 1 (by decide +kernel) rfl, by decide +kernel, by decide +kernel, by decide +kernel, by decide +kernel⟩
abbrev kX7_needRoomForChart : zK := (yX7_needRoomForChart, cX7_needRoomForChart, 1, none, 6, 82, 1, 6, [])
theorem ko_X7_needRoomForChart : zOk kX7_needRoomForChart 0 := ⟨zG_in 348 (by decide +kernel) rfl, zG_in 1 (by decide +kernel) rfl, by decide +kernel, by decide +kernel, by decide +kernel, by decide +kernel⟩
abbrev kX0_forget : zK := (yX0_forget, cX0_forget, 2, none, 1, 24, 0, 0, [])
theorem ko_X0_forget : zOk kX0_forget 1 := ⟨zG_in 353 (by decide +kernel) rfl, zG_in 8 (by decide +kernel) rfl, by decide +kernel, by decide +kernel, by decide +kernel, by decide +kernel⟩
abbrev kX0_put : zK := (yX0_put, cX0_put, 5, none, 0, 0, 0, 0, [])
theorem ko_X0_put : zOk kX0_put 4 := ⟨zG_in 358 (by decide +kernel) rfl, zG_in 8 (by decide +kernel) rfl, by decide +kernel, by decide +kernel, by decide +kernel, by decide +kernel⟩
abbrev kX7_layOut : zK := (yX7_layOut, cX7_layOut, 5, none, 2, 50, 0, 0, [])
theorem ko_X7_layOut : zOk kX7_layOut 2 := ⟨zG_in 363 (by decide +kernel) rfl, zG_in 1 (by decide +kernel) rfl, by decide +kernel, by decide +kernel, by decide +kernel, by decide +kernel⟩
abbrev kX7_gather : zK := (yX7_gather, cX7_gather, 8, none, 1, 23, 0, 0, [])
theorem ko_X7_gather : zOk kX7_gather 2 := ⟨zG_in 367 (by decide +kernel) rfl, zG_in 1 (by decide +kernel) rfl, by decide +kernel, by decide +kernel, by decide +kernel, by decide +kernel⟩
abbrev kX6_begin : zK := (yX6_begin, cX6_begin, 2, none, 0, 0, 0, 0, [])
theorem ko_X6_begin : zOk kX6_begin 0 := ⟨zG_in 371 (by decide +kernel) rfl, zG_in 5 (by decide +kernel) rfl, by decide +kernel, by decide +kernel, by decide +kernel, by decide +kernel⟩
abbrev kX0_knows : zK := (yX0_knows, cX0_knows, 2, (some .boolean), 0, 0, 0, 0, [])
theorem ko_X0_knows : zOk kX0_knows 1 := ⟨zG_in 375 (by decide +kernel) rfl, zG_in 8 (by decide +kernel) rfl, by decide +kernel, by decide +kernel, by decide +kernel, by decide +kernel⟩
abbrev kX6_give : zK := (yX6_give, cX6_give, 4, none, 0, 0, 0, 0, [])
theorem ko_X6_give : zOk kX6_give 3 := ⟨zG_in 379 (by decide +kernel) rfl, zG_in 5 (by decide +kernel) rfl, by decide +kernel, by decide +kernel, by decide +kernel, by decide +kernel⟩
abbrev kX6_settle : zK := (yX6_settle, cX6_settle, 5, (some .boolean), 1, 24, 0, 0, [])
theorem ko_X6_settle : zOk kX6_settle 1 := ⟨zG_in 383 (by decide +kernel) rfl, zG_in 5 (by decide +kernel) rfl, by decide +kernel, by decide +kernel, by decide +kernel, by decide +kernel⟩
abbrev kX7_hand : zK := (yX7_hand, cX7_hand, 5, (some .int), 7, 103, 2, 12, [])
theorem ko_X7_hand : zOk kX7_hand 2 := ⟨zG_in 388 (by decide +kernel) rfl, zG_in 1 (by decide +kernel) rfl, by decide +kernel, by decide +kernel, by decide +kernel, by decide +kernel⟩
abbrev kX7_copyistOf : zK := (yX7_copyistOf, cX7_copyistOf, 2, (some (.object "PortolanHall$Copyist")), 6, 82, 1, 6, [])
theorem ko_X7_copyistOf : zOk kX7_copyistOf 1 := ⟨zG_in 392 (by decide +kernel) rfl, zG_in 1 (by decide +kernel) rfl, by decide +kernel, by decide +kernel, by decide +kernel, by decide +kernel⟩
abbrev kX7_reads : zK := (yX7_reads, cX7_reads, 5, none, 7, 103, 2, 12, [])
theorem ko_X7_reads : zOk kX7_reads 3 := ⟨zG_in 398 (by decide +kernel) rfl, zG_in 1 (by decide +kernel) rfl, by decide +kernel, by decide +kernel, by decide +kernel, by decide +kernel⟩
abbrev kX7_copy : zK := (yX7_copy, cX7_copy, 12, (some .int), 7, 103, 4, 24, [])
theorem ko_X7_copy : zOk kX7_copy 4 := ⟨zG_in 403 (by decide +kernel) rfl, zG_in 1 (by decide +kernel) rfl, by decide +kernel, by decide +kernel, by decide +kernel, by decide +kernel⟩
abbrev kX7_chartOf : zK := (yX7_chartOf, cX7_chartOf, 2, (some (.object "PortolanHall$Chart")), 6, 82, 1, 6, [])
theorem ko_X7_chartOf : zOk kX7_chartOf 1 := ⟨zG_in 407 (by decide +kernel) rfl, zG_in 1 (by decide +kernel) rfl, by decide +kernel, by decide +kernel, by decide +kernel, by decide +kernel⟩
abbrev kX2_readingOf : zK := (yX2_readingOf, cX2_readingOf, 2, (some .int), 1, 20, 0, 0, [])
theorem ko_X2_readingOf : zOk kX2_readingOf 1 := ⟨zG_in 413 (by decide +kernel) rfl, zG_in 7 (by decide +kernel) rfl, by decide +kernel, by decide +kernel, by decide +kernel, by decide +kernel⟩
abbrev kX7_drawn : zK := (yX7_drawn, cX7_drawn, 3, (some .int), 0, 0, 0, 0, [])
theorem ko_X7_drawn : zOk kX7_drawn 3 := ⟨zG_in 417 (by decide +kernel) rfl, zG_in 1 (by decide +kernel) rfl, by decide +kernel, by decide +kernel, by decide +kernel, by decide +kernel⟩
abbrev kX0_takeFrame : zK := (yX0_takeFrame, cX0_takeFrame, 3, none, 0, 0, 0, 0, [])
theorem ko_X0_takeFrame : zOk kX0_takeFrame 1 := ⟨zG_in 421 (by decide +kernel) rfl, zG_in 8 (by decide +kernel) rfl, by decide +kernel, by decide +kernel, by decide +kernel, by decide +kernel⟩
abbrev kX7_island : zK := (yX7_island, cX7_island, 6, (some .int), 7, 103, 2, 12, [])
theorem ko_X7_island : zOk kX7_island 3 := ⟨zG_in 425 (by decide +kernel) rfl, zG_in 1 (by decide +kernel) rfl, by decide +kernel, by decide +kernel, by decide +kernel, by decide +kernel⟩
abbrev kX7_exchange : zK := (yX7_exchange, cX7_exchange, 6, none, 7, 103, 3, 18, [])
theorem ko_X7_exchange : zOk kX7_exchange 3 := ⟨zG_in 431 (by decide +kernel) rfl, zG_in 1 (by decide +kernel) rfl, by decide +kernel, by decide +kernel, by decide +kernel, by decide +kernel⟩
abbrev kX7_lose : zK := (yX7_lose, cX7_lose, 7, (some .int), 7, 103, 4, 24, [])
theorem ko_X7_lose : zOk kX7_lose 3 := ⟨zG_in 435 (by decide +kernel) rfl, zG_in 1 (by decide +kernel) rfl, by decide +kernel, by decide +kernel, by decide +kernel, by decide +kernel⟩
abbrev kX0_knownFrom : zK := (yX0_knownFrom, cX0_knownFrom, 5, (some .int), 1, 21, 0, 0, [])
theorem ko_X0_knownFrom : zOk kX0_knownFrom 2 := ⟨zG_in 440 (by decide +kernel) rfl, zG_in 8 (by decide +kernel) rfl, by decide +kernel, by decide +kernel, by decide +kernel, by decide +kernel⟩
abbrev kX7_paint : zK := (yX7_paint, cX7_paint, 5, (some .boolean), 7, 103, 2, 12, [])
theorem ko_X7_paint : zOk kX7_paint 2 := ⟨zG_in 445 (by decide +kernel) rfl, zG_in 1 (by decide +kernel) rfl, by decide +kernel, by decide +kernel, by decide +kernel, by decide +kernel⟩
abbrev kX7_needIsland : zK := (yX7_needIsland, cX7_needIsland, 2, none, 6, 82, 1, 6, [])
theorem ko_X7_needIsland : zOk kX7_needIsland 1 := ⟨zG_in 449 (by decide +kernel) rfl, zG_in 1 (by decide +kernel) rfl, by decide +kernel, by decide +kernel, by decide +kernel, by decide +kernel⟩
abbrev kX7_told : zK := (yX7_told, cX7_told, 3, (some .int), 6, 82, 1, 6, [])
theorem ko_X7_told : zOk kX7_told 2 := ⟨zG_in 454 (by decide +kernel) rfl, zG_in 1 (by decide +kernel) rfl, by decide +kernel, by decide +kernel, by decide +kernel, by decide +kernel⟩
abbrev kL_cell : zK := (yL_cell, cL_cell, 2, (some .int), 0, 0, 0, 0, [])
theorem ko_L_cell : zOk kL_cell 2 := ⟨zG_in 458 (by decide +kernel) rfl, zG_in 0 (by decide +kernel) rfl, by decide +kernel, by decide +kernel, by decide +kernel, by decide +kernel⟩
abbrev kL_low : zK := (yL_low, cL_low, 2, (some .int), 0, 0, 0, 0, [])
theorem ko_L_low : zOk kL_low 2 := ⟨zG_in 463 (by decide +kernel) rfl, zG_in 0 (by decide +kernel) rfl, by decide +kernel, by decide +kernel, by decide +kernel, by decide +kernel⟩
abbrev kL_size : zK := (yL_size, cL_size, 1, (some .int), 0, 0, 0, 0, [])
theorem ko_L_size : zOk kL_size 1 := ⟨zG_in 467 (by decide +kernel) rfl, zG_in 0 (by decide +kernel) rfl, by decide +kernel, by decide +kernel, by decide +kernel, by decide +kernel⟩
abbrev kL_pasted : zK := (yL_pasted, cL_pasted, 6, (some .int), 8, 133, 5, 30, [(0, 9, 10, 16)])
theorem ko_L_pasted : zOk kL_pasted 5 := ⟨zG_in 470 (by decide +kernel) rfl, zG_in 0 (by decide +kernel) rfl, by decide +kernel, by decide +kernel, by decide +kernel, by decide +kernel⟩
abbrev kX7_paste : zK := (yX7_paste, cX7_paste, 11, (some .int), 7, 103, 5, 30, [])
theorem ko_X7_paste : zOk kX7_paste 4 := ⟨zG_in 475 (by decide +kernel) rfl, zG_in 1 (by decide +kernel) rfl, by decide +kernel, by decide +kernel, by decide +kernel, by decide +kernel⟩
abbrev kX7_leadsBack : zK := (yX7_leadsBack, cX7_leadsBack, 8, (some .boolean), 1, 22, 0, 0, [])
theorem ko_X7_leadsBack : zOk kX7_leadsBack 4 := ⟨zG_in 481 (by decide +kernel) rfl, zG_in 1 (by decide +kernel) rfl, by decide +kernel, by decide +kernel, by decide +kernel, by decide +kernel⟩
abbrev kX7_sourceOf : zK := (yX7_sourceOf, cX7_sourceOf, 3, (some .int), 0, 0, 0, 0, [])
theorem ko_X7_sourceOf : zOk kX7_sourceOf 2 := ⟨zG_in 485 (by decide +kernel) rfl, zG_in 1 (by decide +kernel) rfl, by decide +kernel, by decide +kernel, by decide +kernel, by decide +kernel⟩
abbrev kX0_fitsMoved : zK := (yX0_fitsMoved, cX0_fitsMoved, 6, (some .boolean), 2, 42, 0, 0, [])
theorem ko_X0_fitsMoved : zOk kX0_fitsMoved 4 := ⟨zG_in 490 (by decide +kernel) rfl, zG_in 8 (by decide +kernel) rfl, by decide +kernel, by decide +kernel, by decide +kernel, by decide +kernel⟩
abbrev kX0_isPlace : zK := (yX0_isPlace, cX0_isPlace, 2, (some .boolean), 1, 21, 0, 0, [])
theorem ko_X0_isPlace : zOk kX0_isPlace 2 := ⟨zG_in 493 (by decide +kernel) rfl, zG_in 8 (by decide +kernel) rfl, by decide +kernel, by decide +kernel, by decide +kernel, by decide +kernel⟩
abbrev kL_shrunk : zK := (yL_shrunk, cL_shrunk, 4, (some .int), 8, 128, 3, 18, [(0, 8, 9, 16)])
theorem ko_L_shrunk : zOk kL_shrunk 3 := ⟨zG_in 498 (by decide +kernel) rfl, zG_in 0 (by decide +kernel) rfl, by decide +kernel, by decide +kernel, by decide +kernel, by decide +kernel⟩
abbrev kX7_shrink : zK := (yX7_shrink, cX7_shrink, 6, (some .int), 7, 103, 3, 18, [])
theorem ko_X7_shrink : zOk kX7_shrink 4 := ⟨zG_in 502 (by decide +kernel) rfl, zG_in 1 (by decide +kernel) rfl, by decide +kernel, by decide +kernel, by decide +kernel, by decide +kernel⟩
abbrev kX7_needBasin : zK := (yX7_needBasin, cX7_needBasin, 1, none, 6, 82, 1, 6, [])
theorem ko_X7_needBasin : zOk kX7_needBasin 1 := ⟨zG_in 505 (by decide +kernel) rfl, zG_in 1 (by decide +kernel) rfl, by decide +kernel, by decide +kernel, by decide +kernel, by decide +kernel⟩
abbrev kX0_fitsShrunk : zK := (yX0_fitsShrunk, cX0_fitsShrunk, 4, (some .boolean), 2, 42, 0, 0, [])
theorem ko_X0_fitsShrunk : zOk kX0_fitsShrunk 2 := ⟨zG_in 511 (by decide +kernel) rfl, zG_in 8 (by decide +kernel) rfl, by decide +kernel, by decide +kernel, by decide +kernel, by decide +kernel⟩
abbrev kX7_firstOf : zK := (yX7_firstOf, cX7_firstOf, 1, (some .int), 0, 0, 0, 0, [])
theorem ko_X7_firstOf : zOk kX7_firstOf 1 := ⟨zG_in 514 (by decide +kernel) rfl, zG_in 1 (by decide +kernel) rfl, by decide +kernel, by decide +kernel, by decide +kernel, by decide +kernel⟩
abbrev kX7_lastOf : zK := (yX7_lastOf, cX7_lastOf, 1, (some .int), 1, 20, 0, 0, [])
theorem ko_X7_lastOf : zOk kX7_lastOf 1 := ⟨zG_in 517 (by decide +kernel) rfl, zG_in 1 (by decide +kernel) rfl, by decide +kernel, by decide +kernel, by decide +kernel, by decide +kernel⟩
abbrev kX0_shrunk : zK := (yX0_shrunk, cX0_shrunk, 2, (some .int), 0, 0, 0, 0, [])
theorem ko_X0_shrunk : zOk kX0_shrunk 2 := ⟨zG_in 521 (by decide +kernel) rfl, zG_in 8 (by decide +kernel) rfl, by decide +kernel, by decide +kernel, by decide +kernel, by decide +kernel⟩
abbrev kX0_shrinkPlaces : zK := (yX0_shrinkPlaces, cX0_shrinkPlaces, 4, none, 2, 40, 0, 0, [])
theorem ko_X0_shrinkPlaces : zOk kX0_shrinkPlaces 2 := ⟨zG_in 525 (by decide +kernel) rfl, zG_in 8 (by decide +kernel) rfl, by decide +kernel, by decide +kernel, by decide +kernel, by decide +kernel⟩
abbrev kL_right : zK := (yL_right, cL_right, 18, (some .boolean), 8, 130, 1760, 10560, [])
theorem ko_L_right : zOk kL_right 8 := ⟨zG_in 528 (by decide +kernel) rfl, zG_in 0 (by decide +kernel) rfl, by decide +kernel, by decide +kernel, by decide +kernel, by decide +kernel⟩
abbrev kX7_at : zK := (yX7_at, cX7_at, 5, (some .int), 7, 103, 3, 18, [])
theorem ko_X7_at : zOk kX7_at 3 := ⟨zG_in 532 (by decide +kernel) rfl, zG_in 1 (by decide +kernel) rfl, by decide +kernel, by decide +kernel, by decide +kernel, by decide +kernel⟩
abbrev kX7_errorOf : zK := (yX7_errorOf, cX7_errorOf, 4, (some .int), 0, 0, 0, 0, [])
theorem ko_X7_errorOf : zOk kX7_errorOf 3 := ⟨zG_in 536 (by decide +kernel) rfl, zG_in 1 (by decide +kernel) rfl, by decide +kernel, by decide +kernel, by decide +kernel, by decide +kernel⟩
abbrev kX7_chain : zK := (yX7_chain, cX7_chain, 7, (some .int), 7, 103, 3, 18, [])
theorem ko_X7_chain : zOk kX7_chain 3 := ⟨zG_in 543 (by decide +kernel) rfl, zG_in 1 (by decide +kernel) rfl, by decide +kernel, by decide +kernel, by decide +kernel, by decide +kernel⟩
abbrev kX7_of : zK := (yX7_of, cX7_of, 4, (some .int), 7, 103, 2, 12, [])
theorem ko_X7_of : zOk kX7_of 2 := ⟨zG_in 548 (by decide +kernel) rfl, zG_in 1 (by decide +kernel) rfl, by decide +kernel, by decide +kernel, by decide +kernel, by decide +kernel⟩
abbrev kX0_islandCount : zK := (yX0_islandCount, cX0_islandCount, 1, (some .int), 1, 23, 0, 0, [])
theorem ko_X0_islandCount : zOk kX0_islandCount 0 := ⟨zG_in 552 (by decide +kernel) rfl, zG_in 8 (by decide +kernel) rfl, by decide +kernel, by decide +kernel, by decide +kernel, by decide +kernel⟩
abbrev kX0_islandsWith : zK := (yX0_islandsWith, cX0_islandsWith, 4, (some .int), 0, 0, 0, 0, [])
theorem ko_X0_islandsWith : zOk kX0_islandsWith 1 := ⟨zG_in 556 (by decide +kernel) rfl, zG_in 8 (by decide +kernel) rfl, by decide +kernel, by decide +kernel, by decide +kernel, by decide +kernel⟩
abbrev kX7_falseNames : zK := (yX7_falseNames, cX7_falseNames, 4, (some .int), 1, 22, 0, 0, [])
theorem ko_X7_falseNames : zOk kX7_falseNames 1 := ⟨zG_in 560 (by decide +kernel) rfl, zG_in 1 (by decide +kernel) rfl, by decide +kernel, by decide +kernel, by decide +kernel, by decide +kernel⟩
abbrev kX7_hasTrueName : zK := (yX7_hasTrueName, cX7_hasTrueName, 3, (some .boolean), 0, 0, 0, 0, [])
theorem ko_X7_hasTrueName : zOk kX7_hasTrueName 2 := ⟨zG_in 564 (by decide +kernel) rfl, zG_in 1 (by decide +kernel) rfl, by decide +kernel, by decide +kernel, by decide +kernel, by decide +kernel⟩
abbrev kX7_fit : zK := (yX7_fit, cX7_fit, 5, (some .int), 7, 103, 3, 18, [])
theorem ko_X7_fit : zOk kX7_fit 3 := ⟨zG_in 568 (by decide +kernel) rfl, zG_in 1 (by decide +kernel) rfl, by decide +kernel, by decide +kernel, by decide +kernel, by decide +kernel⟩
abbrev kX7_shift : zK := (yX7_shift, cX7_shift, 7, (some .int), 2, 40, 0, 0, [])
theorem ko_X7_shift : zOk kX7_shift 3 := ⟨zG_in 572 (by decide +kernel) rfl, zG_in 1 (by decide +kernel) rfl, by decide +kernel, by decide +kernel, by decide +kernel, by decide +kernel⟩
abbrev kX7_residual : zK := (yX7_residual, cX7_residual, 7, (some .int), 3, 66, 0, 0, [])
theorem ko_X7_residual : zOk kX7_residual 2 := ⟨zG_in 577 (by decide +kernel) rfl, zG_in 1 (by decide +kernel) rfl, by decide +kernel, by decide +kernel, by decide +kernel, by decide +kernel⟩
abbrev kJ9_abs_0f7a4 : zK := (yJ9_abs_0f7a4, cJ9_abs_0f7a4, 1, (some .int), 0, 0, 0, 0, [])
abbrev kL_shared : zK := (yL_shared, cL_shared, 13, (some .int), 0, 0, 0, 0, [])
theorem ko_L_shared : zOk kL_shared 9 := ⟨zG_in 583 (by decide +kernel) rfl, zG_in 0 (by decide +kernel) rfl, by decide +kernel, by decide +kernel, by decide +kernel, by decide +kernel⟩
abbrev kX7_shared : zK := (yX7_shared, cX7_shared, 6, (some .int), 7, 103, 3, 18, [])
theorem ko_X7_shared : zOk kX7_shared 3 := ⟨zG_in 587 (by decide +kernel) rfl, zG_in 1 (by decide +kernel) rfl, by decide +kernel, by decide +kernel, by decide +kernel, by decide +kernel⟩
abbrev kX7_sharedBy : zK := (yX7_sharedBy, cX7_sharedBy, 6, (some .int), 2, 47, 0, 0, [])
theorem ko_X7_sharedBy : zOk kX7_sharedBy 3 := ⟨zG_in 591 (by decide +kernel) rfl, zG_in 1 (by decide +kernel) rfl, by decide +kernel, by decide +kernel, by decide +kernel, by decide +kernel⟩
abbrev kX7_shareError : zK := (yX7_shareError, cX7_shareError, 5, (some .boolean), 1, 23, 0, 0, [])
theorem ko_X7_shareError : zOk kX7_shareError 3 := ⟨zG_in 596 (by decide +kernel) rfl, zG_in 1 (by decide +kernel) rfl, by decide +kernel, by decide +kernel, by decide +kernel, by decide +kernel⟩
abbrev kX7_kin : zK := (yX7_kin, cX7_kin, 8, (some .int), 7, 103, 2, 12, [])
theorem ko_X7_kin : zOk kX7_kin 2 := ⟨zG_in 600 (by decide +kernel) rfl, zG_in 1 (by decide +kernel) rfl, by decide +kernel, by decide +kernel, by decide +kernel, by decide +kernel⟩
abbrev kL_law : zK := (yL_law, cL_law, 33, ret, 11, 424, 600086, 7301442, [])
theorem kl_X7_1 : Cond.methodLink RX7 1 objectInit ∈ zG := zG_in 21 (by decide +kernel) rfl
theorem kn_X7_7 : zN RX7 7 1 := ⟨RX1, TX1, 4, tyX1, rfl, rfl, zu_1, zG_in 24 (by decide +kernel) rfl, zG_in 25 (by decide +kernel) rfl, zG_in 2 (by decide +kernel) rfl, tyX1_ok, by decide +kernel⟩
theorem kl_X7_9 : zLI RX7 9 yX1_init := ⟨zG_in 26 (by decide +kernel) rfl, zG_in 27 (by decide +kernel) rfl, rfl⟩
theorem kf_X7_10 : zF RX7 10 7 0 := ⟨RX7, TX7, 8, tyX7, rfl, rfl, by decide, zu_7, zG_in 186 (by decide +kernel) rfl, rfl, tyX7_ok, nmX7, fun h => absurd h (by decide), fun _ => ⟨rfl, fun a => ⟨rfl, rfl⟩⟩⟩
theorem kn_X7_16 : zN RX7 16 5 := ⟨RX5, TX5, 3, tyX5, rfl, rfl, zu_5, zG_in 48 (by decide +kernel) rfl, zG_in 49 (by decide +kernel) rfl, zG_in 3 (by decide +kernel) rfl, tyX5_ok, by decide +kernel⟩
theorem kl_X7_18 : zLIN RX7 18 yX5_init := ⟨⟨"PortolanHall", by decide +kernel⟩, zG_in 51 (by decide +kernel) rfl, rfl⟩
theorem kf_X7_19 : zF RX7 19 7 1 := ⟨RX7, TX7, 8, tyX7, rfl, rfl, by decide, zu_7, zG_in 187 (by decide +kernel) rfl, rfl, tyX7_ok, nmX7, fun h => absurd h (by decide), fun _ => ⟨rfl, fun a => ⟨rfl, rfl⟩⟩⟩
theorem kn_X7_23 : zN RX7 23 4 := ⟨RX4, TX4, 5, tyX4, rfl, rfl, zu_4, zG_in 67 (by decide +kernel) rfl, zG_in 68 (by decide +kernel) rfl, zG_in 4 (by decide +kernel) rfl, tyX4_ok, by decide +kernel⟩
theorem kl_X7_25 : zLIN RX7 25 yX4_init := ⟨⟨"PortolanHall", by decide +kernel⟩, zG_in 70 (by decide +kernel) rfl, rfl⟩
theorem kf_X7_26 : zF RX7 26 7 2 := ⟨RX7, TX7, 8, tyX7, rfl, rfl, by decide, zu_7, zG_in 188 (by decide +kernel) rfl, rfl, tyX7_ok, nmX7, fun h => absurd h (by decide), fun _ => ⟨rfl, fun a => ⟨rfl, rfl⟩⟩⟩
theorem kn_X7_30 : zN RX7 30 6 := ⟨RX6, TX6, 3, tyX6, rfl, rfl, zu_6, zG_in 94 (by decide +kernel) rfl, zG_in 95 (by decide +kernel) rfl, zG_in 5 (by decide +kernel) rfl, tyX6_ok, by decide +kernel⟩
theorem kl_X7_32 : zLIN RX7 32 yX6_init := ⟨⟨"PortolanHall", by decide +kernel⟩, zG_in 97 (by decide +kernel) rfl, rfl⟩
theorem kf_X7_33 : zF RX7 33 7 3 := ⟨RX7, TX7, 8, tyX7, rfl, rfl, by decide, zu_7, zG_in 189 (by decide +kernel) rfl, rfl, tyX7_ok, nmX7, fun h => absurd h (by decide), fun _ => ⟨rfl, fun a => ⟨rfl, rfl⟩⟩⟩
theorem kq_X7_37 : Cond.classLink RX7 37 RX2 ∈ zG := zG_in 110 (by decide +kernel) rfl
theorem kf_X7_39 : zF RX7 39 7 4 := ⟨RX7, TX7, 8, tyX7, rfl, rfl, by decide, zu_7, zG_in 190 (by decide +kernel) rfl, rfl, tyX7_ok, nmX7, fun h => absurd h (by decide), fun _ => ⟨rfl, fun a => ⟨rfl, rfl⟩⟩⟩
theorem kq_X7_43 : Cond.classLink RX7 43 RX0 ∈ zG := zG_in 112 (by decide +kernel) rfl
theorem kf_X7_45 : zF RX7 45 7 5 := ⟨RX7, TX7, 8, tyX7, rfl, rfl, by decide, zu_7, zG_in 191 (by decide +kernel) rfl, rfl, tyX7_ok, nmX7, fun h => absurd h (by decide), fun _ => ⟨rfl, fun a => ⟨rfl, rfl⟩⟩⟩
theorem kn_X7_49 : zN RX7 49 3 := ⟨RX3, TX3, 4, tyX3, rfl, rfl, zu_3, zG_in 114 (by decide +kernel) rfl, zG_in 115 (by decide +kernel) rfl, zG_in 6 (by decide +kernel) rfl, tyX3_ok, by decide +kernel⟩
theorem kl_X7_51 : zLIN RX7 51 yX3_init := ⟨⟨"PortolanHall", by decide +kernel⟩, zG_in 117 (by decide +kernel) rfl, rfl⟩
theorem kf_X7_52 : zF RX7 52 7 6 := ⟨RX7, TX7, 8, tyX7, rfl, rfl, by decide, zu_7, zG_in 192 (by decide +kernel) rfl, rfl, tyX7_ok, nmX7, fun h => absurd h (by decide), fun _ => ⟨rfl, fun a => ⟨rfl, rfl⟩⟩⟩
theorem kf_X7_56 : zF RX7 56 7 7 := ⟨RX7, TX7, 8, tyX7, rfl, rfl, by decide, zu_7, zG_in 193 (by decide +kernel) rfl, rfl, tyX7_ok, nmX7, fun _ => ⟨rfl, rfl⟩, fun h => absurd h (by decide)⟩
theorem kn_X7_37 : zN RX7 37 2 := ⟨RX2, TX2, 2, tyX2, rfl, rfl, zu_2, zG_in 110 (by decide +kernel) rfl, zG_in 137 (by decide +kernel) rfl, zG_in 7 (by decide +kernel) rfl, tyX2_ok, by decide +kernel⟩
theorem kl_X7_60 : zLI RX7 60 yX2_init := ⟨zG_in 138 (by decide +kernel) rfl, zG_in 139 (by decide +kernel) rfl, rfl⟩
theorem kn_X7_43 : zN RX7 43 0 := ⟨RX0, TX0, 7, tyX0, rfl, rfl, zu_0, zG_in 112 (by decide +kernel) rfl, zG_in 151 (by decide +kernel) rfl, zG_in 8 (by decide +kernel) rfl, tyX0_ok, by decide +kernel⟩
theorem kl_X7_61 : zLIN RX7 61 yX0_init := ⟨⟨"PortolanHall", by decide +kernel⟩, zG_in 153 (by decide +kernel) rfl, rfl⟩
theorem kl_X1_3 : Cond.methodLink RX1 3 objectInit ∈ zG := zG_in 29 (by decide +kernel) rfl
theorem kf_X1_9 : zF RX1 9 1 0 := ⟨RX1, TX1, 4, tyX1, rfl, rfl, by decide, zu_1, zG_in 30 (by decide +kernel) rfl, rfl, tyX1_ok, nmX1, fun h => absurd h (by decide), fun _ => ⟨rfl, fun a => ⟨rfl, rfl⟩⟩⟩
theorem kf_X1_15 : zF RX1 15 1 1 := ⟨RX1, TX1, 4, tyX1, rfl, rfl, by decide, zu_1, zG_in 32 (by decide +kernel) rfl, rfl, tyX1_ok, nmX1, fun h => absurd h (by decide), fun _ => ⟨rfl, fun a => ⟨rfl, rfl⟩⟩⟩
theorem kf_X1_18 : zF RX1 18 1 2 := ⟨RX1, TX1, 4, tyX1, rfl, rfl, by decide, zu_1, zG_in 34 (by decide +kernel) rfl, rfl, tyX1_ok, nmX1, fun h => absurd h (by decide), fun _ => ⟨rfl, fun a => ⟨rfl, rfl⟩⟩⟩
theorem kf_X1_21 : zF RX1 21 1 3 := ⟨RX1, TX1, 4, tyX1, rfl, rfl, by decide, zu_1, zG_in 36 (by decide +kernel) rfl, rfl, tyX1_ok, nmX1, fun h => absurd h (by decide), fun _ => ⟨rfl, fun a => ⟨rfl, rfl⟩⟩⟩
theorem kl_X5_3 : Cond.methodLink RX5 3 objectInit ∈ zG := zG_in 53 (by decide +kernel) rfl
theorem kf_X5_9 : zF RX5 9 5 0 := ⟨RX5, TX5, 3, tyX5, rfl, rfl, by decide, zu_5, zG_in 54 (by decide +kernel) rfl, rfl, tyX5_ok, nmX5, fun h => absurd h (by decide), fun _ => ⟨rfl, fun a => ⟨rfl, rfl⟩⟩⟩
theorem kf_X5_15 : zF RX5 15 5 1 := ⟨RX5, TX5, 3, tyX5, rfl, rfl, by decide, zu_5, zG_in 56 (by decide +kernel) rfl, rfl, tyX5_ok, nmX5, fun h => absurd h (by decide), fun _ => ⟨rfl, fun a => ⟨rfl, rfl⟩⟩⟩
theorem kf_X5_18 : zF RX5 18 5 2 := ⟨RX5, TX5, 3, tyX5, rfl, rfl, by decide, zu_5, zG_in 58 (by decide +kernel) rfl, rfl, tyX5_ok, nmX5, fun _ => ⟨rfl, rfl⟩, fun h => absurd h (by decide)⟩
theorem kl_X4_3 : Cond.methodLink RX4 3 objectInit ∈ zG := zG_in 72 (by decide +kernel) rfl
theorem kf_X4_9 : zF RX4 9 4 0 := ⟨RX4, TX4, 5, tyX4, rfl, rfl, by decide, zu_4, zG_in 73 (by decide +kernel) rfl, rfl, tyX4_ok, nmX4, fun h => absurd h (by decide), fun _ => ⟨rfl, fun a => ⟨rfl, rfl⟩⟩⟩
theorem kf_X4_15 : zF RX4 15 4 1 := ⟨RX4, TX4, 5, tyX4, rfl, rfl, by decide, zu_4, zG_in 75 (by decide +kernel) rfl, rfl, tyX4_ok, nmX4, fun h => absurd h (by decide), fun _ => ⟨rfl, fun a => ⟨rfl, rfl⟩⟩⟩
theorem kf_X4_18 : zF RX4 18 4 2 := ⟨RX4, TX4, 5, tyX4, rfl, rfl, by decide, zu_4, zG_in 77 (by decide +kernel) rfl, rfl, tyX4_ok, nmX4, fun h => absurd h (by decide), fun _ => ⟨rfl, fun a => ⟨rfl, rfl⟩⟩⟩
theorem kf_X4_21 : zF RX4 21 4 3 := ⟨RX4, TX4, 5, tyX4, rfl, rfl, by decide, zu_4, zG_in 79 (by decide +kernel) rfl, rfl, tyX4_ok, nmX4, fun h => absurd h (by decide), fun _ => ⟨rfl, fun a => ⟨rfl, rfl⟩⟩⟩
theorem kf_X4_24 : zF RX4 24 4 4 := ⟨RX4, TX4, 5, tyX4, rfl, rfl, by decide, zu_4, zG_in 81 (by decide +kernel) rfl, rfl, tyX4_ok, nmX4, fun _ => ⟨rfl, rfl⟩, fun h => absurd h (by decide)⟩
theorem kl_X6_3 : Cond.methodLink RX6 3 objectInit ∈ zG := zG_in 99 (by decide +kernel) rfl
theorem kf_X6_9 : zF RX6 9 6 0 := ⟨RX6, TX6, 3, tyX6, rfl, rfl, by decide, zu_6, zG_in 100 (by decide +kernel) rfl, rfl, tyX6_ok, nmX6, fun h => absurd h (by decide), fun _ => ⟨rfl, fun a => ⟨rfl, rfl⟩⟩⟩
theorem kf_X6_15 : zF RX6 15 6 1 := ⟨RX6, TX6, 3, tyX6, rfl, rfl, by decide, zu_6, zG_in 101 (by decide +kernel) rfl, rfl, tyX6_ok, nmX6, fun h => absurd h (by decide), fun _ => ⟨rfl, fun a => ⟨rfl, rfl⟩⟩⟩
theorem kf_X6_18 : zF RX6 18 6 2 := ⟨RX6, TX6, 3, tyX6, rfl, rfl, by decide, zu_6, zG_in 102 (by decide +kernel) rfl, rfl, tyX6_ok, nmX6, fun h => absurd h (by decide), fun _ => ⟨rfl, fun a => ⟨rfl, rfl⟩⟩⟩
theorem kl_X3_3 : Cond.methodLink RX3 3 objectInit ∈ zG := zG_in 119 (by decide +kernel) rfl
theorem kf_X3_9 : zF RX3 9 3 0 := ⟨RX3, TX3, 4, tyX3, rfl, rfl, by decide, zu_3, zG_in 120 (by decide +kernel) rfl, rfl, tyX3_ok, nmX3, fun h => absurd h (by decide), fun _ => ⟨rfl, fun a => ⟨rfl, rfl⟩⟩⟩
theorem kf_X3_15 : zF RX3 15 3 1 := ⟨RX3, TX3, 4, tyX3, rfl, rfl, by decide, zu_3, zG_in 122 (by decide +kernel) rfl, rfl, tyX3_ok, nmX3, fun h => absurd h (by decide), fun _ => ⟨rfl, fun a => ⟨rfl, rfl⟩⟩⟩
theorem kf_X3_18 : zF RX3 18 3 2 := ⟨RX3, TX3, 4, tyX3, rfl, rfl, by decide, zu_3, zG_in 124 (by decide +kernel) rfl, rfl, tyX3_ok, nmX3, fun h => absurd h (by decide), fun _ => ⟨rfl, fun a => ⟨rfl, rfl⟩⟩⟩
theorem kf_X3_21 : zF RX3 21 3 3 := ⟨RX3, TX3, 4, tyX3, rfl, rfl, by decide, zu_3, zG_in 126 (by decide +kernel) rfl, rfl, tyX3_ok, nmX3, fun _ => ⟨rfl, rfl⟩, fun h => absurd h (by decide)⟩
theorem kl_X2_3 : Cond.methodLink RX2 3 objectInit ∈ zG := zG_in 141 (by decide +kernel) rfl
theorem kf_X2_9 : zF RX2 9 2 0 := ⟨RX2, TX2, 2, tyX2, rfl, rfl, by decide, zu_2, zG_in 142 (by decide +kernel) rfl, rfl, tyX2_ok, nmX2, fun _ => ⟨rfl, rfl⟩, fun h => absurd h (by decide)⟩
theorem kf_X2_15 : zF RX2 15 2 1 := ⟨RX2, TX2, 2, tyX2, rfl, rfl, by decide, zu_2, zG_in 144 (by decide +kernel) rfl, rfl, tyX2_ok, nmX2, fun h => absurd h (by decide), fun _ => ⟨rfl, fun a => ⟨rfl, rfl⟩⟩⟩
theorem kl_X0_3 : Cond.methodLink RX0 3 objectInit ∈ zG := zG_in 155 (by decide +kernel) rfl
theorem kf_X0_9 : zF RX0 9 0 0 := ⟨RX0, TX0, 7, tyX0, rfl, rfl, by decide, zu_0, zG_in 156 (by decide +kernel) rfl, rfl, tyX0_ok, nmX0, fun _ => ⟨rfl, rfl⟩, fun h => absurd h (by decide)⟩
theorem kf_X0_15 : zF RX0 15 0 1 := ⟨RX0, TX0, 7, tyX0, rfl, rfl, by decide, zu_0, zG_in 158 (by decide +kernel) rfl, rfl, tyX0_ok, nmX0, fun h => absurd h (by decide), fun _ => ⟨rfl, fun a => ⟨rfl, rfl⟩⟩⟩
theorem kf_X0_19 : zF RX0 19 0 2 := ⟨RX0, TX0, 7, tyX0, rfl, rfl, by decide, zu_0, zG_in 160 (by decide +kernel) rfl, rfl, tyX0_ok, nmX0, fun h => absurd h (by decide), fun _ => ⟨rfl, fun a => ⟨rfl, rfl⟩⟩⟩
theorem kf_X0_22 : zF RX0 22 0 3 := ⟨RX0, TX0, 7, tyX0, rfl, rfl, by decide, zu_0, zG_in 162 (by decide +kernel) rfl, rfl, tyX0_ok, nmX0, fun h => absurd h (by decide), fun _ => ⟨rfl, fun a => ⟨rfl, rfl⟩⟩⟩
theorem kf_X0_25 : zF RX0 25 0 4 := ⟨RX0, TX0, 7, tyX0, rfl, rfl, by decide, zu_0, zG_in 164 (by decide +kernel) rfl, rfl, tyX0_ok, nmX0, fun h => absurd h (by decide), fun _ => ⟨rfl, fun a => ⟨rfl, rfl⟩⟩⟩
theorem kf_X0_28 : zF RX0 28 0 5 := ⟨RX0, TX0, 7, tyX0, rfl, rfl, by decide, zu_0, zG_in 166 (by decide +kernel) rfl, rfl, tyX0_ok, nmX0, fun h => absurd h (by decide), fun _ => ⟨rfl, fun a => ⟨rfl, rfl⟩⟩⟩
theorem kf_X0_31 : zF RX0 31 0 6 := ⟨RX0, TX0, 7, tyX0, rfl, rfl, by decide, zu_0, zG_in 168 (by decide +kernel) rfl, rfl, tyX0_ok, nmX0, fun h => absurd h (by decide), fun _ => ⟨rfl, fun a => ⟨rfl, rfl⟩⟩⟩
theorem kl_X7_62 : zLS RX7 62 yX7_needPoint := ⟨zG_in 215 (by decide +kernel) rfl, zG_in 216 (by decide +kernel) rfl⟩
theorem kl_X7_66 : zLS RX7 66 yX7_isWithin := ⟨zG_in 286 (by decide +kernel) rfl, zG_in 287 (by decide +kernel) rfl⟩
theorem kl_X7_70 : zLS RX7 70 yX7_isName := ⟨zG_in 289 (by decide +kernel) rfl, zG_in 290 (by decide +kernel) rfl⟩
theorem kl_X7_74 : zLS RX7 74 yX7_isYear := ⟨zG_in 292 (by decide +kernel) rfl, zG_in 293 (by decide +kernel) rfl⟩
theorem kf_X7_84 : zF RX7 84 4 4 := ⟨RX4, TX4, 5, tyX4, rfl, rfl, by decide, zu_4, zG_in 82 (by decide +kernel) rfl, rfl, tyX4_ok, nmX4, fun _ => ⟨rfl, rfl⟩, fun h => absurd h (by decide)⟩
theorem kf_X7_92 : zF RX7 92 1 0 := ⟨RX1, TX1, 4, tyX1, rfl, rfl, by decide, zu_1, zG_in 31 (by decide +kernel) rfl, rfl, tyX1_ok, nmX1, fun h => absurd h (by decide), fun _ => ⟨rfl, fun a => ⟨rfl, rfl⟩⟩⟩
theorem kf_X7_96 : zF RX7 96 1 1 := ⟨RX1, TX1, 4, tyX1, rfl, rfl, by decide, zu_1, zG_in 33 (by decide +kernel) rfl, rfl, tyX1_ok, nmX1, fun h => absurd h (by decide), fun _ => ⟨rfl, fun a => ⟨rfl, rfl⟩⟩⟩
theorem kf_X7_99 : zF RX7 99 1 2 := ⟨RX1, TX1, 4, tyX1, rfl, rfl, by decide, zu_1, zG_in 35 (by decide +kernel) rfl, rfl, tyX1_ok, nmX1, fun h => absurd h (by decide), fun _ => ⟨rfl, fun a => ⟨rfl, rfl⟩⟩⟩
theorem kf_X7_102 : zF RX7 102 1 3 := ⟨RX1, TX1, 4, tyX1, rfl, rfl, by decide, zu_1, zG_in 37 (by decide +kernel) rfl, rfl, tyX1_ok, nmX1, fun h => absurd h (by decide), fun _ => ⟨rfl, fun a => ⟨rfl, rfl⟩⟩⟩
theorem kf_X7_107 : zF RX7 107 5 2 := ⟨RX5, TX5, 3, tyX5, rfl, rfl, by decide, zu_5, zG_in 59 (by decide +kernel) rfl, rfl, tyX5_ok, nmX5, fun _ => ⟨rfl, rfl⟩, fun h => absurd h (by decide)⟩
theorem kf_X7_110 : zF RX7 110 5 0 := ⟨RX5, TX5, 3, tyX5, rfl, rfl, by decide, zu_5, zG_in 55 (by decide +kernel) rfl, rfl, tyX5_ok, nmX5, fun h => absurd h (by decide), fun _ => ⟨rfl, fun a => ⟨rfl, rfl⟩⟩⟩
theorem kf_X7_113 : zF RX7 113 5 1 := ⟨RX5, TX5, 3, tyX5, rfl, rfl, by decide, zu_5, zG_in 57 (by decide +kernel) rfl, rfl, tyX5_ok, nmX5, fun h => absurd h (by decide), fun _ => ⟨rfl, fun a => ⟨rfl, rfl⟩⟩⟩
theorem kf_X7_125 : zF RX7 125 4 0 := ⟨RX4, TX4, 5, tyX4, rfl, rfl, by decide, zu_4, zG_in 74 (by decide +kernel) rfl, rfl, tyX4_ok, nmX4, fun h => absurd h (by decide), fun _ => ⟨rfl, fun a => ⟨rfl, rfl⟩⟩⟩
theorem kf_X7_128 : zF RX7 128 4 1 := ⟨RX4, TX4, 5, tyX4, rfl, rfl, by decide, zu_4, zG_in 76 (by decide +kernel) rfl, rfl, tyX4_ok, nmX4, fun h => absurd h (by decide), fun _ => ⟨rfl, fun a => ⟨rfl, rfl⟩⟩⟩
theorem kf_X7_131 : zF RX7 131 4 2 := ⟨RX4, TX4, 5, tyX4, rfl, rfl, by decide, zu_4, zG_in 78 (by decide +kernel) rfl, rfl, tyX4_ok, nmX4, fun h => absurd h (by decide), fun _ => ⟨rfl, fun a => ⟨rfl, rfl⟩⟩⟩
theorem kf_X7_132 : zF RX7 132 4 3 := ⟨RX4, TX4, 5, tyX4, rfl, rfl, by decide, zu_4, zG_in 80 (by decide +kernel) rfl, rfl, tyX4_ok, nmX4, fun h => absurd h (by decide), fun _ => ⟨rfl, fun a => ⟨rfl, rfl⟩⟩⟩
theorem kl_X7_135 : zLV RX7 135 yX7_needRoomForChart := ⟨zG_in 345 (by decide +kernel) rfl, zG_in 347 (by decide +kernel) rfl, zG_sel 1 (by decide +kernel) rfl⟩
theorem kf_X7_138 : zF RX7 138 0 0 := ⟨RX0, TX0, 7, tyX0, rfl, rfl, by decide, zu_0, zG_in 157 (by decide +kernel) rfl, rfl, tyX0_ok, nmX0, fun _ => ⟨rfl, rfl⟩, fun h => absurd h (by decide)⟩
theorem kl_X7_140 : zLV RX7 140 yX0_forget := ⟨zG_in 350 (by decide +kernel) rfl, zG_in 351 (by decide +kernel) rfl, zG_in 352 (by decide +kernel) rfl⟩
theorem kf_X7_143 : zF RX7 143 0 3 := ⟨RX0, TX0, 7, tyX0, rfl, rfl, by decide, zu_0, zG_in 163 (by decide +kernel) rfl, rfl, tyX0_ok, nmX0, fun h => absurd h (by decide), fun _ => ⟨rfl, fun a => ⟨rfl, rfl⟩⟩⟩
theorem kf_X7_144 : zF RX7 144 0 5 := ⟨RX0, TX0, 7, tyX0, rfl, rfl, by decide, zu_0, zG_in 167 (by decide +kernel) rfl, rfl, tyX0_ok, nmX0, fun h => absurd h (by decide), fun _ => ⟨rfl, fun a => ⟨rfl, rfl⟩⟩⟩
theorem kl_X7_147 : zLV RX7 147 yX0_put := ⟨zG_in 359 (by decide +kernel) rfl, zG_in 356 (by decide +kernel) rfl, zG_in 357 (by decide +kernel) rfl⟩
theorem kl_X7_151 : zLV RX7 151 yX7_layOut := ⟨zG_in 360 (by decide +kernel) rfl, zG_in 362 (by decide +kernel) rfl, zG_sel 2 (by decide +kernel) rfl⟩
theorem kc_X0_35 : Jvm.Cond.constant RX0 35 (100000) ∈ zG := zG_in 354 (by decide +kernel) rfl
theorem kl_X0_36 : zLV RX0 36 yX0_put := ⟨zG_in 355 (by decide +kernel) rfl, zG_in 356 (by decide +kernel) rfl, zG_in 357 (by decide +kernel) rfl⟩
theorem kl_X7_311 : zLV RX7 311 yX7_gather := ⟨zG_in 364 (by decide +kernel) rfl, zG_in 366 (by decide +kernel) rfl, zG_sel 3 (by decide +kernel) rfl⟩
theorem kl_X7_314 : zLV RX7 314 yX6_settle := ⟨zG_in 380 (by decide +kernel) rfl, zG_in 381 (by decide +kernel) rfl, zG_in 382 (by decide +kernel) rfl⟩
theorem kl_X7_318 : zLV RX7 318 yX6_begin := ⟨zG_in 368 (by decide +kernel) rfl, zG_in 369 (by decide +kernel) rfl, zG_in 370 (by decide +kernel) rfl⟩
theorem kl_X7_179 : zLV RX7 179 yX0_knows := ⟨zG_in 372 (by decide +kernel) rfl, zG_in 373 (by decide +kernel) rfl, zG_in 374 (by decide +kernel) rfl⟩
theorem kf_X7_182 : zF RX7 182 0 1 := ⟨RX0, TX0, 7, tyX0, rfl, rfl, by decide, zu_0, zG_in 159 (by decide +kernel) rfl, rfl, tyX0_ok, nmX0, fun h => absurd h (by decide), fun _ => ⟨rfl, fun a => ⟨rfl, rfl⟩⟩⟩
theorem kf_X7_187 : zF RX7 187 0 2 := ⟨RX0, TX0, 7, tyX0, rfl, rfl, by decide, zu_0, zG_in 161 (by decide +kernel) rfl, rfl, tyX0_ok, nmX0, fun h => absurd h (by decide), fun _ => ⟨rfl, fun a => ⟨rfl, rfl⟩⟩⟩
theorem kl_X7_321 : zLV RX7 321 yX6_give := ⟨zG_in 376 (by decide +kernel) rfl, zG_in 377 (by decide +kernel) rfl, zG_in 378 (by decide +kernel) rfl⟩
theorem kl_X6_21 : zLV RX6 21 yX0_put := ⟨zG_in 384 (by decide +kernel) rfl, zG_in 356 (by decide +kernel) rfl, zG_in 357 (by decide +kernel) rfl⟩
theorem kl_X7_155 : zLV RX7 155 yX7_copyistOf := ⟨zG_in 389 (by decide +kernel) rfl, zG_in 391 (by decide +kernel) rfl, zG_sel 4 (by decide +kernel) rfl⟩
theorem kf_X7_161 : zF RX7 161 2 0 := ⟨RX2, TX2, 2, tyX2, rfl, rfl, by decide, zu_2, zG_in 143 (by decide +kernel) rfl, rfl, tyX2_ok, nmX2, fun _ => ⟨rfl, rfl⟩, fun h => absurd h (by decide)⟩
theorem kf_X7_166 : zF RX7 166 2 1 := ⟨RX2, TX2, 2, tyX2, rfl, rfl, by decide, zu_2, zG_in 145 (by decide +kernel) rfl, rfl, tyX2_ok, nmX2, fun h => absurd h (by decide), fun _ => ⟨rfl, fun a => ⟨rfl, rfl⟩⟩⟩
theorem kl_X7_169 : zLV RX7 169 yX7_chartOf := ⟨zG_in 404 (by decide +kernel) rfl, zG_in 406 (by decide +kernel) rfl, zG_sel 5 (by decide +kernel) rfl⟩
theorem kl_X7_175 : zLV RX7 175 yX2_readingOf := ⟨zG_in 410 (by decide +kernel) rfl, zG_in 411 (by decide +kernel) rfl, zG_in 412 (by decide +kernel) rfl⟩
theorem kl_X7_183 : zLS RX7 183 yX7_drawn := ⟨zG_in 415 (by decide +kernel) rfl, zG_in 416 (by decide +kernel) rfl⟩
theorem kl_X7_188 : zLV RX7 188 yX0_takeFrame := ⟨zG_in 418 (by decide +kernel) rfl, zG_in 419 (by decide +kernel) rfl, zG_in 420 (by decide +kernel) rfl⟩
theorem kl_X2_19 : zLSN RX2 19 yX7_isName := ⟨⟨"PortolanHall", by decide +kernel⟩, zG_in 290 (by decide +kernel) rfl⟩
theorem kf_X7_213 : zF RX7 213 3 3 := ⟨RX3, TX3, 4, tyX3, rfl, rfl, by decide, zu_3, zG_in 127 (by decide +kernel) rfl, rfl, tyX3_ok, nmX3, fun _ => ⟨rfl, rfl⟩, fun h => absurd h (by decide)⟩
theorem kf_X7_216 : zF RX7 216 3 0 := ⟨RX3, TX3, 4, tyX3, rfl, rfl, by decide, zu_3, zG_in 121 (by decide +kernel) rfl, rfl, tyX3_ok, nmX3, fun h => absurd h (by decide), fun _ => ⟨rfl, fun a => ⟨rfl, rfl⟩⟩⟩
theorem kf_X7_217 : zF RX7 217 3 1 := ⟨RX3, TX3, 4, tyX3, rfl, rfl, by decide, zu_3, zG_in 123 (by decide +kernel) rfl, rfl, tyX3_ok, nmX3, fun h => absurd h (by decide), fun _ => ⟨rfl, fun a => ⟨rfl, rfl⟩⟩⟩
theorem kf_X7_218 : zF RX7 218 3 2 := ⟨RX3, TX3, 4, tyX3, rfl, rfl, by decide, zu_3, zG_in 125 (by decide +kernel) rfl, rfl, tyX3_ok, nmX3, fun h => absurd h (by decide), fun _ => ⟨rfl, fun a => ⟨rfl, rfl⟩⟩⟩
theorem kf_X7_221 : zF RX7 221 0 6 := ⟨RX0, TX0, 7, tyX0, rfl, rfl, by decide, zu_0, zG_in 169 (by decide +kernel) rfl, rfl, tyX0_ok, nmX0, fun h => absurd h (by decide), fun _ => ⟨rfl, fun a => ⟨rfl, rfl⟩⟩⟩
theorem kl_X7_207 : zLV RX7 207 yX0_knownFrom := ⟨zG_in 437 (by decide +kernel) rfl, zG_in 438 (by decide +kernel) rfl, zG_in 439 (by decide +kernel) rfl⟩
theorem kl_X0_40 : zLV RX0 40 yX0_knows := ⟨zG_in 441 (by decide +kernel) rfl, zG_in 373 (by decide +kernel) rfl, zG_in 374 (by decide +kernel) rfl⟩
theorem kl_X7_239 : zLV RX7 239 yX7_needIsland := ⟨zG_in 446 (by decide +kernel) rfl, zG_in 448 (by decide +kernel) rfl, zG_sel 6 (by decide +kernel) rfl⟩
theorem kc_L_7 : Jvm.Cond.constant RL 7 (1000308309) ∈ zG := zG_in 459 (by decide +kernel) rfl
theorem kc_L_8 : Jvm.Cond.constant RL 8 (751363483) ∈ zG := zG_in 460 (by decide +kernel) rfl
theorem kc_L_9 : Jvm.Cond.constant RL 9 (2147483647) ∈ zG := zG_in 464 (by decide +kernel) rfl
theorem kl_L_10 : zLV RL 10 yX7_paste := ⟨zG_in 472 (by decide +kernel) rfl, zG_in 473 (by decide +kernel) rfl, zG_in 474 (by decide +kernel) rfl⟩
theorem kl_X7_196 : zLV RX7 196 yX7_leadsBack := ⟨zG_in 478 (by decide +kernel) rfl, zG_in 480 (by decide +kernel) rfl, zG_sel 7 (by decide +kernel) rfl⟩
theorem kl_X7_202 : zLV RX7 202 yX0_fitsMoved := ⟨zG_in 487 (by decide +kernel) rfl, zG_in 488 (by decide +kernel) rfl, zG_in 489 (by decide +kernel) rfl⟩
theorem kl_X7_256 : zLV RX7 256 yX7_sourceOf := ⟨zG_in 482 (by decide +kernel) rfl, zG_in 484 (by decide +kernel) rfl, zG_sel 8 (by decide +kernel) rfl⟩
theorem kf_X7_244 : zF RX7 244 0 4 := ⟨RX0, TX0, 7, tyX0, rfl, rfl, by decide, zu_0, zG_in 165 (by decide +kernel) rfl, rfl, tyX0_ok, nmX0, fun h => absurd h (by decide), fun _ => ⟨rfl, fun a => ⟨rfl, rfl⟩⟩⟩
theorem kl_X0_48 : zLS RX0 48 yX0_isPlace := ⟨zG_in 491 (by decide +kernel) rfl, zG_in 492 (by decide +kernel) rfl⟩
theorem kl_X0_63 : zLSN RX0 63 yX7_isWithin := ⟨⟨"PortolanHall", by decide +kernel⟩, zG_in 287 (by decide +kernel) rfl⟩
theorem kl_L_18 : zLV RL 18 yX7_shrink := ⟨zG_in 499 (by decide +kernel) rfl, zG_in 500 (by decide +kernel) rfl, zG_in 501 (by decide +kernel) rfl⟩
theorem kl_X7_225 : zLS RX7 225 yX7_needBasin := ⟨zG_in 503 (by decide +kernel) rfl, zG_in 504 (by decide +kernel) rfl⟩
theorem kl_X7_230 : zLV RX7 230 yX0_fitsShrunk := ⟨zG_in 508 (by decide +kernel) rfl, zG_in 509 (by decide +kernel) rfl, zG_in 510 (by decide +kernel) rfl⟩
theorem kl_X7_233 : zLV RX7 233 yX0_shrinkPlaces := ⟨zG_in 522 (by decide +kernel) rfl, zG_in 523 (by decide +kernel) rfl, zG_in 524 (by decide +kernel) rfl⟩
theorem kl_X0_52 : zLSN RX0 52 yX7_firstOf := ⟨⟨"PortolanHall", by decide +kernel⟩, zG_in 513 (by decide +kernel) rfl⟩
theorem kl_X0_56 : zLSN RX0 56 yX7_lastOf := ⟨⟨"PortolanHall", by decide +kernel⟩, zG_in 516 (by decide +kernel) rfl⟩
theorem kl_X0_59 : zLS RX0 59 yX0_shrunk := ⟨zG_in 519 (by decide +kernel) rfl, zG_in 520 (by decide +kernel) rfl⟩
theorem kl_X7_284 : zLS RX7 284 yX7_firstOf := ⟨zG_in 518 (by decide +kernel) rfl, zG_in 513 (by decide +kernel) rfl⟩
theorem kl_L_22 : zLV RL 22 yX7_at := ⟨zG_in 529 (by decide +kernel) rfl, zG_in 530 (by decide +kernel) rfl, zG_in 531 (by decide +kernel) rfl⟩
theorem kc_L_26 : Jvm.Cond.constant RL 26 (100000) ∈ zG := zG_in 539 (by decide +kernel) rfl
theorem kl_L_27 : zLV RL 27 yX7_chain := ⟨zG_in 540 (by decide +kernel) rfl, zG_in 541 (by decide +kernel) rfl, zG_in 542 (by decide +kernel) rfl⟩
theorem kl_L_30 : zLV RL 30 yX7_of := ⟨zG_in 545 (by decide +kernel) rfl, zG_in 546 (by decide +kernel) rfl, zG_in 547 (by decide +kernel) rfl⟩
theorem kl_L_34 : zLS RL 34 yL_size := ⟨zG_in 465 (by decide +kernel) rfl, zG_in 466 (by decide +kernel) rfl⟩
theorem kl_L_40 : zLV RL 40 yX7_fit := ⟨zG_in 565 (by decide +kernel) rfl, zG_in 566 (by decide +kernel) rfl, zG_in 567 (by decide +kernel) rfl⟩
theorem kl_L_43 : zLS RL 43 yL_shared := ⟨zG_in 581 (by decide +kernel) rfl, zG_in 582 (by decide +kernel) rfl⟩
theorem kl_L_47 : zLV RL 47 yX7_shared := ⟨zG_in 584 (by decide +kernel) rfl, zG_in 585 (by decide +kernel) rfl, zG_in 586 (by decide +kernel) rfl⟩
theorem kl_L_49 : zLV RL 49 yX7_kin := ⟨zG_in 597 (by decide +kernel) rfl, zG_in 598 (by decide +kernel) rfl, zG_in 599 (by decide +kernel) rfl⟩
theorem kl_X7_247 : zLV RX7 247 yX7_errorOf := ⟨zG_in 533 (by decide +kernel) rfl, zG_in 535 (by decide +kernel) rfl, zG_sel 9 (by decide +kernel) rfl⟩
theorem kc_X7_251 : Jvm.Cond.constant RX7 251 (100000) ∈ zG := zG_in 537 (by decide +kernel) rfl
theorem kl_X7_259 : zLV RX7 259 yX0_islandCount := ⟨zG_in 549 (by decide +kernel) rfl, zG_in 550 (by decide +kernel) rfl, zG_in 551 (by decide +kernel) rfl⟩
theorem kl_X7_263 : zLV RX7 263 yX7_falseNames := ⟨zG_in 557 (by decide +kernel) rfl, zG_in 559 (by decide +kernel) rfl, zG_sel 10 (by decide +kernel) rfl⟩
theorem kl_X0_44 : zLV RX0 44 yX0_islandsWith := ⟨zG_in 553 (by decide +kernel) rfl, zG_in 554 (by decide +kernel) rfl, zG_in 555 (by decide +kernel) rfl⟩
theorem kl_X7_290 : zLV RX7 290 yX7_hasTrueName := ⟨zG_in 561 (by decide +kernel) rfl, zG_in 563 (by decide +kernel) rfl, zG_sel 11 (by decide +kernel) rfl⟩
theorem kl_X7_273 : zLV RX7 273 yX7_shift := ⟨zG_in 569 (by decide +kernel) rfl, zG_in 571 (by decide +kernel) rfl, zG_sel 12 (by decide +kernel) rfl⟩
theorem kl_X7_276 : zLV RX7 276 yX7_residual := ⟨zG_in 574 (by decide +kernel) rfl, zG_in 576 (by decide +kernel) rfl, zG_sel 13 (by decide +kernel) rfl⟩
theorem kl_X7_287 : zLS RX7 287 yX7_lastOf := ⟨zG_in 573 (by decide +kernel) rfl, zG_in 516 (by decide +kernel) rfl⟩
theorem kl_X7_325 : Cond.methodLink RX7 325 Lib.Math.abs.name ∈ zG := zG_in 578 (by decide +kernel) rfl
theorem kl_X7_280 : zLV RX7 280 yX7_sharedBy := ⟨zG_in 588 (by decide +kernel) rfl, zG_in 590 (by decide +kernel) rfl, zG_sel 14 (by decide +kernel) rfl⟩
theorem kl_X7_328 : zLV RX7 328 yX0_islandsWith := ⟨zG_in 592 (by decide +kernel) rfl, zG_in 554 (by decide +kernel) rfl, zG_in 555 (by decide +kernel) rfl⟩
theorem kl_X7_331 : zLV RX7 331 yX7_shareError := ⟨zG_in 593 (by decide +kernel) rfl, zG_in 595 (by decide +kernel) rfl, zG_sel 15 (by decide +kernel) rfl⟩
theorem kn_L_11 : zN RL 11 7 := ⟨RX7, TX7, 8, tyX7, rfl, rfl, zu_7, zG_in 16 (by decide +kernel) rfl, zG_in 17 (by decide +kernel) rfl, zG_in 1 (by decide +kernel) rfl, tyX7_ok, by decide +kernel⟩
theorem kl_L_52 : zLI RL 52 yX7_init := ⟨zG_in 18 (by decide +kernel) rfl, zG_in 19 (by decide +kernel) rfl, rfl⟩
theorem kl_L_53 : zLS RL 53 yL_cell := ⟨zG_in 456 (by decide +kernel) rfl, zG_in 457 (by decide +kernel) rfl⟩
theorem kl_L_57 : zLS RL 57 yL_low := ⟨zG_in 461 (by decide +kernel) rfl, zG_in 462 (by decide +kernel) rfl⟩
theorem kl_L_60 : zLV RL 60 yX7_coast := ⟨zG_in 211 (by decide +kernel) rfl, zG_in 212 (by decide +kernel) rfl, zG_in 213 (by decide +kernel) rfl⟩
theorem kl_L_64 : zLV RL 64 yX7_pilot := ⟨zG_in 327 (by decide +kernel) rfl, zG_in 328 (by decide +kernel) rfl, zG_in 329 (by decide +kernel) rfl⟩
theorem kl_L_67 : zLV RL 67 yX7_report := ⟨zG_in 333 (by decide +kernel) rfl, zG_in 334 (by decide +kernel) rfl, zG_in 335 (by decide +kernel) rfl⟩
theorem kl_L_70 : zLV RL 70 yX7_told := ⟨zG_in 451 (by decide +kernel) rfl, zG_in 452 (by decide +kernel) rfl, zG_in 453 (by decide +kernel) rfl⟩
theorem kl_L_74 : zLV RL 74 yX7_chart := ⟨zG_in 340 (by decide +kernel) rfl, zG_in 341 (by decide +kernel) rfl, zG_in 342 (by decide +kernel) rfl⟩
theorem kl_L_77 : zLV RL 77 yX7_copy := ⟨zG_in 400 (by decide +kernel) rfl, zG_in 401 (by decide +kernel) rfl, zG_in 402 (by decide +kernel) rfl⟩
theorem kl_L_80 : zLS RL 80 yL_pasted := ⟨zG_in 468 (by decide +kernel) rfl, zG_in 469 (by decide +kernel) rfl⟩
theorem kl_L_84 : zLV RL 84 yX7_island := ⟨zG_in 422 (by decide +kernel) rfl, zG_in 423 (by decide +kernel) rfl, zG_in 424 (by decide +kernel) rfl⟩
theorem kl_L_87 : zLV RL 87 yX7_exchange := ⟨zG_in 428 (by decide +kernel) rfl, zG_in 429 (by decide +kernel) rfl, zG_in 430 (by decide +kernel) rfl⟩
theorem kl_L_91 : zLV RL 91 yX7_hand := ⟨zG_in 385 (by decide +kernel) rfl, zG_in 386 (by decide +kernel) rfl, zG_in 387 (by decide +kernel) rfl⟩
theorem kl_L_94 : zLV RL 94 yX7_reads := ⟨zG_in 395 (by decide +kernel) rfl, zG_in 396 (by decide +kernel) rfl, zG_in 397 (by decide +kernel) rfl⟩
theorem kl_L_97 : zLS RL 97 yL_shrunk := ⟨zG_in 496 (by decide +kernel) rfl, zG_in 497 (by decide +kernel) rfl⟩
theorem kl_L_101 : zLV RL 101 yX7_lose := ⟨zG_in 432 (by decide +kernel) rfl, zG_in 433 (by decide +kernel) rfl, zG_in 434 (by decide +kernel) rfl⟩
theorem kl_L_104 : zLV RL 104 yX7_paint := ⟨zG_in 442 (by decide +kernel) rfl, zG_in 443 (by decide +kernel) rfl, zG_in 444 (by decide +kernel) rfl⟩
theorem kl_L_108 : zLS RL 108 yL_right := ⟨zG_in 526 (by decide +kernel) rfl, zG_in 527 (by decide +kernel) rfl⟩
theorem kt_77 : zTh RX7 77 81 "java/lang/IllegalArgumentException" := ⟨by decide +kernel, zG_in 295 (by decide +kernel) rfl, zG_in 13 (by decide +kernel) rfl, fun w h => List.mem_filter.mpr ⟨(by decide +kernel : ∀ w ∈ (vx_atS RX7 81 "java/lang/IllegalArgumentException" zNm).filter goodWord, w ∈ lw_tbl) w h, (List.mem_filter.mp h).2⟩, by decide +kernel, by decide, by decide +kernel, by decide +kernel⟩
theorem kt_87 : zTh RX7 87 91 "java/lang/IllegalStateException" := ⟨by decide +kernel, zG_in 311 (by decide +kernel) rfl, zG_in 14 (by decide +kernel) rfl, fun w h => List.mem_filter.mpr ⟨(by decide +kernel : ∀ w ∈ (vx_atS RX7 91 "java/lang/IllegalStateException" zNm).filter goodWord, w ∈ lw_tbl) w h, (List.mem_filter.mp h).2⟩, by decide +kernel, by decide, by decide +kernel, by decide +kernel⟩
theorem kt_116 : zTh RX7 116 120 "java/lang/IndexOutOfBoundsException" := ⟨by decide +kernel, zG_in 218 (by decide +kernel) rfl, zG_in 12 (by decide +kernel) rfl, fun w h => List.mem_filter.mpr ⟨(by decide +kernel : ∀ w ∈ (vx_atS RX7 120 "java/lang/IndexOutOfBoundsException" zNm).filter goodWord, w ∈ lw_tbl) w h, (List.mem_filter.mp h).2⟩, by decide +kernel, by decide, by decide +kernel, by decide +kernel⟩
theorem ka_int : Cond.arrayClass .int ∈ zG := zG_in 47 (by decide +kernel) rfl
theorem ka_boolean : Cond.arrayClass .boolean ∈ zG := zG_in 185 (by decide +kernel) rfl
theorem kob_i : Cond.instanceMethod objectInit ∈ zG := zG_in 22 (by decide +kernel) rfl
theorem kob_c : Cond.code objectInit ⟨#[0xb1]⟩ 1 none ∈ zG := zG_in 23 (by decide +kernel) rfl
theorem km_abs_s : Cond.static Lib.Math.abs.name ∈ zG := zG_in 579 (by decide +kernel) rfl
theorem km_abs_c : Cond.code Lib.Math.abs.name Lib.Math.abs.code 1 (some .int) ∈ zG := zG_in 580 (by decide +kernel) rfl
theorem km_i : Cond.initialized "java/lang/Math" ∈ zG := zG_in 15 (by decide +kernel) rfl
