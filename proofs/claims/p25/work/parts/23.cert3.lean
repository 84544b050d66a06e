/-! certificates: what the tables say of methods, links, fields (by program wip/p25/gen_cert.py) -/
theorem kl_X7_155 : zLV RX7 155 yX7_copyistOf := ⟨zG_in 389 (by decide +kernel) rfl, zG_in 391 (by decide +kernel) rfl, zG_sel 4 (by decide +kernel) rfl⟩
theorem kf_X7_161 : zF RX7 161 2 0 := ⟨RX2, TX2, 2, tyX2, rfl, rfl, by decide, zu_2, zG_in 143 (by decide +kernel) rfl, rfl, tyX2_ok, nmX2, fun _ => ⟨rfl, rfl⟩, fun h => absurd h (by decide)⟩
theorem kf_X7_166 : zF RX7 166 2 1 := ⟨RX2, TX2, 2, tyX2, rfl, rfl, by decide, zu_2, zG_in 145 (by decide +kernel) rfl, rfl, tyX2_ok, nmX2, fun h => absurd h (by decide), fun _ => ⟨rfl, fun a => ⟨rfl, rfl⟩⟩⟩
theorem kl_X7_169 : zLV RX7 169 yX7_chartOf := ⟨zG_in 404 (by decide +kernel) rfl, zG_in 406 (by decide +kernel) rfl, zG_sel 5 (by decide +kernel) rfl⟩
theorem kl_X7_175 : zLV RX7 175 yX2_readingOf := ⟨zG_in 410 (by decide +kernel) rfl, zG_in 411 (by decide +kernel) rfl, zG_in 412 (by decide +kernel) rfl⟩
theorem kl_X7_183 : zLS RX7 183 yX7_drawn := ⟨zG_in 415 (by decide +kernel) rfl, zG_in 416 (by decide +kernel) rfl⟩
theorem kl_X7_188 : zLV RX7 188 yX0_takeFrame := ⟨zG_in 418 (by decide +kernel) rfl, zG_in 419 (by decide +kernel) rfl, zG_in 420 (by decide +kernel) rfl⟩
theorem kl_X2_19 : zLSN RX2 19 yX7_isName := ⟨⟨"PortolanHall", by decide +kernel⟩, zG_in 290 (by decide +kernel) rfl⟩
theorem kf_X7_213 : zF RX7 213 3 3 := ⟨RX3, TX3, 4, tyX3, rfl, rfl, by decide, zu_3, zG_in 127 (by decide +kernel) rfl, rfl, tyX3_ok, nmX3, fun _ => ⟨rfl, rfl⟩, fun h => absurd h (by decide)⟩
theorem kf_X7_216 : zF RX7 216 3 0 := ⟨RX3, TX3, 4, tyX3, rfl, rfl, by decide, zu_3, zG_in 121 (by decide +kernel) rfl, rfl, tyX3_ok, nmX3, fun h => absurd h (by decide), fun _ => ⟨rfl, fun a => ⟨rfl, rfl⟩⟩⟩
theorem kf_X7_217 : zF RX7 217 3 1 := ⟨RX3, TX3, 4, tyX3, rfl, rfl, by decide, zu_3, zG_in 123 (by decide +kernel) rfl, rfl, tyX3_ok, nmX3, fun h => absurd h (by decide), fun _ => ⟨rfl, fun a => ⟨rfl, rfl⟩⟩⟩
theorem kf_X7_218 : zF RX7 218 3 2 := ⟨RX3, TX3, 4, tyX3, rfl, rfl, by decide, zu_3, zG_in 125 (by decide +kernel) rfl, rfl, tyX3_ok, nmX3, fun h => absurd h (by decide), fun _ => ⟨rfl, fun a => ⟨rfl, rfl⟩⟩⟩
theorem kf_X7_221 : zF RX7 221 0 6 := ⟨RX0, TX0, 7, tyX0, rfl, rfl, by decide, zu_0, zG_in 169 (by decide +kernel) rfl, rfl, tyX0_ok, nmX0, fun h => absurd h (by decide), fun _ => ⟨rfl, fun a => ⟨rfl, rfl⟩⟩⟩
theorem kl_X7_207 : zLV RX7 207 yX0_knownFrom := ⟨zG_in 437 (by decide +kernel) rfl, zG_in 438 (by decide +kernel) rfl, zG_in 439 (by decide +kernel) rfl⟩
theorem kl_X0_40 : zLV RX0 40 yX0_knows := ⟨zG_in 441 (by decide +kernel) rfl, zG_in 373 (by decide +kernel) rfl, zG_in 374 (by decide +kernel) rfl⟩
theorem kl_X7_239 : zLV RX7 239 yX7_needIsland := ⟨zG_in 446 (by decide +kernel) rfl, zG_in 448 (by decide +kernel) rfl, zG_sel 6 (by decide +kernel) rfl⟩
theorem kc_L_7 : Jvm.Cond.constant RL 7 (1000308309) ∈ zG := zG_in 459 (by decide +kernel) rfl
theorem kc_L_8 : Jvm.Cond.constant RL 8 (751363483) ∈ zG := zG_in 460 (by decide +kernel) rfl
theorem kc_L_9 : Jvm.Cond.constant RL 9 (2147483647) ∈ zG := zG_in 464 (by decide +kernel) rfl
theorem kl_L_10 : zLV RL 10 yX7_paste := ⟨zG_in 472 (by decide +kernel) rfl, zG_in 473 (by decide +kernel) rfl, zG_in 474 (by decide +kernel) rfl⟩
theorem kl_X7_196 : zLV RX7 196 yX7_leadsBack := ⟨zG_in 478 (by decide +kernel) rfl, zG_in 480 (by decide +kernel) rfl, zG_sel 7 (by decide +kernel) rfl⟩
theorem kl_X7_202 : zLV RX7 202 yX0_fitsMoved := ⟨zG_in 487 (by decide +kernel) rfl, zG_in 488 (by decide +kernel) rfl, zG_in 489 (by decide +kernel) rfl⟩
theorem kl_X7_256 : zLV RX7 256 yX7_sourceOf := ⟨zG_in 482 (by decide +kernel) rfl, zG_in 484 (by decide +kernel) rfl, zG_sel 8 (by decide +kernel) rfl⟩
theorem kf_X7_244 : zF RX7 244 0 4 := ⟨RX0, TX0, 7, tyX0, rfl, rfl, by decide, zu_0, zG_in 165 (by decide +kernel) rfl, rfl, tyX0_ok, nmX0, fun h => absurd h (by decide), fun _ => ⟨rfl, fun a => ⟨rfl, rfl⟩⟩⟩
theorem kl_X0_48 : zLS RX0 48 yX0_isPlace := ⟨zG_in 491 (by decide +kernel) rfl, zG_in 492 (by decide +kernel) rfl⟩
theorem kl_X0_63 : zLSN RX0 63 yX7_isWithin := ⟨⟨"PortolanHall", by decide +kernel⟩, zG_in 287 (by decide +kernel) rfl⟩
theorem kl_L_18 : zLV RL 18 yX7_shrink := ⟨zG_in 499 (by decide +kernel) rfl, zG_in 500 (by decide +kernel) rfl, zG_in 501 (by decide +kernel) rfl⟩
theorem kl_X7_225 : zLS RX7 225 yX7_needBasin := ⟨zG_in 503 (by decide +kernel) rfl, zG_in 504 (by decide +kernel) rfl⟩
theorem kl_X7_230 : zLV RX7 230 yX0_fitsShrunk := ⟨zG_in 508 (by decide +kernel) rfl, zG_in 509 (by decide +kernel) rfl, zG_in 510 (by decide +kernel) rfl⟩
theorem kl_X7_233 : zLV RX7 233 yX0_shrinkPlaces := ⟨zG_in 522 (by decide +kernel) rfl, zG_in 523 (by decide +kernel) rfl, zG_in 524 (by decide +kernel) rfl⟩
theorem kl_X0_52 : zLSN RX0 52 yX7_firstOf := ⟨⟨"PortolanHall", by decide +kernel⟩, zG_in 513 (by decide +kernel) rfl⟩
theorem kl_X0_56 : zLSN RX0 56 yX7_lastOf := ⟨⟨"PortolanHall", by decide +kernel⟩, zG_in 516 (by decide +kernel) rfl⟩
theorem kl_X0_59 : zLS RX0 59 yX0_shrunk := ⟨zG_in 519 (by decide +kernel) rfl, zG_in 520 (by decide +kernel) rfl⟩
theorem kl_X7_284 : zLS RX7 284 yX7_firstOf := ⟨zG_in 518 (by decide +kernel) rfl, zG_in 513 (by decide +kernel) rfl⟩
theorem kl_L_22 : zLV RL 22 yX7_at := ⟨zG_in 529 (by decide +kernel) rfl, zG_in 530 (by decide +kernel) rfl, zG_in 531 (by decide +kernel) rfl⟩
theorem kc_L_26 : Jvm.Cond.constant RL 26 (100000) ∈ zG := zG_in 539 (by decide +kernel) rfl
theorem kl_L_27 : zLV RL 27 yX7_chain := ⟨zG_in 540 (by decide +kernel) rfl, zG_in 541 (by decide +kernel) rfl, zG_in 542 (by decide +kernel) rfl⟩
theorem kl_L_30 : zLV RL 30 yX7_of := ⟨zG_in 545 (by decide +kernel) rfl, zG_in 546 (by decide +kernel) rfl, zG_in 547 (by decide +kernel) rfl⟩
theorem kl_L_34 : zLS RL 34 yL_size := ⟨zG_in 465 (by decide +kernel) rfl, zG_in 466 (by decide +kernel) rfl⟩
theorem kl_L_40 : zLV RL 40 yX7_fit := ⟨zG_in 565 (by decide +kernel) rfl, zG_in 566 (by decide +kernel) rfl, zG_in 567 (by decide +kernel) rfl⟩
theorem kl_L_43 : zLS RL 43 yL_shared := ⟨zG_in 581 (by decide +kernel) rfl, zG_in 582 (by decide +kernel) rfl⟩
theorem kl_L_47 : zLV RL 47 yX7_shared := ⟨zG_in 584 (by decide +kernel) rfl, zG_in 585 (by decide +kernel) rfl, zG_in 586 (by decide +kernel) rfl⟩
theorem kl_L_49 : zLV RL 49 yX7_kin := ⟨zG_in 597 (by decide +kernel) rfl, zG_in 598 (by decide +kernel) rfl, zG_in 599 (by decide +kernel) rfl⟩
theorem kl_X7_247 : zLV RX7 247 yX7_errorOf := ⟨zG_in 533 (by decide +kernel) rfl, zG_in 535 (by decide +kernel) rfl, zG_sel 9 (by decide +kernel) rfl⟩
theorem kc_X7_251 : Jvm.Cond.constant RX7 251 (100000) ∈ zG := zG_in 537 (by decide +kernel) rfl
theorem kl_X7_259 : zLV RX7 259 yX0_islandCount := ⟨zG_in 549 (by decide +kernel) rfl, zG_in 550 (by decide +kernel) rfl, zG_in 551 (by decide +kernel) rfl⟩
theorem kl_X7_263 : zLV RX7 263 yX7_falseNames := ⟨zG_in 557 (by decide +kernel) rfl, zG_in 559 (by decide +kernel) rfl, zG_sel 10 (by decide +kernel) rfl⟩
theorem kl_X0_44 : zLV RX0 44 yX0_islandsWith := ⟨zG_in 553 (by decide +kernel) rfl, zG_in 554 (by decide +kernel) rfl, zG_in 555 (by decide +kernel) rfl⟩
theorem kl_X7_290 : zLV RX7 290 yX7_hasTrueName := ⟨zG_in 561 (by decide +kernel) rfl, zG_in 563 (by decide +kernel) rfl, zG_sel 11 (by decide +kernel) rfl⟩
theorem kl_X7_273 : zLV RX7 273 yX7_shift := ⟨zG_in 569 (by decide +kernel) rfl, zG_in 571 (by decide +kernel) rfl, zG_sel 12 (by decide +kernel) rfl⟩
theorem kl_X7_276 : zLV RX7 276 yX7_residual := ⟨zG_in 574 (by decide +kernel) rfl, zG_in 576 (by decide +kernel) rfl, zG_sel 13 (by decide +kernel) rfl⟩
theorem kl_X7_287 : zLS RX7 287 yX7_lastOf := ⟨zG_in 573 (by decide +kernel) rfl, zG_in 516 (by decide +kernel) rfl⟩
theorem kl_X7_325 : Cond.methodLink RX7 325 Lib.Math.abs.name ∈ zG := zG_in 578 (by decide +kernel) rfl
theorem kl_X7_280 : zLV RX7 280 yX7_sharedBy := ⟨zG_in 588 (by decide +kernel) rfl, zG_in 590 (by decide +kernel) rfl, zG_sel 14 (by decide +kernel) rfl⟩
theorem kl_X7_328 : zLV RX7 328 yX0_islandsWith := ⟨zG_in 592 (by decide +kernel) rfl, zG_in 554 (by decide +kernel) rfl, zG_in 555 (by decide +kernel) rfl⟩
theorem kl_X7_331 : zLV RX7 331 yX7_shareError := ⟨zG_in 593 (by decide +kernel) rfl, zG_in 595 (by decide +kernel) rfl, zG_sel 15 (by decide +kernel) rfl⟩
theorem kn_L_11 : zN RL 11 7 := ⟨RX7, TX7, 8, tyX7, rfl, rfl, zu_7, zG_in 16 (by decide +kernel) rfl, zG_in 17 (by decide +kernel) rfl, zG_in 1 (by decide +kernel) rfl, tyX7_ok, by decide +kernel⟩
theorem kl_L_52 : zLI RL 52 yX7_init := ⟨zG_in 18 (by decide +kernel) rfl, zG_in 19 (by decide +kernel) rfl, rfl⟩
theorem kl_L_53 : zLS RL 53 yL_cell := ⟨zG_in 456 (by decide +kernel) rfl, zG_in 457 (by decide +kernel) rfl⟩
theorem kl_L_57 : zLS RL 57 yL_low := ⟨zG_in 461 (by decide +kernel) rfl, zG_in 462 (by decide +kernel) rfl⟩
theorem kl_L_60 : zLV RL 60 yX7_coast := ⟨zG_in 211 (by decide +kernel) rfl, zG_in 212 (by decide +kernel) rfl, zG_in 213 (by decide +kernel) rfl⟩
theorem kl_L_64 : zLV RL 64 yX7_pilot := ⟨zG_in 327 (by decide +kernel) rfl, zG_in 328 (by decide +kernel) rfl, zG_in 329 (by decide +kernel) rfl⟩
theorem kl_L_67 : zLV RL 67 yX7_report := ⟨zG_in 333 (by decide +kernel) rfl, zG_in 334 (by decide +kernel) rfl, zG_in 335 (by decide +kernel) rfl⟩
theorem kl_L_70 : zLV RL 70 yX7_told := ⟨zG_in 451 (by decide +kernel) rfl, zG_in 452 (by decide +kernel) rfl, zG_in 453 (by decide +kernel) rfl⟩
theorem kl_L_74 : zLV RL 74 yX7_chart := ⟨zG_in 340 (by decide +kernel) rfl, zG_in 341 (by decide +kernel) rfl, zG_in 342 (by decide +kernel) rfl⟩
theorem kl_L_77 : zLV RL 77 yX7_copy := ⟨zG_in 400 (by decide +kernel) rfl, zG_in 401 (by decide +kernel) rfl, zG_in 402 (by decide +kernel) rfl⟩
theorem kl_L_80 : zLS RL 80 yL_pasted := ⟨zG_in 468 (by decide +kernel) rfl, zG_in 469 (by decide +kernel) rfl⟩
theorem kl_L_84 : zLV RL 84 yX7_island := ⟨zG_in 422 (by decide +kernel) rfl, zG_in 423 (by decide +kernel) rfl, zG_in 424 (by decide +kernel) rfl⟩
theorem kl_L_87 : zLV RL 87 yX7_exchange := ⟨zG_in 428 (by decide +kernel) rfl, zG_in 429 (by decide +kernel) rfl, zG_in 430 (by decide +kernel) rfl⟩
theorem kl_L_91 : zLV RL 91 yX7_hand := ⟨zG_in 385 (by decide +kernel) rfl, zG_in 386 (by decide +kernel) rfl, zG_in 387 (by decide +kernel) rfl⟩
theorem kl_L_94 : zLV RL 94 yX7_reads := ⟨zG_in 395 (by decide +kernel) rfl, zG_in 396 (by decide +kernel) rfl, zG_in 397 (by decide +kernel) rfl⟩
theorem kl_L_97 : zLS RL 97 yL_shrunk := ⟨zG_in 496 (by decide +kernel) rfl, zG_in 497 (by decide +kernel) rfl⟩
theorem kl_L_101 : zLV RL 101 yX7_lose := ⟨zG_in 432 (by decide +kernel) rfl, zG_in 433 (by decide +kernel) rfl, zG_in 434 (by decide +kernel) rfl⟩
theorem kl_L_104 : zLV RL 104 yX7_paint := ⟨zG_in 442 (by decide +kernel) rfl, zG_in 443 (by decide +kernel) rfl, zG_in 444 (by decide +kernel) rfl⟩
theorem kl_L_108 : zLS RL 108 yL_right := ⟨zG_in 526 (by decide +kernel) rfl, zG_in 527 (by decide +kernel) rfl⟩
theorem kt_77 : zTh RX7 77 81 "java/lang/IllegalArgumentException" := ⟨by decide +kernel, zG_in 295 (by decide +kernel) rfl, zG_in 13 (by decide +kernel) rfl, fun w h => List.mem_filter.mpr ⟨(by decide +kernel : ∀ w ∈ (vx_atS RX7 81 "java/lang/IllegalArgumentException" zNm).filter goodWord, w ∈ lw_tbl) w h, (List.mem_filter.mp h).2⟩, by decide +kernel, by decide, by decide +kernel, by decide +kernel⟩
theorem kt_87 : zTh RX7 87 91 "java/lang/IllegalStateException" := ⟨by decide +kernel, zG_in 311 (by decide +kernel) rfl, zG_in 14 (by decide +kernel) rfl, fun w h => List.mem_filter.mpr ⟨(by decide +kernel : ∀ w ∈ (vx_atS RX7 91 "java/lang/IllegalStateException" zNm).filter goodWord, w ∈ lw_tbl) w h, (List.mem_filter.mp h).2⟩, by decide +kernel, by decide, by decide +kernel, by decide +kernel⟩
theorem kt_116 : zTh RX7 116 120 "java/lang/IndexOutOfBoundsException" := ⟨by decide +kernel, zG_in 218 (by decide +kernel) rfl, zG_in 12 (by decide +kernel) rfl, fun w h => List.mem_filter.mpr ⟨(by decide +kernel : ∀ w ∈ (vx_atS RX7 120 "java/lang/IndexOutOfBoundsException" zNm).filter goodWord, w ∈ lw_tbl) w h, (List.mem_filter.mp h).2⟩, by decide +kernel, by decide, by decide +kernel, by decide +kernel⟩
theorem ka_int : Cond.arrayClass .int ∈ zG := zG_in 47 (by decide +kernel) rfl
theorem ka_boolean : Cond.arrayClass .boolean ∈ zG := zG_in 185 (by decide +kernel) rfl
theorem kob_i : Cond.instanceMethod objectInit ∈ zG := zG_in 22 (by decide +kernel) rfl
theorem kob_c : Cond.code objectInit ⟨#[0xb1]⟩ 1 none ∈ zG := zG_in 23 (by decide +kernel) rfl
theorem km_abs_s : Cond.static Lib.Math.abs.name ∈ zG := zG_in 579 (by decide +kernel) rfl
theorem km_abs_c : Cond.code Lib.Math.abs.name Lib.Math.abs.code 1 (some .int) ∈ zG := zG_in 580 (by decide +kernel) rfl
theorem km_i : Cond.initialized "java/lang/Math" ∈ zG := zG_in 15 (by decide +kernel) rfl
