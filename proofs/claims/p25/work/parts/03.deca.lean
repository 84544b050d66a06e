theorem dX0_init_0 : decode cX0_init 0 = .ok (.aload_n 0, 1) := by decide +kernel
theorem dX0_init_1 : decode cX0_init 1 = .ok (.invokespecial 3, 3) := by decide +kernel
theorem dX0_init_4 : decode cX0_init 4 = .ok (.aload_n 0, 1) := by decide +kernel
theorem dX0_init_5 : decode cX0_init 5 = .ok (.iconst 0, 1) := by decide +kernel
theorem dX0_init_6 : decode cX0_init 6 = .ok (.putfield 9, 3) := by decide +kernel
theorem dX0_init_9 : decode cX0_init 9 = .ok (.aload_n 0, 1) := by decide +kernel
theorem dX0_init_10 : decode cX0_init 10 = .ok (.bipush 24, 2) := by decide +kernel
theorem dX0_init_12 : decode cX0_init 12 = .ok (.newarray .int, 2) := by decide +kernel
theorem dX0_init_14 : decode cX0_init 14 = .ok (.putfield 15, 3) := by decide +kernel
theorem dX0_init_17 : decode cX0_init 17 = .ok (.aload_n 0, 1) := by decide +kernel
theorem dX0_init_18 : decode cX0_init 18 = .ok (.bipush 24, 2) := by decide +kernel
theorem dX0_init_20 : decode cX0_init 20 = .ok (.newarray .int, 2) := by decide +kernel
theorem dX0_init_22 : decode cX0_init 22 = .ok (.putfield 19, 3) := by decide +kernel
theorem dX0_init_25 : decode cX0_init 25 = .ok (.aload_n 0, 1) := by decide +kernel
theorem dX0_init_26 : decode cX0_init 26 = .ok (.bipush 24, 2) := by decide +kernel
theorem dX0_init_28 : decode cX0_init 28 = .ok (.newarray .int, 2) := by decide +kernel
theorem dX0_init_30 : decode cX0_init 30 = .ok (.putfield 22, 3) := by decide +kernel
theorem dX0_init_33 : decode cX0_init 33 = .ok (.aload_n 0, 1) := by decide +kernel
theorem dX0_init_34 : decode cX0_init 34 = .ok (.bipush 24, 2) := by decide +kernel
theorem dX0_init_36 : decode cX0_init 36 = .ok (.newarray .int, 2) := by decide +kernel
theorem dX0_init_38 : decode cX0_init 38 = .ok (.putfield 25, 3) := by decide +kernel
theorem dX0_init_41 : decode cX0_init 41 = .ok (.aload_n 0, 1) := by decide +kernel
theorem dX0_init_42 : decode cX0_init 42 = .ok (.iconst 3, 1) := by decide +kernel
theorem dX0_init_43 : decode cX0_init 43 = .ok (.newarray .int, 2) := by decide +kernel
theorem dX0_init_45 : decode cX0_init 45 = .ok (.putfield 28, 3) := by decide +kernel
theorem dX0_init_48 : decode cX0_init 48 = .ok (.aload_n 0, 1) := by decide +kernel
theorem dX0_init_49 : decode cX0_init 49 = .ok (.bipush 20, 2) := by decide +kernel
theorem dX0_init_51 : decode cX0_init 51 = .ok (.newarray .boolean, 2) := by decide +kernel
theorem dX0_init_53 : decode cX0_init 53 = .ok (.putfield 31, 3) := by decide +kernel
theorem dX0_init_56 : decode cX0_init 56 = .ok (.return_, 1) := by decide +kernel
theorem dX0_knows_0 : decode cX0_knows 0 = .ok (.aload_n 0, 1) := by decide +kernel
theorem dX0_knows_1 : decode cX0_knows 1 = .ok (.getfield 15, 3) := by decide +kernel
theorem dX0_knows_4 : decode cX0_knows 4 = .ok (.iload_n 1, 1) := by decide +kernel
theorem dX0_knows_5 : decode cX0_knows 5 = .ok (.iaload, 1) := by decide +kernel
theorem dX0_knows_6 : decode cX0_knows 6 = .ok (.ldc 35, 2) := by decide +kernel
theorem dX0_knows_8 : decode cX0_knows 8 = .ok (.if_icmp .eq 7, 3) := by decide +kernel
theorem dX0_knows_11 : decode cX0_knows 11 = .ok (.iconst 1, 1) := by decide +kernel
theorem dX0_knows_12 : decode cX0_knows 12 = .ok (.goto 4, 3) := by decide +kernel
theorem dX0_knows_15 : decode cX0_knows 15 = .ok (.iconst 0, 1) := by decide +kernel
theorem dX0_knows_16 : decode cX0_knows 16 = .ok (.ireturn, 1) := by decide +kernel
theorem dX0_put_0 : decode cX0_put 0 = .ok (.aload_n 0, 1) := by decide +kernel
theorem dX0_put_1 : decode cX0_put 1 = .ok (.getfield 15, 3) := by decide +kernel
theorem dX0_put_4 : decode cX0_put 4 = .ok (.iload_n 1, 1) := by decide +kernel
theorem dX0_put_5 : decode cX0_put 5 = .ok (.iload_n 2, 1) := by decide +kernel
theorem dX0_put_6 : decode cX0_put 6 = .ok (.iastore, 1) := by decide +kernel
theorem dX0_put_7 : decode cX0_put 7 = .ok (.aload_n 0, 1) := by decide +kernel
theorem dX0_put_8 : decode cX0_put 8 = .ok (.getfield 19, 3) := by decide +kernel
theorem dX0_put_11 : decode cX0_put 11 = .ok (.iload_n 1, 1) := by decide +kernel
theorem dX0_put_12 : decode cX0_put 12 = .ok (.iload_n 3, 1) := by decide +kernel
theorem dX0_put_13 : decode cX0_put 13 = .ok (.iastore, 1) := by decide +kernel
theorem dX0_put_14 : decode cX0_put 14 = .ok (.aload_n 0, 1) := by decide +kernel
theorem dX0_put_15 : decode cX0_put 15 = .ok (.getfield 25, 3) := by decide +kernel
theorem dX0_put_18 : decode cX0_put 18 = .ok (.iload_n 1, 1) := by decide +kernel
theorem dX0_put_19 : decode cX0_put 19 = .ok (.iload 4, 2) := by decide +kernel
theorem dX0_put_21 : decode cX0_put 21 = .ok (.iastore, 1) := by decide +kernel
theorem dX0_put_22 : decode cX0_put 22 = .ok (.return_, 1) := by decide +kernel
theorem dX0_forget_0 : decode cX0_forget 0 = .ok (.aload_n 0, 1) := by decide +kernel
theorem dX0_forget_1 : decode cX0_forget 1 = .ok (.iload_n 1, 1) := by decide +kernel
theorem dX0_forget_2 : decode cX0_forget 2 = .ok (.ldc 35, 2) := by decide +kernel
theorem dX0_forget_4 : decode cX0_forget 4 = .ok (.ldc 35, 2) := by decide +kernel
theorem dX0_forget_6 : decode cX0_forget 6 = .ok (.iconst (-1), 1) := by decide +kernel
theorem dX0_forget_7 : decode cX0_forget 7 = .ok (.invokevirtual 36, 3) := by decide +kernel
theorem dX0_forget_10 : decode cX0_forget 10 = .ok (.return_, 1) := by decide +kernel
theorem dX0_takeFrame_0 : decode cX0_takeFrame 0 = .ok (.iconst 0, 1) := by decide +kernel
theorem dX0_takeFrame_1 : decode cX0_takeFrame 1 = .ok (.istore_n 2, 1) := by decide +kernel
theorem dX0_takeFrame_2 : decode cX0_takeFrame 2 = .ok (.iload_n 2, 1) := by decide +kernel
theorem dX0_takeFrame_3 : decode cX0_takeFrame 3 = .ok (.iconst 3, 1) := by decide +kernel
theorem dX0_takeFrame_4 : decode cX0_takeFrame 4 = .ok (.if_icmp .ge 21, 3) := by decide +kernel
theorem dX0_takeFrame_7 : decode cX0_takeFrame 7 = .ok (.aload_n 0, 1) := by decide +kernel
theorem dX0_takeFrame_8 : decode cX0_takeFrame 8 = .ok (.getfield 28, 3) := by decide +kernel
theorem dX0_takeFrame_11 : decode cX0_takeFrame 11 = .ok (.iload_n 2, 1) := by decide +kernel
theorem dX0_takeFrame_12 : decode cX0_takeFrame 12 = .ok (.aload_n 1, 1) := by decide +kernel
theorem dX0_takeFrame_13 : decode cX0_takeFrame 13 = .ok (.getfield 28, 3) := by decide +kernel
theorem dX0_takeFrame_16 : decode cX0_takeFrame 16 = .ok (.iload_n 2, 1) := by decide +kernel
theorem dX0_takeFrame_17 : decode cX0_takeFrame 17 = .ok (.iaload, 1) := by decide +kernel
theorem dX0_takeFrame_18 : decode cX0_takeFrame 18 = .ok (.iastore, 1) := by decide +kernel
theorem dX0_takeFrame_19 : decode cX0_takeFrame 19 = .ok (.iinc 2 1, 3) := by decide +kernel
theorem dX0_takeFrame_22 : decode cX0_takeFrame 22 = .ok (.goto (-20), 3) := by decide +kernel
theorem dX0_takeFrame_25 : decode cX0_takeFrame 25 = .ok (.iconst 0, 1) := by decide +kernel
theorem dX0_takeFrame_26 : decode cX0_takeFrame 26 = .ok (.istore_n 2, 1) := by decide +kernel
theorem dX0_takeFrame_27 : decode cX0_takeFrame 27 = .ok (.iload_n 2, 1) := by decide +kernel
theorem dX0_takeFrame_28 : decode cX0_takeFrame 28 = .ok (.bipush 20, 2) := by decide +kernel
theorem dX0_takeFrame_30 : decode cX0_takeFrame 30 = .ok (.if_icmp .ge 21, 3) := by decide +kernel
theorem dX0_takeFrame_33 : decode cX0_takeFrame 33 = .ok (.aload_n 0, 1) := by decide +kernel
theorem dX0_takeFrame_34 : decode cX0_takeFrame 34 = .ok (.getfield 31, 3) := by decide +kernel
theorem dX0_takeFrame_37 : decode cX0_takeFrame 37 = .ok (.iload_n 2, 1) := by decide +kernel
theorem dX0_takeFrame_38 : decode cX0_takeFrame 38 = .ok (.aload_n 1, 1) := by decide +kernel
theorem dX0_takeFrame_39 : decode cX0_takeFrame 39 = .ok (.getfield 31, 3) := by decide +kernel
theorem dX0_takeFrame_42 : decode cX0_takeFrame 42 = .ok (.iload_n 2, 1) := by decide +kernel
theorem dX0_takeFrame_43 : decode cX0_takeFrame 43 = .ok (.baload, 1) := by decide +kernel
theorem dX0_takeFrame_44 : decode cX0_takeFrame 44 = .ok (.bastore, 1) := by decide +kernel
theorem dX0_takeFrame_45 : decode cX0_takeFrame 45 = .ok (.iinc 2 1, 3) := by decide +kernel
theorem dX0_takeFrame_48 : decode cX0_takeFrame 48 = .ok (.goto (-21), 3) := by decide +kernel
theorem dX0_takeFrame_51 : decode cX0_takeFrame 51 = .ok (.return_, 1) := by decide +kernel
theorem dX0_knownFrom_0 : decode cX0_knownFrom 0 = .ok (.iconst 0, 1) := by decide +kernel
theorem dX0_knownFrom_1 : decode cX0_knownFrom 1 = .ok (.istore_n 3, 1) := by decide +kernel
theorem dX0_knownFrom_2 : decode cX0_knownFrom 2 = .ok (.iload_n 1, 1) := by decide +kernel
theorem dX0_knownFrom_3 : decode cX0_knownFrom 3 = .ok (.istore 4, 2) := by decide +kernel
theorem dX0_knownFrom_5 : decode cX0_knownFrom 5 = .ok (.iload 4, 2) := by decide +kernel
theorem dX0_knownFrom_7 : decode cX0_knownFrom 7 = .ok (.iload_n 2, 1) := by decide +kernel
theorem dX0_knownFrom_8 : decode cX0_knownFrom 8 = .ok (.if_icmp .gt 21, 3) := by decide +kernel
theorem dX0_knownFrom_11 : decode cX0_knownFrom 11 = .ok (.aload_n 0, 1) := by decide +kernel
theorem dX0_knownFrom_12 : decode cX0_knownFrom 12 = .ok (.iload 4, 2) := by decide +kernel
theorem dX0_knownFrom_14 : decode cX0_knownFrom 14 = .ok (.invokevirtual 40, 3) := by decide +kernel
theorem dX0_knownFrom_17 : decode cX0_knownFrom 17 = .ok (.ifCond .eq 6, 3) := by decide +kernel
theorem dX0_knownFrom_20 : decode cX0_knownFrom 20 = .ok (.iinc 3 1, 3) := by decide +kernel
theorem dX0_knownFrom_23 : decode cX0_knownFrom 23 = .ok (.iinc 4 1, 3) := by decide +kernel
theorem dX0_knownFrom_26 : decode cX0_knownFrom 26 = .ok (.goto (-21), 3) := by decide +kernel
theorem dX0_knownFrom_29 : decode cX0_knownFrom 29 = .ok (.iload_n 3, 1) := by decide +kernel
theorem dX0_knownFrom_30 : decode cX0_knownFrom 30 = .ok (.ireturn, 1) := by decide +kernel
theorem dX0_islandCount_0 : decode cX0_islandCount 0 = .ok (.aload_n 0, 1) := by decide +kernel
theorem dX0_islandCount_1 : decode cX0_islandCount 1 = .ok (.aload_n 0, 1) := by decide +kernel
theorem dX0_islandCount_2 : decode cX0_islandCount 2 = .ok (.invokevirtual 44, 3) := by decide +kernel
theorem dX0_islandCount_5 : decode cX0_islandCount 5 = .ok (.ireturn, 1) := by decide +kernel
theorem dX0_islandsWith_0 : decode cX0_islandsWith 0 = .ok (.iconst 0, 1) := by decide +kernel
theorem dX0_islandsWith_1 : decode cX0_islandsWith 1 = .ok (.istore_n 2, 1) := by decide +kernel
theorem dX0_islandsWith_2 : decode cX0_islandsWith 2 = .ok (.iconst 0, 1) := by decide +kernel
theorem dX0_islandsWith_3 : decode cX0_islandsWith 3 = .ok (.istore_n 3, 1) := by decide +kernel
theorem dX0_islandsWith_4 : decode cX0_islandsWith 4 = .ok (.iload_n 3, 1) := by decide +kernel
theorem dX0_islandsWith_5 : decode cX0_islandsWith 5 = .ok (.bipush 20, 2) := by decide +kernel
theorem dX0_islandsWith_7 : decode cX0_islandsWith 7 = .ok (.if_icmp .ge 30, 3) := by decide +kernel
theorem dX0_islandsWith_10 : decode cX0_islandsWith 10 = .ok (.aload_n 0, 1) := by decide +kernel
theorem dX0_islandsWith_11 : decode cX0_islandsWith 11 = .ok (.getfield 31, 3) := by decide +kernel
theorem dX0_islandsWith_14 : decode cX0_islandsWith 14 = .ok (.iload_n 3, 1) := by decide +kernel
theorem dX0_islandsWith_15 : decode cX0_islandsWith 15 = .ok (.baload, 1) := by decide +kernel
theorem dX0_islandsWith_16 : decode cX0_islandsWith 16 = .ok (.ifCond .eq 15, 3) := by decide +kernel
theorem dX0_islandsWith_19 : decode cX0_islandsWith 19 = .ok (.aload_n 1, 1) := by decide +kernel
theorem dX0_islandsWith_20 : decode cX0_islandsWith 20 = .ok (.getfield 31, 3) := by decide +kernel
theorem dX0_islandsWith_23 : decode cX0_islandsWith 23 = .ok (.iload_n 3, 1) := by decide +kernel
theorem dX0_islandsWith_24 : decode cX0_islandsWith 24 = .ok (.baload, 1) := by decide +kernel
theorem dX0_islandsWith_25 : decode cX0_islandsWith 25 = .ok (.ifCond .eq 6, 3) := by decide +kernel
theorem dX0_islandsWith_28 : decode cX0_islandsWith 28 = .ok (.iinc 2 1, 3) := by decide +kernel
theorem dX0_islandsWith_31 : decode cX0_islandsWith 31 = .ok (.iinc 3 1, 3) := by decide +kernel
theorem dX0_islandsWith_34 : decode cX0_islandsWith 34 = .ok (.goto (-30), 3) := by decide +kernel
theorem dX0_islandsWith_37 : decode cX0_islandsWith 37 = .ok (.iload_n 2, 1) := by decide +kernel
theorem dX0_islandsWith_38 : decode cX0_islandsWith 38 = .ok (.ireturn, 1) := by decide +kernel
theorem dX0_fitsMoved_0 : decode cX0_fitsMoved 0 = .ok (.iload_n 1, 1) := by decide +kernel
theorem dX0_fitsMoved_1 : decode cX0_fitsMoved 1 = .ok (.istore 5, 2) := by decide +kernel
theorem dX0_fitsMoved_3 : decode cX0_fitsMoved 3 = .ok (.iload 5, 2) := by decide +kernel
theorem dX0_fitsMoved_5 : decode cX0_fitsMoved 5 = .ok (.iload_n 2, 1) := by decide +kernel
theorem dX0_fitsMoved_6 : decode cX0_fitsMoved 6 = .ok (.if_icmp .gt 45, 3) := by decide +kernel
theorem dX0_fitsMoved_9 : decode cX0_fitsMoved 9 = .ok (.aload_n 0, 1) := by decide +kernel
theorem dX0_fitsMoved_10 : decode cX0_fitsMoved 10 = .ok (.iload 5, 2) := by decide +kernel
theorem dX0_fitsMoved_12 : decode cX0_fitsMoved 12 = .ok (.invokevirtual 40, 3) := by decide +kernel
theorem dX0_fitsMoved_15 : decode cX0_fitsMoved 15 = .ok (.ifCond .eq 30, 3) := by decide +kernel
theorem dX0_fitsMoved_18 : decode cX0_fitsMoved 18 = .ok (.aload_n 0, 1) := by decide +kernel
theorem dX0_fitsMoved_19 : decode cX0_fitsMoved 19 = .ok (.getfield 15, 3) := by decide +kernel
theorem dX0_fitsMoved_22 : decode cX0_fitsMoved 22 = .ok (.iload 5, 2) := by decide +kernel
theorem dX0_fitsMoved_24 : decode cX0_fitsMoved 24 = .ok (.iaload, 1) := by decide +kernel
theorem dX0_fitsMoved_25 : decode cX0_fitsMoved 25 = .ok (.iload_n 3, 1) := by decide +kernel
theorem dX0_fitsMoved_26 : decode cX0_fitsMoved 26 = .ok (.iadd, 1) := by decide +kernel
theorem dX0_fitsMoved_27 : decode cX0_fitsMoved 27 = .ok (.aload_n 0, 1) := by decide +kernel
theorem dX0_fitsMoved_28 : decode cX0_fitsMoved 28 = .ok (.getfield 19, 3) := by decide +kernel
theorem dX0_fitsMoved_31 : decode cX0_fitsMoved 31 = .ok (.iload 5, 2) := by decide +kernel
theorem dX0_fitsMoved_33 : decode cX0_fitsMoved 33 = .ok (.iaload, 1) := by decide +kernel
theorem dX0_fitsMoved_34 : decode cX0_fitsMoved 34 = .ok (.iload 4, 2) := by decide +kernel
theorem dX0_fitsMoved_36 : decode cX0_fitsMoved 36 = .ok (.iadd, 1) := by decide +kernel
theorem dX0_fitsMoved_37 : decode cX0_fitsMoved 37 = .ok (.invokestatic 48, 3) := by decide +kernel
theorem dX0_fitsMoved_40 : decode cX0_fitsMoved 40 = .ok (.ifCond .ne 5, 3) := by decide +kernel
theorem dX0_fitsMoved_43 : decode cX0_fitsMoved 43 = .ok (.iconst 0, 1) := by decide +kernel
theorem dX0_fitsMoved_44 : decode cX0_fitsMoved 44 = .ok (.ireturn, 1) := by decide +kernel
theorem dX0_fitsMoved_45 : decode cX0_fitsMoved 45 = .ok (.iinc 5 1, 3) := by decide +kernel
theorem dX0_fitsMoved_48 : decode cX0_fitsMoved 48 = .ok (.goto (-45), 3) := by decide +kernel
theorem dX0_fitsMoved_51 : decode cX0_fitsMoved 51 = .ok (.iconst 1, 1) := by decide +kernel
theorem dX0_fitsMoved_52 : decode cX0_fitsMoved 52 = .ok (.ireturn, 1) := by decide +kernel
theorem dX0_fitsShrunk_0 : decode cX0_fitsShrunk 0 = .ok (.iload_n 1, 1) := by decide +kernel
theorem dX0_fitsShrunk_1 : decode cX0_fitsShrunk 1 = .ok (.invokestatic 52, 3) := by decide +kernel
theorem dX0_fitsShrunk_4 : decode cX0_fitsShrunk 4 = .ok (.istore_n 3, 1) := by decide +kernel
theorem dX0_fitsShrunk_5 : decode cX0_fitsShrunk 5 = .ok (.iload_n 3, 1) := by decide +kernel
theorem dX0_fitsShrunk_6 : decode cX0_fitsShrunk 6 = .ok (.iload_n 1, 1) := by decide +kernel
theorem dX0_fitsShrunk_7 : decode cX0_fitsShrunk 7 = .ok (.invokestatic 56, 3) := by decide +kernel
theorem dX0_fitsShrunk_10 : decode cX0_fitsShrunk 10 = .ok (.if_icmp .gt 45, 3) := by decide +kernel
theorem dX0_fitsShrunk_13 : decode cX0_fitsShrunk 13 = .ok (.aload_n 0, 1) := by decide +kernel
theorem dX0_fitsShrunk_14 : decode cX0_fitsShrunk 14 = .ok (.iload_n 3, 1) := by decide +kernel
theorem dX0_fitsShrunk_15 : decode cX0_fitsShrunk 15 = .ok (.invokevirtual 40, 3) := by decide +kernel
theorem dX0_fitsShrunk_18 : decode cX0_fitsShrunk 18 = .ok (.ifCond .eq 31, 3) := by decide +kernel
theorem dX0_fitsShrunk_21 : decode cX0_fitsShrunk 21 = .ok (.aload_n 0, 1) := by decide +kernel
theorem dX0_fitsShrunk_22 : decode cX0_fitsShrunk 22 = .ok (.getfield 15, 3) := by decide +kernel
theorem dX0_fitsShrunk_25 : decode cX0_fitsShrunk 25 = .ok (.iload_n 3, 1) := by decide +kernel
theorem dX0_fitsShrunk_26 : decode cX0_fitsShrunk 26 = .ok (.iaload, 1) := by decide +kernel
theorem dX0_fitsShrunk_27 : decode cX0_fitsShrunk 27 = .ok (.iload_n 2, 1) := by decide +kernel
theorem dX0_fitsShrunk_28 : decode cX0_fitsShrunk 28 = .ok (.invokestatic 59, 3) := by decide +kernel
theorem dX0_fitsShrunk_31 : decode cX0_fitsShrunk 31 = .ok (.aload_n 0, 1) := by decide +kernel
theorem dX0_fitsShrunk_32 : decode cX0_fitsShrunk 32 = .ok (.getfield 19, 3) := by decide +kernel
theorem dX0_fitsShrunk_35 : decode cX0_fitsShrunk 35 = .ok (.iload_n 3, 1) := by decide +kernel
theorem dX0_fitsShrunk_36 : decode cX0_fitsShrunk 36 = .ok (.iaload, 1) := by decide +kernel
theorem dX0_fitsShrunk_37 : decode cX0_fitsShrunk 37 = .ok (.iload_n 2, 1) := by decide +kernel
theorem dX0_fitsShrunk_38 : decode cX0_fitsShrunk 38 = .ok (.invokestatic 59, 3) := by decide +kernel
theorem dX0_fitsShrunk_41 : decode cX0_fitsShrunk 41 = .ok (.invokestatic 48, 3) := by decide +kernel
theorem dX0_fitsShrunk_44 : decode cX0_fitsShrunk 44 = .ok (.ifCond .ne 5, 3) := by decide +kernel
theorem dX0_fitsShrunk_47 : decode cX0_fitsShrunk 47 = .ok (.iconst 0, 1) := by decide +kernel
theorem dX0_fitsShrunk_48 : decode cX0_fitsShrunk 48 = .ok (.ireturn, 1) := by decide +kernel
theorem dX0_fitsShrunk_49 : decode cX0_fitsShrunk 49 = .ok (.iinc 3 1, 3) := by decide +kernel
theorem dX0_fitsShrunk_52 : decode cX0_fitsShrunk 52 = .ok (.goto (-47), 3) := by decide +kernel
theorem dX0_fitsShrunk_55 : decode cX0_fitsShrunk 55 = .ok (.iconst 1, 1) := by decide +kernel
theorem dX0_fitsShrunk_56 : decode cX0_fitsShrunk 56 = .ok (.ireturn, 1) := by decide +kernel
theorem dX0_shrinkPlaces_0 : decode cX0_shrinkPlaces 0 = .ok (.iload_n 1, 1) := by decide +kernel
theorem dX0_shrinkPlaces_1 : decode cX0_shrinkPlaces 1 = .ok (.invokestatic 52, 3) := by decide +kernel
theorem dX0_shrinkPlaces_4 : decode cX0_shrinkPlaces 4 = .ok (.istore_n 3, 1) := by decide +kernel
theorem dX0_shrinkPlaces_5 : decode cX0_shrinkPlaces 5 = .ok (.iload_n 3, 1) := by decide +kernel
theorem dX0_shrinkPlaces_6 : decode cX0_shrinkPlaces 6 = .ok (.iload_n 1, 1) := by decide +kernel
theorem dX0_shrinkPlaces_7 : decode cX0_shrinkPlaces 7 = .ok (.invokestatic 56, 3) := by decide +kernel
theorem dX0_shrinkPlaces_10 : decode cX0_shrinkPlaces 10 = .ok (.if_icmp .gt 49, 3) := by decide +kernel
theorem dX0_shrinkPlaces_13 : decode cX0_shrinkPlaces 13 = .ok (.aload_n 0, 1) := by decide +kernel
theorem dX0_shrinkPlaces_14 : decode cX0_shrinkPlaces 14 = .ok (.iload_n 3, 1) := by decide +kernel
theorem dX0_shrinkPlaces_15 : decode cX0_shrinkPlaces 15 = .ok (.invokevirtual 40, 3) := by decide +kernel
theorem dX0_shrinkPlaces_18 : decode cX0_shrinkPlaces 18 = .ok (.ifCond .eq 35, 3) := by decide +kernel
theorem dX0_shrinkPlaces_21 : decode cX0_shrinkPlaces 21 = .ok (.aload_n 0, 1) := by decide +kernel
theorem dX0_shrinkPlaces_22 : decode cX0_shrinkPlaces 22 = .ok (.getfield 15, 3) := by decide +kernel
theorem dX0_shrinkPlaces_25 : decode cX0_shrinkPlaces 25 = .ok (.iload_n 3, 1) := by decide +kernel
theorem dX0_shrinkPlaces_26 : decode cX0_shrinkPlaces 26 = .ok (.aload_n 0, 1) := by decide +kernel
theorem dX0_shrinkPlaces_27 : decode cX0_shrinkPlaces 27 = .ok (.getfield 15, 3) := by decide +kernel
theorem dX0_shrinkPlaces_30 : decode cX0_shrinkPlaces 30 = .ok (.iload_n 3, 1) := by decide +kernel
theorem dX0_shrinkPlaces_31 : decode cX0_shrinkPlaces 31 = .ok (.iaload, 1) := by decide +kernel
theorem dX0_shrinkPlaces_32 : decode cX0_shrinkPlaces 32 = .ok (.iload_n 2, 1) := by decide +kernel
theorem dX0_shrinkPlaces_33 : decode cX0_shrinkPlaces 33 = .ok (.invokestatic 59, 3) := by decide +kernel
theorem dX0_shrinkPlaces_36 : decode cX0_shrinkPlaces 36 = .ok (.iastore, 1) := by decide +kernel
theorem dX0_shrinkPlaces_37 : decode cX0_shrinkPlaces 37 = .ok (.aload_n 0, 1) := by decide +kernel
theorem dX0_shrinkPlaces_38 : decode cX0_shrinkPlaces 38 = .ok (.getfield 19, 3) := by decide +kernel
theorem dX0_shrinkPlaces_41 : decode cX0_shrinkPlaces 41 = .ok (.iload_n 3, 1) := by decide +kernel
theorem dX0_shrinkPlaces_42 : decode cX0_shrinkPlaces 42 = .ok (.aload_n 0, 1) := by decide +kernel
theorem dX0_shrinkPlaces_43 : decode cX0_shrinkPlaces 43 = .ok (.getfield 19, 3) := by decide +kernel
theorem dX0_shrinkPlaces_46 : decode cX0_shrinkPlaces 46 = .ok (.iload_n 3, 1) := by decide +kernel
theorem dX0_shrinkPlaces_47 : decode cX0_shrinkPlaces 47 = .ok (.iaload, 1) := by decide +kernel
theorem dX0_shrinkPlaces_48 : decode cX0_shrinkPlaces 48 = .ok (.iload_n 2, 1) := by decide +kernel
theorem dX0_shrinkPlaces_49 : decode cX0_shrinkPlaces 49 = .ok (.invokestatic 59, 3) := by decide +kernel
theorem dX0_shrinkPlaces_52 : decode cX0_shrinkPlaces 52 = .ok (.iastore, 1) := by decide +kernel
theorem dX0_shrinkPlaces_53 : decode cX0_shrinkPlaces 53 = .ok (.iinc 3 1, 3) := by decide +kernel
theorem dX0_shrinkPlaces_56 : decode cX0_shrinkPlaces 56 = .ok (.goto (-51), 3) := by decide +kernel
theorem dX0_shrinkPlaces_59 : decode cX0_shrinkPlaces 59 = .ok (.return_, 1) := by decide +kernel
theorem dX0_shrunk_0 : decode cX0_shrunk 0 = .ok (.iload_n 0, 1) := by decide +kernel
theorem dX0_shrunk_1 : decode cX0_shrunk 1 = .ok (.iload_n 1, 1) := by decide +kernel
theorem dX0_shrunk_2 : decode cX0_shrunk 2 = .ok (.imul, 1) := by decide +kernel
theorem dX0_shrunk_3 : decode cX0_shrunk 3 = .ok (.bipush 100, 2) := by decide +kernel
theorem dX0_shrunk_5 : decode cX0_shrunk 5 = .ok (.idiv, 1) := by decide +kernel
theorem dX0_shrunk_6 : decode cX0_shrunk 6 = .ok (.ireturn, 1) := by decide +kernel
theorem dX0_isPlace_0 : decode cX0_isPlace 0 = .ok (.iload_n 0, 1) := by decide +kernel
theorem dX0_isPlace_1 : decode cX0_isPlace 1 = .ok (.sipush 9999, 3) := by decide +kernel
theorem dX0_isPlace_4 : decode cX0_isPlace 4 = .ok (.invokestatic 63, 3) := by decide +kernel
theorem dX0_isPlace_7 : decode cX0_isPlace 7 = .ok (.ifCond .eq 17, 3) := by decide +kernel
theorem dX0_isPlace_10 : decode cX0_isPlace 10 = .ok (.iload_n 1, 1) := by decide +kernel
theorem dX0_isPlace_11 : decode cX0_isPlace 11 = .ok (.sipush 9999, 3) := by decide +kernel
theorem dX0_isPlace_14 : decode cX0_isPlace 14 = .ok (.invokestatic 63, 3) := by decide +kernel
theorem dX0_isPlace_17 : decode cX0_isPlace 17 = .ok (.ifCond .eq 7, 3) := by decide +kernel
theorem dX0_isPlace_20 : decode cX0_isPlace 20 = .ok (.iconst 1, 1) := by decide +kernel
theorem dX0_isPlace_21 : decode cX0_isPlace 21 = .ok (.goto 4, 3) := by decide +kernel
theorem dX0_isPlace_24 : decode cX0_isPlace 24 = .ok (.iconst 0, 1) := by decide +kernel
theorem dX0_isPlace_25 : decode cX0_isPlace 25 = .ok (.ireturn, 1) := by decide +kernel
theorem dX1_init_0 : decode cX1_init 0 = .ok (.aload_n 0, 1) := by decide +kernel
theorem dX1_init_1 : decode cX1_init 1 = .ok (.invokespecial 3, 3) := by decide +kernel
theorem dX1_init_4 : decode cX1_init 4 = .ok (.aload_n 0, 1) := by decide +kernel
theorem dX1_init_5 : decode cX1_init 5 = .ok (.bipush 24, 2) := by decide +kernel
theorem dX1_init_7 : decode cX1_init 7 = .ok (.newarray .int, 2) := by decide +kernel
theorem dX1_init_9 : decode cX1_init 9 = .ok (.putfield 9, 3) := by decide +kernel
theorem dX1_init_12 : decode cX1_init 12 = .ok (.aload_n 0, 1) := by decide +kernel
theorem dX1_init_13 : decode cX1_init 13 = .ok (.bipush 24, 2) := by decide +kernel
theorem dX1_init_15 : decode cX1_init 15 = .ok (.newarray .int, 2) := by decide +kernel
theorem dX1_init_17 : decode cX1_init 17 = .ok (.putfield 15, 3) := by decide +kernel
theorem dX1_init_20 : decode cX1_init 20 = .ok (.aload_n 0, 1) := by decide +kernel
theorem dX1_init_21 : decode cX1_init 21 = .ok (.bipush 24, 2) := by decide +kernel
theorem dX1_init_23 : decode cX1_init 23 = .ok (.newarray .int, 2) := by decide +kernel
theorem dX1_init_25 : decode cX1_init 25 = .ok (.putfield 18, 3) := by decide +kernel
theorem dX1_init_28 : decode cX1_init 28 = .ok (.aload_n 0, 1) := by decide +kernel
theorem dX1_init_29 : decode cX1_init 29 = .ok (.bipush 24, 2) := by decide +kernel
theorem dX1_init_31 : decode cX1_init 31 = .ok (.newarray .int, 2) := by decide +kernel
theorem dX1_init_33 : decode cX1_init 33 = .ok (.putfield 21, 3) := by decide +kernel
theorem dX1_init_36 : decode cX1_init 36 = .ok (.iconst 0, 1) := by decide +kernel
theorem dX1_init_37 : decode cX1_init 37 = .ok (.istore_n 1, 1) := by decide +kernel
theorem dX1_init_38 : decode cX1_init 38 = .ok (.iload_n 1, 1) := by decide +kernel
theorem dX1_init_39 : decode cX1_init 39 = .ok (.bipush 24, 2) := by decide +kernel
theorem dX1_init_41 : decode cX1_init 41 = .ok (.if_icmp .ge 27, 3) := by decide +kernel
theorem dX1_init_44 : decode cX1_init 44 = .ok (.aload_n 0, 1) := by decide +kernel
theorem dX1_init_45 : decode cX1_init 45 = .ok (.getfield 18, 3) := by decide +kernel
theorem dX1_init_48 : decode cX1_init 48 = .ok (.iload_n 1, 1) := by decide +kernel
theorem dX1_init_49 : decode cX1_init 49 = .ok (.iload_n 1, 1) := by decide +kernel
theorem dX1_init_50 : decode cX1_init 50 = .ok (.iconst 1, 1) := by decide +kernel
theorem dX1_init_51 : decode cX1_init 51 = .ok (.iadd, 1) := by decide +kernel
theorem dX1_init_52 : decode cX1_init 52 = .ok (.iastore, 1) := by decide +kernel
theorem dX1_init_53 : decode cX1_init 53 = .ok (.aload_n 0, 1) := by decide +kernel
theorem dX1_init_54 : decode cX1_init 54 = .ok (.getfield 21, 3) := by decide +kernel
theorem dX1_init_57 : decode cX1_init 57 = .ok (.iload_n 1, 1) := by decide +kernel
theorem dX1_init_58 : decode cX1_init 58 = .ok (.sipush 1000, 3) := by decide +kernel
theorem dX1_init_61 : decode cX1_init 61 = .ok (.iastore, 1) := by decide +kernel
theorem dX1_init_62 : decode cX1_init 62 = .ok (.iinc 1 1, 3) := by decide +kernel
theorem dX1_init_65 : decode cX1_init 65 = .ok (.goto (-27), 3) := by decide +kernel
theorem dX1_init_68 : decode cX1_init 68 = .ok (.return_, 1) := by decide +kernel
theorem dX2_init_0 : decode cX2_init 0 = .ok (.aload_n 0, 1) := by decide +kernel
theorem dX2_init_1 : decode cX2_init 1 = .ok (.invokespecial 3, 3) := by decide +kernel
theorem dX2_init_4 : decode cX2_init 4 = .ok (.aload_n 0, 1) := by decide +kernel
theorem dX2_init_5 : decode cX2_init 5 = .ok (.iconst 0, 1) := by decide +kernel
theorem dX2_init_6 : decode cX2_init 6 = .ok (.putfield 9, 3) := by decide +kernel
theorem dX2_init_9 : decode cX2_init 9 = .ok (.aload_n 0, 1) := by decide +kernel
theorem dX2_init_10 : decode cX2_init 10 = .ok (.bipush 100, 2) := by decide +kernel
theorem dX2_init_12 : decode cX2_init 12 = .ok (.newarray .int, 2) := by decide +kernel
theorem dX2_init_14 : decode cX2_init 14 = .ok (.putfield 15, 3) := by decide +kernel
theorem dX2_init_17 : decode cX2_init 17 = .ok (.iconst 0, 1) := by decide +kernel
theorem dX2_init_18 : decode cX2_init 18 = .ok (.istore_n 1, 1) := by decide +kernel
theorem dX2_init_19 : decode cX2_init 19 = .ok (.iload_n 1, 1) := by decide +kernel
theorem dX2_init_20 : decode cX2_init 20 = .ok (.bipush 99, 2) := by decide +kernel
theorem dX2_init_22 : decode cX2_init 22 = .ok (.if_icmp .gt 16, 3) := by decide +kernel
theorem dX2_init_25 : decode cX2_init 25 = .ok (.aload_n 0, 1) := by decide +kernel
theorem dX2_init_26 : decode cX2_init 26 = .ok (.getfield 15, 3) := by decide +kernel
theorem dX2_init_29 : decode cX2_init 29 = .ok (.iload_n 1, 1) := by decide +kernel
theorem dX2_init_30 : decode cX2_init 30 = .ok (.iload_n 1, 1) := by decide +kernel
theorem dX2_init_31 : decode cX2_init 31 = .ok (.iastore, 1) := by decide +kernel
theorem dX2_init_32 : decode cX2_init 32 = .ok (.iinc 1 1, 3) := by decide +kernel
theorem dX2_init_35 : decode cX2_init 35 = .ok (.goto (-16), 3) := by decide +kernel
theorem dX2_init_38 : decode cX2_init 38 = .ok (.return_, 1) := by decide +kernel
theorem dX2_readingOf_0 : decode cX2_readingOf 0 = .ok (.iload_n 1, 1) := by decide +kernel
theorem dX2_readingOf_1 : decode cX2_readingOf 1 = .ok (.invokestatic 19, 3) := by decide +kernel
theorem dX2_readingOf_4 : decode cX2_readingOf 4 = .ok (.ifCond .eq 12, 3) := by decide +kernel
theorem dX2_readingOf_7 : decode cX2_readingOf 7 = .ok (.aload_n 0, 1) := by decide +kernel
theorem dX2_readingOf_8 : decode cX2_readingOf 8 = .ok (.getfield 15, 3) := by decide +kernel
theorem dX2_readingOf_11 : decode cX2_readingOf 11 = .ok (.iload_n 1, 1) := by decide +kernel
theorem dX2_readingOf_12 : decode cX2_readingOf 12 = .ok (.iaload, 1) := by decide +kernel
theorem dX2_readingOf_13 : decode cX2_readingOf 13 = .ok (.goto 4, 3) := by decide +kernel
theorem dX2_readingOf_16 : decode cX2_readingOf 16 = .ok (.iload_n 1, 1) := by decide +kernel
theorem dX2_readingOf_17 : decode cX2_readingOf 17 = .ok (.ireturn, 1) := by decide +kernel
theorem dX3_init_0 : decode cX3_init 0 = .ok (.aload_n 0, 1) := by decide +kernel
theorem dX3_init_1 : decode cX3_init 1 = .ok (.invokespecial 3, 3) := by decide +kernel
theorem dX3_init_4 : decode cX3_init 4 = .ok (.aload_n 0, 1) := by decide +kernel
theorem dX3_init_5 : decode cX3_init 5 = .ok (.bipush 20, 2) := by decide +kernel
theorem dX3_init_7 : decode cX3_init 7 = .ok (.newarray .int, 2) := by decide +kernel
theorem dX3_init_9 : decode cX3_init 9 = .ok (.putfield 9, 3) := by decide +kernel
theorem dX3_init_12 : decode cX3_init 12 = .ok (.aload_n 0, 1) := by decide +kernel
theorem dX3_init_13 : decode cX3_init 13 = .ok (.bipush 20, 2) := by decide +kernel
theorem dX3_init_15 : decode cX3_init 15 = .ok (.newarray .int, 2) := by decide +kernel
theorem dX3_init_17 : decode cX3_init 17 = .ok (.putfield 15, 3) := by decide +kernel
theorem dX3_init_20 : decode cX3_init 20 = .ok (.aload_n 0, 1) := by decide +kernel
theorem dX3_init_21 : decode cX3_init 21 = .ok (.bipush 20, 2) := by decide +kernel
theorem dX3_init_23 : decode cX3_init 23 = .ok (.newarray .int, 2) := by decide +kernel
theorem dX3_init_25 : decode cX3_init 25 = .ok (.putfield 18, 3) := by decide +kernel
theorem dX3_init_28 : decode cX3_init 28 = .ok (.aload_n 0, 1) := by decide +kernel
theorem dX3_init_29 : decode cX3_init 29 = .ok (.iconst 0, 1) := by decide +kernel
theorem dX3_init_30 : decode cX3_init 30 = .ok (.putfield 21, 3) := by decide +kernel
theorem dX3_init_33 : decode cX3_init 33 = .ok (.return_, 1) := by decide +kernel
theorem dX4_init_0 : decode cX4_init 0 = .ok (.aload_n 0, 1) := by decide +kernel
theorem dX4_init_1 : decode cX4_init 1 = .ok (.invokespecial 3, 3) := by decide +kernel
theorem dX4_init_4 : decode cX4_init 4 = .ok (.aload_n 0, 1) := by decide +kernel
theorem dX4_init_5 : decode cX4_init 5 = .ok (.bipush 60, 2) := by decide +kernel
theorem dX4_init_7 : decode cX4_init 7 = .ok (.newarray .int, 2) := by decide +kernel
theorem dX4_init_9 : decode cX4_init 9 = .ok (.putfield 9, 3) := by decide +kernel
theorem dX4_init_12 : decode cX4_init 12 = .ok (.aload_n 0, 1) := by decide +kernel
theorem dX4_init_13 : decode cX4_init 13 = .ok (.bipush 60, 2) := by decide +kernel
theorem dX4_init_15 : decode cX4_init 15 = .ok (.newarray .int, 2) := by decide +kernel
theorem dX4_init_17 : decode cX4_init 17 = .ok (.putfield 15, 3) := by decide +kernel
theorem dX4_init_20 : decode cX4_init 20 = .ok (.aload_n 0, 1) := by decide +kernel
theorem dX4_init_21 : decode cX4_init 21 = .ok (.bipush 60, 2) := by decide +kernel
theorem dX4_init_23 : decode cX4_init 23 = .ok (.newarray .int, 2) := by decide +kernel
theorem dX4_init_25 : decode cX4_init 25 = .ok (.putfield 18, 3) := by decide +kernel
theorem dX4_init_28 : decode cX4_init 28 = .ok (.aload_n 0, 1) := by decide +kernel
theorem dX4_init_29 : decode cX4_init 29 = .ok (.bipush 60, 2) := by decide +kernel
theorem dX4_init_31 : decode cX4_init 31 = .ok (.newarray .int, 2) := by decide +kernel
theorem dX4_init_33 : decode cX4_init 33 = .ok (.putfield 21, 3) := by decide +kernel
theorem dX4_init_36 : decode cX4_init 36 = .ok (.aload_n 0, 1) := by decide +kernel
theorem dX4_init_37 : decode cX4_init 37 = .ok (.iconst 0, 1) := by decide +kernel
theorem dX4_init_38 : decode cX4_init 38 = .ok (.putfield 24, 3) := by decide +kernel
theorem dX4_init_41 : decode cX4_init 41 = .ok (.return_, 1) := by decide +kernel
theorem dX5_init_0 : decode cX5_init 0 = .ok (.aload_n 0, 1) := by decide +kernel
theorem dX5_init_1 : decode cX5_init 1 = .ok (.invokespecial 3, 3) := by decide +kernel
theorem dX5_init_4 : decode cX5_init 4 = .ok (.aload_n 0, 1) := by decide +kernel
theorem dX5_init_5 : decode cX5_init 5 = .ok (.bipush 6, 2) := by decide +kernel
theorem dX5_init_7 : decode cX5_init 7 = .ok (.newarray .int, 2) := by decide +kernel
theorem dX5_init_9 : decode cX5_init 9 = .ok (.putfield 9, 3) := by decide +kernel
theorem dX5_init_12 : decode cX5_init 12 = .ok (.aload_n 0, 1) := by decide +kernel
theorem dX5_init_13 : decode cX5_init 13 = .ok (.bipush 6, 2) := by decide +kernel
theorem dX5_init_15 : decode cX5_init 15 = .ok (.newarray .int, 2) := by decide +kernel
theorem dX5_init_17 : decode cX5_init 17 = .ok (.putfield 15, 3) := by decide +kernel
theorem dX5_init_20 : decode cX5_init 20 = .ok (.aload_n 0, 1) := by decide +kernel
theorem dX5_init_21 : decode cX5_init 21 = .ok (.iconst 0, 1) := by decide +kernel
theorem dX5_init_22 : decode cX5_init 22 = .ok (.putfield 18, 3) := by decide +kernel
theorem dX5_init_25 : decode cX5_init 25 = .ok (.return_, 1) := by decide +kernel
theorem dX6_init_0 : decode cX6_init 0 = .ok (.aload_n 0, 1) := by decide +kernel
theorem dX6_init_1 : decode cX6_init 1 = .ok (.invokespecial 3, 3) := by decide +kernel
theorem dX6_init_4 : decode cX6_init 4 = .ok (.aload_n 0, 1) := by decide +kernel
theorem dX6_init_5 : decode cX6_init 5 = .ok (.bipush 24, 2) := by decide +kernel
theorem dX6_init_7 : decode cX6_init 7 = .ok (.newarray .int, 2) := by decide +kernel
theorem dX6_init_9 : decode cX6_init 9 = .ok (.putfield 9, 3) := by decide +kernel
theorem dX6_init_12 : decode cX6_init 12 = .ok (.aload_n 0, 1) := by decide +kernel
theorem dX6_init_13 : decode cX6_init 13 = .ok (.bipush 24, 2) := by decide +kernel
theorem dX6_init_15 : decode cX6_init 15 = .ok (.newarray .int, 2) := by decide +kernel
theorem dX6_init_17 : decode cX6_init 17 = .ok (.putfield 15, 3) := by decide +kernel
theorem dX6_init_20 : decode cX6_init 20 = .ok (.aload_n 0, 1) := by decide +kernel
theorem dX6_init_21 : decode cX6_init 21 = .ok (.bipush 24, 2) := by decide +kernel
theorem dX6_init_23 : decode cX6_init 23 = .ok (.newarray .int, 2) := by decide +kernel
theorem dX6_init_25 : decode cX6_init 25 = .ok (.putfield 18, 3) := by decide +kernel
theorem dX6_init_28 : decode cX6_init 28 = .ok (.return_, 1) := by decide +kernel
theorem dX6_begin_0 : decode cX6_begin 0 = .ok (.iconst 0, 1) := by decide +kernel
theorem dX6_begin_1 : decode cX6_begin 1 = .ok (.istore_n 1, 1) := by decide +kernel
theorem dX6_begin_2 : decode cX6_begin 2 = .ok (.iload_n 1, 1) := by decide +kernel
theorem dX6_begin_3 : decode cX6_begin 3 = .ok (.bipush 24, 2) := by decide +kernel
theorem dX6_begin_5 : decode cX6_begin 5 = .ok (.if_icmp .ge 30, 3) := by decide +kernel
theorem dX6_begin_8 : decode cX6_begin 8 = .ok (.aload_n 0, 1) := by decide +kernel
theorem dX6_begin_9 : decode cX6_begin 9 = .ok (.getfield 9, 3) := by decide +kernel
theorem dX6_begin_12 : decode cX6_begin 12 = .ok (.iload_n 1, 1) := by decide +kernel
theorem dX6_begin_13 : decode cX6_begin 13 = .ok (.iconst 0, 1) := by decide +kernel
theorem dX6_begin_14 : decode cX6_begin 14 = .ok (.iastore, 1) := by decide +kernel
theorem dX6_begin_15 : decode cX6_begin 15 = .ok (.aload_n 0, 1) := by decide +kernel
theorem dX6_begin_16 : decode cX6_begin 16 = .ok (.getfield 15, 3) := by decide +kernel
theorem dX6_begin_19 : decode cX6_begin 19 = .ok (.iload_n 1, 1) := by decide +kernel
theorem dX6_begin_20 : decode cX6_begin 20 = .ok (.iconst 0, 1) := by decide +kernel
theorem dX6_begin_21 : decode cX6_begin 21 = .ok (.iastore, 1) := by decide +kernel
theorem dX6_begin_22 : decode cX6_begin 22 = .ok (.aload_n 0, 1) := by decide +kernel
theorem dX6_begin_23 : decode cX6_begin 23 = .ok (.getfield 18, 3) := by decide +kernel
theorem dX6_begin_26 : decode cX6_begin 26 = .ok (.iload_n 1, 1) := by decide +kernel
theorem dX6_begin_27 : decode cX6_begin 27 = .ok (.iconst 0, 1) := by decide +kernel
theorem dX6_begin_28 : decode cX6_begin 28 = .ok (.iastore, 1) := by decide +kernel
theorem dX6_begin_29 : decode cX6_begin 29 = .ok (.iinc 1 1, 3) := by decide +kernel
theorem dX6_begin_32 : decode cX6_begin 32 = .ok (.goto (-30), 3) := by decide +kernel
theorem dX6_begin_35 : decode cX6_begin 35 = .ok (.return_, 1) := by decide +kernel
theorem dX6_give_0 : decode cX6_give 0 = .ok (.aload_n 0, 1) := by decide +kernel
theorem dX6_give_1 : decode cX6_give 1 = .ok (.getfield 9, 3) := by decide +kernel
theorem dX6_give_4 : decode cX6_give 4 = .ok (.iload_n 1, 1) := by decide +kernel
theorem dX6_give_5 : decode cX6_give 5 = .ok (.dup2, 1) := by decide +kernel
theorem dX6_give_6 : decode cX6_give 6 = .ok (.iaload, 1) := by decide +kernel
theorem dX6_give_7 : decode cX6_give 7 = .ok (.iload_n 2, 1) := by decide +kernel
theorem dX6_give_8 : decode cX6_give 8 = .ok (.iadd, 1) := by decide +kernel
theorem dX6_give_9 : decode cX6_give 9 = .ok (.iastore, 1) := by decide +kernel
theorem dX6_give_10 : decode cX6_give 10 = .ok (.aload_n 0, 1) := by decide +kernel
theorem dX6_give_11 : decode cX6_give 11 = .ok (.getfield 15, 3) := by decide +kernel
theorem dX6_give_14 : decode cX6_give 14 = .ok (.iload_n 1, 1) := by decide +kernel
theorem dX6_give_15 : decode cX6_give 15 = .ok (.dup2, 1) := by decide +kernel
theorem dX6_give_16 : decode cX6_give 16 = .ok (.iaload, 1) := by decide +kernel
theorem dX6_give_17 : decode cX6_give 17 = .ok (.iload_n 3, 1) := by decide +kernel
theorem dX6_give_18 : decode cX6_give 18 = .ok (.iadd, 1) := by decide +kernel
theorem dX6_give_19 : decode cX6_give 19 = .ok (.iastore, 1) := by decide +kernel
theorem dX6_give_20 : decode cX6_give 20 = .ok (.aload_n 0, 1) := by decide +kernel
theorem dX6_give_21 : decode cX6_give 21 = .ok (.getfield 18, 3) := by decide +kernel
theorem dX6_give_24 : decode cX6_give 24 = .ok (.iload_n 1, 1) := by decide +kernel
theorem dX6_give_25 : decode cX6_give 25 = .ok (.dup2, 1) := by decide +kernel
theorem dX6_give_26 : decode cX6_give 26 = .ok (.iaload, 1) := by decide +kernel
theorem dX6_give_27 : decode cX6_give 27 = .ok (.iconst 1, 1) := by decide +kernel
theorem dX6_give_28 : decode cX6_give 28 = .ok (.iadd, 1) := by decide +kernel
theorem dX6_give_29 : decode cX6_give 29 = .ok (.iastore, 1) := by decide +kernel
theorem dX6_give_30 : decode cX6_give 30 = .ok (.return_, 1) := by decide +kernel
theorem dX6_settle_0 : decode cX6_settle 0 = .ok (.iconst 0, 1) := by decide +kernel
theorem dX6_settle_1 : decode cX6_settle 1 = .ok (.istore_n 2, 1) := by decide +kernel
theorem dX6_settle_2 : decode cX6_settle 2 = .ok (.iconst 0, 1) := by decide +kernel
theorem dX6_settle_3 : decode cX6_settle 3 = .ok (.istore_n 3, 1) := by decide +kernel
theorem dX6_settle_4 : decode cX6_settle 4 = .ok (.iload_n 3, 1) := by decide +kernel
theorem dX6_settle_5 : decode cX6_settle 5 = .ok (.bipush 24, 2) := by decide +kernel
theorem dX6_settle_7 : decode cX6_settle 7 = .ok (.if_icmp .ge 48, 3) := by decide +kernel
theorem dX6_settle_10 : decode cX6_settle 10 = .ok (.aload_n 0, 1) := by decide +kernel
theorem dX6_settle_11 : decode cX6_settle 11 = .ok (.getfield 18, 3) := by decide +kernel
theorem dX6_settle_14 : decode cX6_settle 14 = .ok (.iload_n 3, 1) := by decide +kernel
theorem dX6_settle_15 : decode cX6_settle 15 = .ok (.iaload, 1) := by decide +kernel
theorem dX6_settle_16 : decode cX6_settle 16 = .ok (.istore 4, 2) := by decide +kernel
theorem dX6_settle_18 : decode cX6_settle 18 = .ok (.iload 4, 2) := by decide +kernel
theorem dX6_settle_20 : decode cX6_settle 20 = .ok (.ifCond .le 29, 3) := by decide +kernel
theorem dX6_settle_23 : decode cX6_settle 23 = .ok (.aload_n 1, 1) := by decide +kernel
theorem dX6_settle_24 : decode cX6_settle 24 = .ok (.iload_n 3, 1) := by decide +kernel
theorem dX6_settle_25 : decode cX6_settle 25 = .ok (.aload_n 0, 1) := by decide +kernel
theorem dX6_settle_26 : decode cX6_settle 26 = .ok (.getfield 9, 3) := by decide +kernel
theorem dX6_settle_29 : decode cX6_settle 29 = .ok (.iload_n 3, 1) := by decide +kernel
theorem dX6_settle_30 : decode cX6_settle 30 = .ok (.iaload, 1) := by decide +kernel
theorem dX6_settle_31 : decode cX6_settle 31 = .ok (.iload 4, 2) := by decide +kernel
theorem dX6_settle_33 : decode cX6_settle 33 = .ok (.idiv, 1) := by decide +kernel
theorem dX6_settle_34 : decode cX6_settle 34 = .ok (.aload_n 0, 1) := by decide +kernel
theorem dX6_settle_35 : decode cX6_settle 35 = .ok (.getfield 15, 3) := by decide +kernel
theorem dX6_settle_38 : decode cX6_settle 38 = .ok (.iload_n 3, 1) := by decide +kernel
theorem dX6_settle_39 : decode cX6_settle 39 = .ok (.iaload, 1) := by decide +kernel
theorem dX6_settle_40 : decode cX6_settle 40 = .ok (.iload 4, 2) := by decide +kernel
theorem dX6_settle_42 : decode cX6_settle 42 = .ok (.idiv, 1) := by decide +kernel
theorem dX6_settle_43 : decode cX6_settle 43 = .ok (.iconst (-1), 1) := by decide +kernel
theorem dX6_settle_44 : decode cX6_settle 44 = .ok (.invokevirtual 21, 3) := by decide +kernel
theorem dX6_settle_47 : decode cX6_settle 47 = .ok (.iconst 1, 1) := by decide +kernel
theorem dX6_settle_48 : decode cX6_settle 48 = .ok (.istore_n 2, 1) := by decide +kernel
theorem dX6_settle_49 : decode cX6_settle 49 = .ok (.iinc 3 1, 3) := by decide +kernel
theorem dX6_settle_52 : decode cX6_settle 52 = .ok (.goto (-48), 3) := by decide +kernel
theorem dX6_settle_55 : decode cX6_settle 55 = .ok (.iload_n 2, 1) := by decide +kernel
theorem dX6_settle_56 : decode cX6_settle 56 = .ok (.ireturn, 1) := by decide +kernel
theorem dX7_init_0 : decode cX7_init 0 = .ok (.aload_n 0, 1) := by decide +kernel
theorem dX7_init_1 : decode cX7_init 1 = .ok (.invokespecial 1, 3) := by decide +kernel
theorem dX7_init_4 : decode cX7_init 4 = .ok (.aload_n 0, 1) := by decide +kernel
theorem dX7_init_5 : decode cX7_init 5 = .ok (.new 7, 3) := by decide +kernel
theorem dX7_init_8 : decode cX7_init 8 = .ok (.dup, 1) := by decide +kernel
theorem dX7_init_9 : decode cX7_init 9 = .ok (.invokespecial 9, 3) := by decide +kernel
theorem dX7_init_12 : decode cX7_init 12 = .ok (.putfield 10, 3) := by decide +kernel
theorem dX7_init_15 : decode cX7_init 15 = .ok (.aload_n 0, 1) := by decide +kernel
theorem dX7_init_16 : decode cX7_init 16 = .ok (.new 16, 3) := by decide +kernel
theorem dX7_init_19 : decode cX7_init 19 = .ok (.dup, 1) := by decide +kernel
theorem dX7_init_20 : decode cX7_init 20 = .ok (.invokespecial 18, 3) := by decide +kernel
theorem dX7_init_23 : decode cX7_init 23 = .ok (.putfield 19, 3) := by decide +kernel
theorem dX7_init_26 : decode cX7_init 26 = .ok (.aload_n 0, 1) := by decide +kernel
theorem dX7_init_27 : decode cX7_init 27 = .ok (.new 23, 3) := by decide +kernel
theorem dX7_init_30 : decode cX7_init 30 = .ok (.dup, 1) := by decide +kernel
theorem dX7_init_31 : decode cX7_init 31 = .ok (.invokespecial 25, 3) := by decide +kernel
theorem dX7_init_34 : decode cX7_init 34 = .ok (.putfield 26, 3) := by decide +kernel
theorem dX7_init_37 : decode cX7_init 37 = .ok (.aload_n 0, 1) := by decide +kernel
theorem dX7_init_38 : decode cX7_init 38 = .ok (.new 30, 3) := by decide +kernel
theorem dX7_init_41 : decode cX7_init 41 = .ok (.dup, 1) := by decide +kernel
theorem dX7_init_42 : decode cX7_init 42 = .ok (.invokespecial 32, 3) := by decide +kernel
theorem dX7_init_45 : decode cX7_init 45 = .ok (.putfield 33, 3) := by decide +kernel
theorem dX7_init_48 : decode cX7_init 48 = .ok (.aload_n 0, 1) := by decide +kernel
theorem dX7_init_49 : decode cX7_init 49 = .ok (.iconst 4, 1) := by decide +kernel
theorem dX7_init_50 : decode cX7_init 50 = .ok (.anewarray 37, 3) := by decide +kernel
theorem dX7_init_53 : decode cX7_init 53 = .ok (.putfield 39, 3) := by decide +kernel
theorem dX7_init_56 : decode cX7_init 56 = .ok (.aload_n 0, 1) := by decide +kernel
theorem dX7_init_57 : decode cX7_init 57 = .ok (.bipush 12, 2) := by decide +kernel
theorem dX7_init_59 : decode cX7_init 59 = .ok (.anewarray 43, 3) := by decide +kernel
theorem dX7_init_62 : decode cX7_init 62 = .ok (.putfield 45, 3) := by decide +kernel
theorem dX7_init_65 : decode cX7_init 65 = .ok (.aload_n 0, 1) := by decide +kernel
theorem dX7_init_66 : decode cX7_init 66 = .ok (.new 49, 3) := by decide +kernel
theorem dX7_init_69 : decode cX7_init 69 = .ok (.dup, 1) := by decide +kernel
theorem dX7_init_70 : decode cX7_init 70 = .ok (.invokespecial 51, 3) := by decide +kernel
theorem dX7_init_73 : decode cX7_init 73 = .ok (.putfield 52, 3) := by decide +kernel
theorem dX7_init_76 : decode cX7_init 76 = .ok (.aload_n 0, 1) := by decide +kernel
theorem dX7_init_77 : decode cX7_init 77 = .ok (.iconst 0, 1) := by decide +kernel
theorem dX7_init_78 : decode cX7_init 78 = .ok (.putfield 56, 3) := by decide +kernel
theorem dX7_init_81 : decode cX7_init 81 = .ok (.iconst 0, 1) := by decide +kernel
theorem dX7_init_82 : decode cX7_init 82 = .ok (.istore_n 1, 1) := by decide +kernel
theorem dX7_init_83 : decode cX7_init 83 = .ok (.iload_n 1, 1) := by decide +kernel
theorem dX7_init_84 : decode cX7_init 84 = .ok (.iconst 4, 1) := by decide +kernel
theorem dX7_init_85 : decode cX7_init 85 = .ok (.if_icmp .ge 22, 3) := by decide +kernel
theorem dX7_init_88 : decode cX7_init 88 = .ok (.aload_n 0, 1) := by decide +kernel
theorem dX7_init_89 : decode cX7_init 89 = .ok (.getfield 39, 3) := by decide +kernel
theorem dX7_init_92 : decode cX7_init 92 = .ok (.iload_n 1, 1) := by decide +kernel
theorem dX7_init_93 : decode cX7_init 93 = .ok (.new 37, 3) := by decide +kernel
theorem dX7_init_96 : decode cX7_init 96 = .ok (.dup, 1) := by decide +kernel
theorem dX7_init_97 : decode cX7_init 97 = .ok (.invokespecial 60, 3) := by decide +kernel
theorem dX7_init_100 : decode cX7_init 100 = .ok (.aastore, 1) := by decide +kernel
theorem dX7_init_101 : decode cX7_init 101 = .ok (.iinc 1 1, 3) := by decide +kernel
theorem dX7_init_104 : decode cX7_init 104 = .ok (.goto (-21), 3) := by decide +kernel
theorem dX7_init_107 : decode cX7_init 107 = .ok (.iconst 0, 1) := by decide +kernel
theorem dX7_init_108 : decode cX7_init 108 = .ok (.istore_n 1, 1) := by decide +kernel
theorem dX7_init_109 : decode cX7_init 109 = .ok (.iload_n 1, 1) := by decide +kernel
theorem dX7_init_110 : decode cX7_init 110 = .ok (.bipush 12, 2) := by decide +kernel
theorem dX7_init_112 : decode cX7_init 112 = .ok (.if_icmp .ge 22, 3) := by decide +kernel
theorem dX7_init_115 : decode cX7_init 115 = .ok (.aload_n 0, 1) := by decide +kernel
theorem dX7_init_116 : decode cX7_init 116 = .ok (.getfield 45, 3) := by decide +kernel
theorem dX7_init_119 : decode cX7_init 119 = .ok (.iload_n 1, 1) := by decide +kernel
theorem dX7_init_120 : decode cX7_init 120 = .ok (.new 43, 3) := by decide +kernel
theorem dX7_init_123 : decode cX7_init 123 = .ok (.dup, 1) := by decide +kernel
theorem dX7_init_124 : decode cX7_init 124 = .ok (.invokespecial 61, 3) := by decide +kernel
theorem dX7_init_127 : decode cX7_init 127 = .ok (.aastore, 1) := by decide +kernel
theorem dX7_init_128 : decode cX7_init 128 = .ok (.iinc 1 1, 3) := by decide +kernel
theorem dX7_init_131 : decode cX7_init 131 = .ok (.goto (-22), 3) := by decide +kernel
theorem dX7_init_134 : decode cX7_init 134 = .ok (.return_, 1) := by decide +kernel
theorem dX7_coast_0 : decode cX7_coast 0 = .ok (.iload_n 1, 1) := by decide +kernel
theorem dX7_coast_1 : decode cX7_coast 1 = .ok (.invokestatic 62, 3) := by decide +kernel
theorem dX7_coast_4 : decode cX7_coast 4 = .ok (.iload_n 2, 1) := by decide +kernel
theorem dX7_coast_5 : decode cX7_coast 5 = .ok (.sipush 500, 3) := by decide +kernel
theorem dX7_coast_8 : decode cX7_coast 8 = .ok (.invokestatic 66, 3) := by decide +kernel
theorem dX7_coast_11 : decode cX7_coast 11 = .ok (.ifCond .eq 29, 3) := by decide +kernel
theorem dX7_coast_14 : decode cX7_coast 14 = .ok (.iload_n 3, 1) := by decide +kernel
theorem dX7_coast_15 : decode cX7_coast 15 = .ok (.sipush 500, 3) := by decide +kernel
theorem dX7_coast_18 : decode cX7_coast 18 = .ok (.invokestatic 66, 3) := by decide +kernel
theorem dX7_coast_21 : decode cX7_coast 21 = .ok (.ifCond .eq 19, 3) := by decide +kernel
theorem dX7_coast_24 : decode cX7_coast 24 = .ok (.iload 4, 2) := by decide +kernel
theorem dX7_coast_26 : decode cX7_coast 26 = .ok (.invokestatic 70, 3) := by decide +kernel
theorem dX7_coast_29 : decode cX7_coast 29 = .ok (.ifCond .eq 11, 3) := by decide +kernel
theorem dX7_coast_32 : decode cX7_coast 32 = .ok (.iload 5, 2) := by decide +kernel
theorem dX7_coast_34 : decode cX7_coast 34 = .ok (.invokestatic 74, 3) := by decide +kernel
theorem dX7_coast_37 : decode cX7_coast 37 = .ok (.ifCond .ne 13, 3) := by decide +kernel
theorem dX7_coast_40 : decode cX7_coast 40 = .ok (.new 77, 3) := by decide +kernel
theorem dX7_coast_43 : decode cX7_coast 43 = .ok (.dup, 1) := by decide +kernel
theorem dX7_coast_44 : decode cX7_coast 44 = .ok (.ldc 79, 2) := by decide +kernel
theorem dX7_coast_46 : decode cX7_coast 46 = .ok (.invokespecial 81, 3) := by decide +kernel
theorem dX7_coast_49 : decode cX7_coast 49 = .ok (.athrow, 1) := by decide +kernel
theorem dX7_coast_50 : decode cX7_coast 50 = .ok (.aload_n 0, 1) := by decide +kernel
theorem dX7_coast_51 : decode cX7_coast 51 = .ok (.getfield 26, 3) := by decide +kernel
theorem dX7_coast_54 : decode cX7_coast 54 = .ok (.getfield 84, 3) := by decide +kernel
theorem dX7_coast_57 : decode cX7_coast 57 = .ok (.ifCond .le 13, 3) := by decide +kernel
theorem dX7_coast_60 : decode cX7_coast 60 = .ok (.new 87, 3) := by decide +kernel
theorem dX7_coast_63 : decode cX7_coast 63 = .ok (.dup, 1) := by decide +kernel
theorem dX7_coast_64 : decode cX7_coast 64 = .ok (.ldc 89, 2) := by decide +kernel
theorem dX7_coast_66 : decode cX7_coast 66 = .ok (.invokespecial 91, 3) := by decide +kernel
theorem dX7_coast_69 : decode cX7_coast 69 = .ok (.athrow, 1) := by decide +kernel
theorem dX7_coast_70 : decode cX7_coast 70 = .ok (.aload_n 0, 1) := by decide +kernel
theorem dX7_coast_71 : decode cX7_coast 71 = .ok (.getfield 10, 3) := by decide +kernel
theorem dX7_coast_74 : decode cX7_coast 74 = .ok (.getfield 92, 3) := by decide +kernel
theorem dX7_coast_77 : decode cX7_coast 77 = .ok (.iload_n 1, 1) := by decide +kernel
theorem dX7_coast_78 : decode cX7_coast 78 = .ok (.iload_n 2, 1) := by decide +kernel
theorem dX7_coast_79 : decode cX7_coast 79 = .ok (.iastore, 1) := by decide +kernel
theorem dX7_coast_80 : decode cX7_coast 80 = .ok (.aload_n 0, 1) := by decide +kernel
theorem dX7_coast_81 : decode cX7_coast 81 = .ok (.getfield 10, 3) := by decide +kernel
theorem dX7_coast_84 : decode cX7_coast 84 = .ok (.getfield 96, 3) := by decide +kernel
theorem dX7_coast_87 : decode cX7_coast 87 = .ok (.iload_n 1, 1) := by decide +kernel
theorem dX7_coast_88 : decode cX7_coast 88 = .ok (.iload_n 3, 1) := by decide +kernel
theorem dX7_coast_89 : decode cX7_coast 89 = .ok (.iastore, 1) := by decide +kernel
theorem dX7_coast_90 : decode cX7_coast 90 = .ok (.aload_n 0, 1) := by decide +kernel
theorem dX7_coast_91 : decode cX7_coast 91 = .ok (.getfield 10, 3) := by decide +kernel
theorem dX7_coast_94 : decode cX7_coast 94 = .ok (.getfield 99, 3) := by decide +kernel
theorem dX7_coast_97 : decode cX7_coast 97 = .ok (.iload_n 1, 1) := by decide +kernel
theorem dX7_coast_98 : decode cX7_coast 98 = .ok (.iload 4, 2) := by decide +kernel
theorem dX7_coast_100 : decode cX7_coast 100 = .ok (.iastore, 1) := by decide +kernel
theorem dX7_coast_101 : decode cX7_coast 101 = .ok (.aload_n 0, 1) := by decide +kernel
theorem dX7_coast_102 : decode cX7_coast 102 = .ok (.getfield 10, 3) := by decide +kernel
theorem dX7_coast_105 : decode cX7_coast 105 = .ok (.getfield 102, 3) := by decide +kernel
theorem dX7_coast_108 : decode cX7_coast 108 = .ok (.iload_n 1, 1) := by decide +kernel
theorem dX7_coast_109 : decode cX7_coast 109 = .ok (.iload 5, 2) := by decide +kernel
theorem dX7_coast_111 : decode cX7_coast 111 = .ok (.iastore, 1) := by decide +kernel
theorem dX7_coast_112 : decode cX7_coast 112 = .ok (.return_, 1) := by decide +kernel
theorem dX7_pilot_0 : decode cX7_pilot 0 = .ok (.iload_n 1, 1) := by decide +kernel
theorem dX7_pilot_1 : decode cX7_pilot 1 = .ok (.bipush 30, 2) := by decide +kernel
theorem dX7_pilot_3 : decode cX7_pilot 3 = .ok (.invokestatic 66, 3) := by decide +kernel
theorem dX7_pilot_6 : decode cX7_pilot 6 = .ok (.ifCond .eq 12, 3) := by decide +kernel
theorem dX7_pilot_9 : decode cX7_pilot 9 = .ok (.iload_n 2, 1) := by decide +kernel
theorem dX7_pilot_10 : decode cX7_pilot 10 = .ok (.bipush 30, 2) := by decide +kernel
theorem dX7_pilot_12 : decode cX7_pilot 12 = .ok (.invokestatic 66, 3) := by decide +kernel
theorem dX7_pilot_15 : decode cX7_pilot 15 = .ok (.ifCond .ne 13, 3) := by decide +kernel
theorem dX7_pilot_18 : decode cX7_pilot 18 = .ok (.new 77, 3) := by decide +kernel
theorem dX7_pilot_21 : decode cX7_pilot 21 = .ok (.dup, 1) := by decide +kernel
theorem dX7_pilot_22 : decode cX7_pilot 22 = .ok (.ldc 105, 2) := by decide +kernel
theorem dX7_pilot_24 : decode cX7_pilot 24 = .ok (.invokespecial 81, 3) := by decide +kernel
theorem dX7_pilot_27 : decode cX7_pilot 27 = .ok (.athrow, 1) := by decide +kernel
theorem dX7_pilot_28 : decode cX7_pilot 28 = .ok (.aload_n 0, 1) := by decide +kernel
theorem dX7_pilot_29 : decode cX7_pilot 29 = .ok (.getfield 19, 3) := by decide +kernel
theorem dX7_pilot_32 : decode cX7_pilot 32 = .ok (.getfield 107, 3) := by decide +kernel
theorem dX7_pilot_35 : decode cX7_pilot 35 = .ok (.bipush 6, 2) := by decide +kernel
theorem dX7_pilot_37 : decode cX7_pilot 37 = .ok (.if_icmp .lt 13, 3) := by decide +kernel
theorem dX7_pilot_40 : decode cX7_pilot 40 = .ok (.new 87, 3) := by decide +kernel
theorem dX7_pilot_43 : decode cX7_pilot 43 = .ok (.dup, 1) := by decide +kernel
theorem dX7_pilot_44 : decode cX7_pilot 44 = .ok (.ldc 108, 2) := by decide +kernel
theorem dX7_pilot_46 : decode cX7_pilot 46 = .ok (.invokespecial 91, 3) := by decide +kernel
theorem dX7_pilot_49 : decode cX7_pilot 49 = .ok (.athrow, 1) := by decide +kernel
theorem dX7_pilot_50 : decode cX7_pilot 50 = .ok (.aload_n 0, 1) := by decide +kernel
theorem dX7_pilot_51 : decode cX7_pilot 51 = .ok (.getfield 19, 3) := by decide +kernel
theorem dX7_pilot_54 : decode cX7_pilot 54 = .ok (.getfield 107, 3) := by decide +kernel
theorem dX7_pilot_57 : decode cX7_pilot 57 = .ok (.istore_n 3, 1) := by decide +kernel
theorem dX7_pilot_58 : decode cX7_pilot 58 = .ok (.aload_n 0, 1) := by decide +kernel
theorem dX7_pilot_59 : decode cX7_pilot 59 = .ok (.getfield 19, 3) := by decide +kernel
theorem dX7_pilot_62 : decode cX7_pilot 62 = .ok (.getfield 110, 3) := by decide +kernel
theorem dX7_pilot_65 : decode cX7_pilot 65 = .ok (.iload_n 3, 1) := by decide +kernel
theorem dX7_pilot_66 : decode cX7_pilot 66 = .ok (.iload_n 1, 1) := by decide +kernel
theorem dX7_pilot_67 : decode cX7_pilot 67 = .ok (.iastore, 1) := by decide +kernel
theorem dX7_pilot_68 : decode cX7_pilot 68 = .ok (.aload_n 0, 1) := by decide +kernel
theorem dX7_pilot_69 : decode cX7_pilot 69 = .ok (.getfield 19, 3) := by decide +kernel
theorem dX7_pilot_72 : decode cX7_pilot 72 = .ok (.getfield 113, 3) := by decide +kernel
theorem dX7_pilot_75 : decode cX7_pilot 75 = .ok (.iload_n 3, 1) := by decide +kernel
theorem dX7_pilot_76 : decode cX7_pilot 76 = .ok (.iload_n 2, 1) := by decide +kernel
theorem dX7_pilot_77 : decode cX7_pilot 77 = .ok (.iastore, 1) := by decide +kernel
theorem dX7_pilot_78 : decode cX7_pilot 78 = .ok (.aload_n 0, 1) := by decide +kernel
theorem dX7_pilot_79 : decode cX7_pilot 79 = .ok (.getfield 19, 3) := by decide +kernel
theorem dX7_pilot_82 : decode cX7_pilot 82 = .ok (.iload_n 3, 1) := by decide +kernel
theorem dX7_pilot_83 : decode cX7_pilot 83 = .ok (.iconst 1, 1) := by decide +kernel
theorem dX7_pilot_84 : decode cX7_pilot 84 = .ok (.iadd, 1) := by decide +kernel
theorem dX7_pilot_85 : decode cX7_pilot 85 = .ok (.putfield 107, 3) := by decide +kernel
theorem dX7_pilot_88 : decode cX7_pilot 88 = .ok (.iload_n 3, 1) := by decide +kernel
theorem dX7_pilot_89 : decode cX7_pilot 89 = .ok (.ireturn, 1) := by decide +kernel
theorem dX7_report_0 : decode cX7_report 0 = .ok (.iload_n 1, 1) := by decide +kernel
theorem dX7_report_1 : decode cX7_report 1 = .ok (.ifCond .lt 14, 3) := by decide +kernel
theorem dX7_report_4 : decode cX7_report 4 = .ok (.iload_n 1, 1) := by decide +kernel
theorem dX7_report_5 : decode cX7_report 5 = .ok (.aload_n 0, 1) := by decide +kernel
theorem dX7_report_6 : decode cX7_report 6 = .ok (.getfield 19, 3) := by decide +kernel
theorem dX7_report_9 : decode cX7_report 9 = .ok (.getfield 107, 3) := by decide +kernel
theorem dX7_report_12 : decode cX7_report 12 = .ok (.if_icmp .lt 13, 3) := by decide +kernel
theorem dX7_report_15 : decode cX7_report 15 = .ok (.new 116, 3) := by decide +kernel
theorem dX7_report_18 : decode cX7_report 18 = .ok (.dup, 1) := by decide +kernel
theorem dX7_report_19 : decode cX7_report 19 = .ok (.ldc 118, 2) := by decide +kernel
theorem dX7_report_21 : decode cX7_report 21 = .ok (.invokespecial 120, 3) := by decide +kernel
theorem dX7_report_24 : decode cX7_report 24 = .ok (.athrow, 1) := by decide +kernel
theorem dX7_report_25 : decode cX7_report 25 = .ok (.iload_n 2, 1) := by decide +kernel
theorem dX7_report_26 : decode cX7_report 26 = .ok (.invokestatic 62, 3) := by decide +kernel
theorem dX7_report_29 : decode cX7_report 29 = .ok (.iload_n 3, 1) := by decide +kernel
theorem dX7_report_30 : decode cX7_report 30 = .ok (.invokestatic 62, 3) := by decide +kernel
theorem dX7_report_33 : decode cX7_report 33 = .ok (.iload_n 2, 1) := by decide +kernel
theorem dX7_report_34 : decode cX7_report 34 = .ok (.iload_n 3, 1) := by decide +kernel
theorem dX7_report_35 : decode cX7_report 35 = .ok (.if_icmp .ne 13, 3) := by decide +kernel
theorem dX7_report_38 : decode cX7_report 38 = .ok (.new 77, 3) := by decide +kernel
theorem dX7_report_41 : decode cX7_report 41 = .ok (.dup, 1) := by decide +kernel
theorem dX7_report_42 : decode cX7_report 42 = .ok (.ldc 121, 2) := by decide +kernel
theorem dX7_report_44 : decode cX7_report 44 = .ok (.invokespecial 81, 3) := by decide +kernel
theorem dX7_report_47 : decode cX7_report 47 = .ok (.athrow, 1) := by decide +kernel
theorem dX7_report_48 : decode cX7_report 48 = .ok (.aload_n 0, 1) := by decide +kernel
theorem dX7_report_49 : decode cX7_report 49 = .ok (.getfield 26, 3) := by decide +kernel
theorem dX7_report_52 : decode cX7_report 52 = .ok (.getfield 84, 3) := by decide +kernel
theorem dX7_report_55 : decode cX7_report 55 = .ok (.bipush 60, 2) := by decide +kernel
theorem dX7_report_57 : decode cX7_report 57 = .ok (.if_icmp .lt 13, 3) := by decide +kernel
theorem dX7_report_60 : decode cX7_report 60 = .ok (.new 87, 3) := by decide +kernel
theorem dX7_report_63 : decode cX7_report 63 = .ok (.dup, 1) := by decide +kernel
theorem dX7_report_64 : decode cX7_report 64 = .ok (.ldc 123, 2) := by decide +kernel
theorem dX7_report_66 : decode cX7_report 66 = .ok (.invokespecial 91, 3) := by decide +kernel
theorem dX7_report_69 : decode cX7_report 69 = .ok (.athrow, 1) := by decide +kernel
theorem dX7_report_70 : decode cX7_report 70 = .ok (.aload_n 0, 1) := by decide +kernel
theorem dX7_report_71 : decode cX7_report 71 = .ok (.getfield 10, 3) := by decide +kernel
theorem dX7_report_74 : decode cX7_report 74 = .ok (.getfield 92, 3) := by decide +kernel
theorem dX7_report_77 : decode cX7_report 77 = .ok (.iload_n 3, 1) := by decide +kernel
theorem dX7_report_78 : decode cX7_report 78 = .ok (.iaload, 1) := by decide +kernel
theorem dX7_report_79 : decode cX7_report 79 = .ok (.aload_n 0, 1) := by decide +kernel
theorem dX7_report_80 : decode cX7_report 80 = .ok (.getfield 10, 3) := by decide +kernel
theorem dX7_report_83 : decode cX7_report 83 = .ok (.getfield 92, 3) := by decide +kernel
theorem dX7_report_86 : decode cX7_report 86 = .ok (.iload_n 2, 1) := by decide +kernel
theorem dX7_report_87 : decode cX7_report 87 = .ok (.iaload, 1) := by decide +kernel
theorem dX7_report_88 : decode cX7_report 88 = .ok (.isub, 1) := by decide +kernel
theorem dX7_report_89 : decode cX7_report 89 = .ok (.istore 4, 2) := by decide +kernel
theorem dX7_report_91 : decode cX7_report 91 = .ok (.aload_n 0, 1) := by decide +kernel
theorem dX7_report_92 : decode cX7_report 92 = .ok (.getfield 10, 3) := by decide +kernel
theorem dX7_report_95 : decode cX7_report 95 = .ok (.getfield 96, 3) := by decide +kernel
theorem dX7_report_98 : decode cX7_report 98 = .ok (.iload_n 3, 1) := by decide +kernel
theorem dX7_report_99 : decode cX7_report 99 = .ok (.iaload, 1) := by decide +kernel
theorem dX7_report_100 : decode cX7_report 100 = .ok (.aload_n 0, 1) := by decide +kernel
theorem dX7_report_101 : decode cX7_report 101 = .ok (.getfield 10, 3) := by decide +kernel
theorem dX7_report_104 : decode cX7_report 104 = .ok (.getfield 96, 3) := by decide +kernel
theorem dX7_report_107 : decode cX7_report 107 = .ok (.iload_n 2, 1) := by decide +kernel
theorem dX7_report_108 : decode cX7_report 108 = .ok (.iaload, 1) := by decide +kernel
theorem dX7_report_109 : decode cX7_report 109 = .ok (.isub, 1) := by decide +kernel
theorem dX7_report_110 : decode cX7_report 110 = .ok (.istore 5, 2) := by decide +kernel
theorem dX7_report_112 : decode cX7_report 112 = .ok (.iload 4, 2) := by decide +kernel
theorem dX7_report_114 : decode cX7_report 114 = .ok (.iload 5, 2) := by decide +kernel
theorem dX7_report_116 : decode cX7_report 116 = .ok (.aload_n 0, 1) := by decide +kernel
theorem dX7_report_117 : decode cX7_report 117 = .ok (.getfield 19, 3) := by decide +kernel
theorem dX7_report_120 : decode cX7_report 120 = .ok (.getfield 110, 3) := by decide +kernel
theorem dX7_report_123 : decode cX7_report 123 = .ok (.iload_n 1, 1) := by decide +kernel
theorem dX7_report_124 : decode cX7_report 124 = .ok (.iaload, 1) := by decide +kernel
theorem dX7_report_125 : decode cX7_report 125 = .ok (.imul, 1) := by decide +kernel
theorem dX7_report_126 : decode cX7_report 126 = .ok (.bipush 100, 2) := by decide +kernel
theorem dX7_report_128 : decode cX7_report 128 = .ok (.idiv, 1) := by decide +kernel
theorem dX7_report_129 : decode cX7_report 129 = .ok (.isub, 1) := by decide +kernel
theorem dX7_report_130 : decode cX7_report 130 = .ok (.istore 6, 2) := by decide +kernel
theorem dX7_report_132 : decode cX7_report 132 = .ok (.iload 5, 2) := by decide +kernel
theorem dX7_report_134 : decode cX7_report 134 = .ok (.iload 4, 2) := by decide +kernel
theorem dX7_report_136 : decode cX7_report 136 = .ok (.aload_n 0, 1) := by decide +kernel
theorem dX7_report_137 : decode cX7_report 137 = .ok (.getfield 19, 3) := by decide +kernel
theorem dX7_report_140 : decode cX7_report 140 = .ok (.getfield 110, 3) := by decide +kernel
theorem dX7_report_143 : decode cX7_report 143 = .ok (.iload_n 1, 1) := by decide +kernel
theorem dX7_report_144 : decode cX7_report 144 = .ok (.iaload, 1) := by decide +kernel
theorem dX7_report_145 : decode cX7_report 145 = .ok (.imul, 1) := by decide +kernel
theorem dX7_report_146 : decode cX7_report 146 = .ok (.bipush 100, 2) := by decide +kernel
theorem dX7_report_148 : decode cX7_report 148 = .ok (.idiv, 1) := by decide +kernel
theorem dX7_report_149 : decode cX7_report 149 = .ok (.iadd, 1) := by decide +kernel
theorem dX7_report_150 : decode cX7_report 150 = .ok (.istore 7, 2) := by decide +kernel
theorem dX7_report_152 : decode cX7_report 152 = .ok (.aload_n 0, 1) := by decide +kernel
theorem dX7_report_153 : decode cX7_report 153 = .ok (.getfield 26, 3) := by decide +kernel
theorem dX7_report_156 : decode cX7_report 156 = .ok (.getfield 84, 3) := by decide +kernel
theorem dX7_report_159 : decode cX7_report 159 = .ok (.istore 8, 2) := by decide +kernel
theorem dX7_report_161 : decode cX7_report 161 = .ok (.aload_n 0, 1) := by decide +kernel
theorem dX7_report_162 : decode cX7_report 162 = .ok (.getfield 26, 3) := by decide +kernel
theorem dX7_report_165 : decode cX7_report 165 = .ok (.getfield 125, 3) := by decide +kernel
theorem dX7_report_168 : decode cX7_report 168 = .ok (.iload 8, 2) := by decide +kernel
theorem dX7_report_170 : decode cX7_report 170 = .ok (.iload_n 2, 1) := by decide +kernel
theorem dX7_report_171 : decode cX7_report 171 = .ok (.iastore, 1) := by decide +kernel
theorem dX7_report_172 : decode cX7_report 172 = .ok (.aload_n 0, 1) := by decide +kernel
theorem dX7_report_173 : decode cX7_report 173 = .ok (.getfield 26, 3) := by decide +kernel
theorem dX7_report_176 : decode cX7_report 176 = .ok (.getfield 128, 3) := by decide +kernel
theorem dX7_report_179 : decode cX7_report 179 = .ok (.iload 8, 2) := by decide +kernel
theorem dX7_report_181 : decode cX7_report 181 = .ok (.iload_n 3, 1) := by decide +kernel
theorem dX7_report_182 : decode cX7_report 182 = .ok (.iastore, 1) := by decide +kernel
theorem dX7_report_183 : decode cX7_report 183 = .ok (.aload_n 0, 1) := by decide +kernel
theorem dX7_report_184 : decode cX7_report 184 = .ok (.getfield 26, 3) := by decide +kernel
theorem dX7_report_187 : decode cX7_report 187 = .ok (.getfield 131, 3) := by decide +kernel
theorem dX7_report_190 : decode cX7_report 190 = .ok (.iload 8, 2) := by decide +kernel
theorem dX7_report_192 : decode cX7_report 192 = .ok (.iload 6, 2) := by decide +kernel
theorem dX7_report_194 : decode cX7_report 194 = .ok (.iload 6, 2) := by decide +kernel
theorem dX7_report_196 : decode cX7_report 196 = .ok (.aload_n 0, 1) := by decide +kernel
theorem dX7_report_197 : decode cX7_report 197 = .ok (.getfield 19, 3) := by decide +kernel
theorem dX7_report_200 : decode cX7_report 200 = .ok (.getfield 113, 3) := by decide +kernel
theorem dX7_report_203 : decode cX7_report 203 = .ok (.iload_n 1, 1) := by decide +kernel
theorem dX7_report_204 : decode cX7_report 204 = .ok (.iaload, 1) := by decide +kernel
theorem dX7_report_205 : decode cX7_report 205 = .ok (.imul, 1) := by decide +kernel
theorem dX7_report_206 : decode cX7_report 206 = .ok (.bipush 100, 2) := by decide +kernel
theorem dX7_report_208 : decode cX7_report 208 = .ok (.idiv, 1) := by decide +kernel
theorem dX7_report_209 : decode cX7_report 209 = .ok (.iadd, 1) := by decide +kernel
theorem dX7_report_210 : decode cX7_report 210 = .ok (.iastore, 1) := by decide +kernel
theorem dX7_report_211 : decode cX7_report 211 = .ok (.aload_n 0, 1) := by decide +kernel
theorem dX7_report_212 : decode cX7_report 212 = .ok (.getfield 26, 3) := by decide +kernel
theorem dX7_report_215 : decode cX7_report 215 = .ok (.getfield 132, 3) := by decide +kernel
theorem dX7_report_218 : decode cX7_report 218 = .ok (.iload 8, 2) := by decide +kernel
theorem dX7_report_220 : decode cX7_report 220 = .ok (.iload 7, 2) := by decide +kernel
theorem dX7_report_222 : decode cX7_report 222 = .ok (.iload 7, 2) := by decide +kernel
theorem dX7_report_224 : decode cX7_report 224 = .ok (.aload_n 0, 1) := by decide +kernel
theorem dX7_report_225 : decode cX7_report 225 = .ok (.getfield 19, 3) := by decide +kernel
theorem dX7_report_228 : decode cX7_report 228 = .ok (.getfield 113, 3) := by decide +kernel
theorem dX7_report_231 : decode cX7_report 231 = .ok (.iload_n 1, 1) := by decide +kernel
theorem dX7_report_232 : decode cX7_report 232 = .ok (.iaload, 1) := by decide +kernel
theorem dX7_report_233 : decode cX7_report 233 = .ok (.imul, 1) := by decide +kernel
theorem dX7_report_234 : decode cX7_report 234 = .ok (.bipush 100, 2) := by decide +kernel
theorem dX7_report_236 : decode cX7_report 236 = .ok (.idiv, 1) := by decide +kernel
theorem dX7_report_237 : decode cX7_report 237 = .ok (.iadd, 1) := by decide +kernel
theorem dX7_report_238 : decode cX7_report 238 = .ok (.iastore, 1) := by decide +kernel
theorem dX7_report_239 : decode cX7_report 239 = .ok (.aload_n 0, 1) := by decide +kernel
theorem dX7_report_240 : decode cX7_report 240 = .ok (.getfield 26, 3) := by decide +kernel
theorem dX7_report_243 : decode cX7_report 243 = .ok (.iload 8, 2) := by decide +kernel
theorem dX7_report_245 : decode cX7_report 245 = .ok (.iconst 1, 1) := by decide +kernel
theorem dX7_report_246 : decode cX7_report 246 = .ok (.iadd, 1) := by decide +kernel
theorem dX7_report_247 : decode cX7_report 247 = .ok (.putfield 84, 3) := by decide +kernel
theorem dX7_report_250 : decode cX7_report 250 = .ok (.iload 8, 2) := by decide +kernel
theorem dX7_report_252 : decode cX7_report 252 = .ok (.ireturn, 1) := by decide +kernel
theorem dX7_chart_0 : decode cX7_chart 0 = .ok (.iload_n 1, 1) := by decide +kernel
theorem dX7_chart_1 : decode cX7_chart 1 = .ok (.iconst 1, 1) := by decide +kernel
theorem dX7_chart_2 : decode cX7_chart 2 = .ok (.if_icmp .lt 21, 3) := by decide +kernel
theorem dX7_chart_5 : decode cX7_chart 5 = .ok (.iload_n 1, 1) := by decide +kernel
theorem dX7_chart_6 : decode cX7_chart 6 = .ok (.aload_n 0, 1) := by decide +kernel
theorem dX7_chart_7 : decode cX7_chart 7 = .ok (.getfield 26, 3) := by decide +kernel
theorem dX7_chart_10 : decode cX7_chart 10 = .ok (.getfield 84, 3) := by decide +kernel
theorem dX7_chart_13 : decode cX7_chart 13 = .ok (.if_icmp .gt 10, 3) := by decide +kernel
theorem dX7_chart_16 : decode cX7_chart 16 = .ok (.iload_n 2, 1) := by decide +kernel
theorem dX7_chart_17 : decode cX7_chart 17 = .ok (.invokestatic 74, 3) := by decide +kernel
theorem dX7_chart_20 : decode cX7_chart 20 = .ok (.ifCond .ne 13, 3) := by decide +kernel
theorem dX7_chart_23 : decode cX7_chart 23 = .ok (.new 77, 3) := by decide +kernel
theorem dX7_chart_26 : decode cX7_chart 26 = .ok (.dup, 1) := by decide +kernel
theorem dX7_chart_27 : decode cX7_chart 27 = .ok (.ldc 133, 2) := by decide +kernel
theorem dX7_chart_29 : decode cX7_chart 29 = .ok (.invokespecial 81, 3) := by decide +kernel
theorem dX7_chart_32 : decode cX7_chart 32 = .ok (.athrow, 1) := by decide +kernel
theorem dX7_chart_33 : decode cX7_chart 33 = .ok (.aload_n 0, 1) := by decide +kernel
theorem dX7_chart_34 : decode cX7_chart 34 = .ok (.invokevirtual 135, 3) := by decide +kernel
theorem dX7_chart_37 : decode cX7_chart 37 = .ok (.aload_n 0, 1) := by decide +kernel
theorem dX7_chart_38 : decode cX7_chart 38 = .ok (.getfield 56, 3) := by decide +kernel
theorem dX7_chart_41 : decode cX7_chart 41 = .ok (.istore_n 3, 1) := by decide +kernel
theorem dX7_chart_42 : decode cX7_chart 42 = .ok (.aload_n 0, 1) := by decide +kernel
theorem dX7_chart_43 : decode cX7_chart 43 = .ok (.getfield 45, 3) := by decide +kernel
theorem dX7_chart_46 : decode cX7_chart 46 = .ok (.iload_n 3, 1) := by decide +kernel
theorem dX7_chart_47 : decode cX7_chart 47 = .ok (.aaload, 1) := by decide +kernel
theorem dX7_chart_48 : decode cX7_chart 48 = .ok (.astore 4, 2) := by decide +kernel
theorem dX7_chart_50 : decode cX7_chart 50 = .ok (.aload 4, 2) := by decide +kernel
theorem dX7_chart_52 : decode cX7_chart 52 = .ok (.iload_n 2, 1) := by decide +kernel
theorem dX7_chart_53 : decode cX7_chart 53 = .ok (.putfield 138, 3) := by decide +kernel
theorem dX7_chart_56 : decode cX7_chart 56 = .ok (.iconst 0, 1) := by decide +kernel
theorem dX7_chart_57 : decode cX7_chart 57 = .ok (.istore 5, 2) := by decide +kernel
theorem dX7_chart_59 : decode cX7_chart 59 = .ok (.iload 5, 2) := by decide +kernel
theorem dX7_chart_61 : decode cX7_chart 61 = .ok (.bipush 24, 2) := by decide +kernel
theorem dX7_chart_63 : decode cX7_chart 63 = .ok (.if_icmp .ge 34, 3) := by decide +kernel
theorem dX7_chart_66 : decode cX7_chart 66 = .ok (.aload 4, 2) := by decide +kernel
theorem dX7_chart_68 : decode cX7_chart 68 = .ok (.iload 5, 2) := by decide +kernel
theorem dX7_chart_70 : decode cX7_chart 70 = .ok (.invokevirtual 140, 3) := by decide +kernel
theorem dX7_chart_73 : decode cX7_chart 73 = .ok (.aload 4, 2) := by decide +kernel
theorem dX7_chart_75 : decode cX7_chart 75 = .ok (.getfield 143, 3) := by decide +kernel
theorem dX7_chart_78 : decode cX7_chart 78 = .ok (.iload 5, 2) := by decide +kernel
theorem dX7_chart_80 : decode cX7_chart 80 = .ok (.aload_n 0, 1) := by decide +kernel
theorem dX7_chart_81 : decode cX7_chart 81 = .ok (.getfield 10, 3) := by decide +kernel
theorem dX7_chart_84 : decode cX7_chart 84 = .ok (.getfield 99, 3) := by decide +kernel
theorem dX7_chart_87 : decode cX7_chart 87 = .ok (.iload 5, 2) := by decide +kernel
theorem dX7_chart_89 : decode cX7_chart 89 = .ok (.iaload, 1) := by decide +kernel
theorem dX7_chart_90 : decode cX7_chart 90 = .ok (.iastore, 1) := by decide +kernel
theorem dX7_chart_91 : decode cX7_chart 91 = .ok (.iinc 5 1, 3) := by decide +kernel
theorem dX7_chart_94 : decode cX7_chart 94 = .ok (.goto (-35), 3) := by decide +kernel
theorem dX7_chart_97 : decode cX7_chart 97 = .ok (.iconst 0, 1) := by decide +kernel
theorem dX7_chart_98 : decode cX7_chart 98 = .ok (.istore 5, 2) := by decide +kernel
theorem dX7_chart_100 : decode cX7_chart 100 = .ok (.iload 5, 2) := by decide +kernel
theorem dX7_chart_102 : decode cX7_chart 102 = .ok (.iconst 3, 1) := by decide +kernel
theorem dX7_chart_103 : decode cX7_chart 103 = .ok (.if_icmp .ge 19, 3) := by decide +kernel
theorem dX7_chart_106 : decode cX7_chart 106 = .ok (.aload 4, 2) := by decide +kernel
theorem dX7_chart_108 : decode cX7_chart 108 = .ok (.getfield 144, 3) := by decide +kernel
theorem dX7_chart_111 : decode cX7_chart 111 = .ok (.iload 5, 2) := by decide +kernel
theorem dX7_chart_113 : decode cX7_chart 113 = .ok (.bipush 100, 2) := by decide +kernel
theorem dX7_chart_115 : decode cX7_chart 115 = .ok (.iastore, 1) := by decide +kernel
theorem dX7_chart_116 : decode cX7_chart 116 = .ok (.iinc 5 1, 3) := by decide +kernel
theorem dX7_chart_119 : decode cX7_chart 119 = .ok (.goto (-19), 3) := by decide +kernel
theorem dX7_chart_122 : decode cX7_chart 122 = .ok (.aload 4, 2) := by decide +kernel
theorem dX7_chart_124 : decode cX7_chart 124 = .ok (.iconst 0, 1) := by decide +kernel
theorem dX7_chart_125 : decode cX7_chart 125 = .ok (.aload_n 0, 1) := by decide +kernel
theorem dX7_chart_126 : decode cX7_chart 126 = .ok (.getfield 10, 3) := by decide +kernel
theorem dX7_chart_129 : decode cX7_chart 129 = .ok (.getfield 92, 3) := by decide +kernel
theorem dX7_chart_132 : decode cX7_chart 132 = .ok (.iconst 0, 1) := by decide +kernel
theorem dX7_chart_133 : decode cX7_chart 133 = .ok (.iaload, 1) := by decide +kernel
theorem dX7_chart_134 : decode cX7_chart 134 = .ok (.aload_n 0, 1) := by decide +kernel
theorem dX7_chart_135 : decode cX7_chart 135 = .ok (.getfield 10, 3) := by decide +kernel
theorem dX7_chart_138 : decode cX7_chart 138 = .ok (.getfield 96, 3) := by decide +kernel
theorem dX7_chart_141 : decode cX7_chart 141 = .ok (.iconst 0, 1) := by decide +kernel
theorem dX7_chart_142 : decode cX7_chart 142 = .ok (.iaload, 1) := by decide +kernel
theorem dX7_chart_143 : decode cX7_chart 143 = .ok (.iconst (-1), 1) := by decide +kernel
theorem dX7_chart_144 : decode cX7_chart 144 = .ok (.invokevirtual 147, 3) := by decide +kernel
theorem dX7_chart_147 : decode cX7_chart 147 = .ok (.aload_n 0, 1) := by decide +kernel
theorem dX7_chart_148 : decode cX7_chart 148 = .ok (.aload 4, 2) := by decide +kernel
theorem dX7_chart_150 : decode cX7_chart 150 = .ok (.iload_n 1, 1) := by decide +kernel
theorem dX7_chart_151 : decode cX7_chart 151 = .ok (.invokevirtual 151, 3) := by decide +kernel
theorem dX7_chart_154 : decode cX7_chart 154 = .ok (.aload_n 0, 1) := by decide +kernel
theorem dX7_chart_155 : decode cX7_chart 155 = .ok (.iload_n 3, 1) := by decide +kernel
theorem dX7_chart_156 : decode cX7_chart 156 = .ok (.iconst 1, 1) := by decide +kernel
theorem dX7_chart_157 : decode cX7_chart 157 = .ok (.iadd, 1) := by decide +kernel
theorem dX7_chart_158 : decode cX7_chart 158 = .ok (.putfield 56, 3) := by decide +kernel
theorem dX7_chart_161 : decode cX7_chart 161 = .ok (.iload_n 3, 1) := by decide +kernel
theorem dX7_chart_162 : decode cX7_chart 162 = .ok (.ireturn, 1) := by decide +kernel
theorem dX7_hand_0 : decode cX7_hand 0 = .ok (.aload_n 0, 1) := by decide +kernel
theorem dX7_hand_1 : decode cX7_hand 1 = .ok (.iload_n 1, 1) := by decide +kernel
theorem dX7_hand_2 : decode cX7_hand 2 = .ok (.invokevirtual 155, 3) := by decide +kernel
theorem dX7_hand_5 : decode cX7_hand 5 = .ok (.astore_n 3, 1) := by decide +kernel
theorem dX7_hand_6 : decode cX7_hand 6 = .ok (.iload_n 2, 1) := by decide +kernel
theorem dX7_hand_7 : decode cX7_hand 7 = .ok (.bipush 9, 2) := by decide +kernel
theorem dX7_hand_9 : decode cX7_hand 9 = .ok (.invokestatic 66, 3) := by decide +kernel
theorem dX7_hand_12 : decode cX7_hand 12 = .ok (.ifCond .ne 13, 3) := by decide +kernel
theorem dX7_hand_15 : decode cX7_hand 15 = .ok (.new 77, 3) := by decide +kernel
theorem dX7_hand_18 : decode cX7_hand 18 = .ok (.dup, 1) := by decide +kernel
theorem dX7_hand_19 : decode cX7_hand 19 = .ok (.ldc 159, 2) := by decide +kernel
theorem dX7_hand_21 : decode cX7_hand 21 = .ok (.invokespecial 81, 3) := by decide +kernel
theorem dX7_hand_24 : decode cX7_hand 24 = .ok (.athrow, 1) := by decide +kernel
theorem dX7_hand_25 : decode cX7_hand 25 = .ok (.aload_n 3, 1) := by decide +kernel
theorem dX7_hand_26 : decode cX7_hand 26 = .ok (.getfield 161, 3) := by decide +kernel
theorem dX7_hand_29 : decode cX7_hand 29 = .ok (.istore 4, 2) := by decide +kernel
theorem dX7_hand_31 : decode cX7_hand 31 = .ok (.aload_n 3, 1) := by decide +kernel
theorem dX7_hand_32 : decode cX7_hand 32 = .ok (.iload_n 2, 1) := by decide +kernel
theorem dX7_hand_33 : decode cX7_hand 33 = .ok (.putfield 161, 3) := by decide +kernel
theorem dX7_hand_36 : decode cX7_hand 36 = .ok (.iload 4, 2) := by decide +kernel
theorem dX7_hand_38 : decode cX7_hand 38 = .ok (.ireturn, 1) := by decide +kernel
theorem dX7_reads_0 : decode cX7_reads 0 = .ok (.aload_n 0, 1) := by decide +kernel
theorem dX7_reads_1 : decode cX7_reads 1 = .ok (.iload_n 1, 1) := by decide +kernel
theorem dX7_reads_2 : decode cX7_reads 2 = .ok (.invokevirtual 155, 3) := by decide +kernel
theorem dX7_reads_5 : decode cX7_reads 5 = .ok (.astore 4, 2) := by decide +kernel
theorem dX7_reads_7 : decode cX7_reads 7 = .ok (.iload_n 2, 1) := by decide +kernel
theorem dX7_reads_8 : decode cX7_reads 8 = .ok (.invokestatic 70, 3) := by decide +kernel
theorem dX7_reads_11 : decode cX7_reads 11 = .ok (.ifCond .eq 10, 3) := by decide +kernel
theorem dX7_reads_14 : decode cX7_reads 14 = .ok (.iload_n 3, 1) := by decide +kernel
theorem dX7_reads_15 : decode cX7_reads 15 = .ok (.invokestatic 70, 3) := by decide +kernel
theorem dX7_reads_18 : decode cX7_reads 18 = .ok (.ifCond .ne 13, 3) := by decide +kernel
theorem dX7_reads_21 : decode cX7_reads 21 = .ok (.new 77, 3) := by decide +kernel
theorem dX7_reads_24 : decode cX7_reads 24 = .ok (.dup, 1) := by decide +kernel
theorem dX7_reads_25 : decode cX7_reads 25 = .ok (.ldc 164, 2) := by decide +kernel
theorem dX7_reads_27 : decode cX7_reads 27 = .ok (.invokespecial 81, 3) := by decide +kernel
theorem dX7_reads_30 : decode cX7_reads 30 = .ok (.athrow, 1) := by decide +kernel
theorem dX7_reads_31 : decode cX7_reads 31 = .ok (.aload 4, 2) := by decide +kernel
theorem dX7_reads_33 : decode cX7_reads 33 = .ok (.getfield 166, 3) := by decide +kernel
theorem dX7_reads_36 : decode cX7_reads 36 = .ok (.iload_n 2, 1) := by decide +kernel
theorem dX7_reads_37 : decode cX7_reads 37 = .ok (.iload_n 3, 1) := by decide +kernel
theorem dX7_reads_38 : decode cX7_reads 38 = .ok (.iastore, 1) := by decide +kernel
theorem dX7_reads_39 : decode cX7_reads 39 = .ok (.return_, 1) := by decide +kernel
theorem dX7_copy_0 : decode cX7_copy 0 = .ok (.aload_n 0, 1) := by decide +kernel
theorem dX7_copy_1 : decode cX7_copy 1 = .ok (.iload_n 1, 1) := by decide +kernel
theorem dX7_copy_2 : decode cX7_copy 2 = .ok (.invokevirtual 169, 3) := by decide +kernel
theorem dX7_copy_5 : decode cX7_copy 5 = .ok (.astore 5, 2) := by decide +kernel
theorem dX7_copy_7 : decode cX7_copy 7 = .ok (.aload_n 0, 1) := by decide +kernel
theorem dX7_copy_8 : decode cX7_copy 8 = .ok (.iload_n 2, 1) := by decide +kernel
theorem dX7_copy_9 : decode cX7_copy 9 = .ok (.invokevirtual 155, 3) := by decide +kernel
theorem dX7_copy_12 : decode cX7_copy 12 = .ok (.astore 6, 2) := by decide +kernel
theorem dX7_copy_14 : decode cX7_copy 14 = .ok (.iload_n 3, 1) := by decide +kernel
theorem dX7_copy_15 : decode cX7_copy 15 = .ok (.ifCond .lt 26, 3) := by decide +kernel
theorem dX7_copy_18 : decode cX7_copy 18 = .ok (.iload_n 3, 1) := by decide +kernel
theorem dX7_copy_19 : decode cX7_copy 19 = .ok (.iconst 2, 1) := by decide +kernel
theorem dX7_copy_20 : decode cX7_copy 20 = .ok (.if_icmp .gt 21, 3) := by decide +kernel
theorem dX7_copy_23 : decode cX7_copy 23 = .ok (.iload 4, 2) := by decide +kernel
theorem dX7_copy_25 : decode cX7_copy 25 = .ok (.invokestatic 74, 3) := by decide +kernel
theorem dX7_copy_28 : decode cX7_copy 28 = .ok (.ifCond .eq 13, 3) := by decide +kernel
theorem dX7_copy_31 : decode cX7_copy 31 = .ok (.iload 4, 2) := by decide +kernel
theorem dX7_copy_33 : decode cX7_copy 33 = .ok (.aload 5, 2) := by decide +kernel
theorem dX7_copy_35 : decode cX7_copy 35 = .ok (.getfield 138, 3) := by decide +kernel
theorem dX7_copy_38 : decode cX7_copy 38 = .ok (.if_icmp .ge 13, 3) := by decide +kernel
theorem dX7_copy_41 : decode cX7_copy 41 = .ok (.new 77, 3) := by decide +kernel
theorem dX7_copy_44 : decode cX7_copy 44 = .ok (.dup, 1) := by decide +kernel
theorem dX7_copy_45 : decode cX7_copy 45 = .ok (.ldc 173, 2) := by decide +kernel
theorem dX7_copy_47 : decode cX7_copy 47 = .ok (.invokespecial 81, 3) := by decide +kernel
theorem dX7_copy_50 : decode cX7_copy 50 = .ok (.athrow, 1) := by decide +kernel
theorem dX7_copy_51 : decode cX7_copy 51 = .ok (.aload_n 0, 1) := by decide +kernel
theorem dX7_copy_52 : decode cX7_copy 52 = .ok (.invokevirtual 135, 3) := by decide +kernel
theorem dX7_copy_55 : decode cX7_copy 55 = .ok (.aload_n 0, 1) := by decide +kernel
theorem dX7_copy_56 : decode cX7_copy 56 = .ok (.getfield 56, 3) := by decide +kernel
theorem dX7_copy_59 : decode cX7_copy 59 = .ok (.istore 7, 2) := by decide +kernel
theorem dX7_copy_61 : decode cX7_copy 61 = .ok (.aload_n 0, 1) := by decide +kernel
theorem dX7_copy_62 : decode cX7_copy 62 = .ok (.getfield 45, 3) := by decide +kernel
theorem dX7_copy_65 : decode cX7_copy 65 = .ok (.iload 7, 2) := by decide +kernel
theorem dX7_copy_67 : decode cX7_copy 67 = .ok (.aaload, 1) := by decide +kernel
theorem dX7_copy_68 : decode cX7_copy 68 = .ok (.astore 8, 2) := by decide +kernel
theorem dX7_copy_70 : decode cX7_copy 70 = .ok (.aload 8, 2) := by decide +kernel
theorem dX7_copy_72 : decode cX7_copy 72 = .ok (.iload 4, 2) := by decide +kernel
theorem dX7_copy_74 : decode cX7_copy 74 = .ok (.putfield 138, 3) := by decide +kernel
theorem dX7_copy_77 : decode cX7_copy 77 = .ok (.iconst 0, 1) := by decide +kernel
theorem dX7_copy_78 : decode cX7_copy 78 = .ok (.istore 9, 2) := by decide +kernel
theorem dX7_copy_80 : decode cX7_copy 80 = .ok (.iload 9, 2) := by decide +kernel
theorem dX7_copy_82 : decode cX7_copy 82 = .ok (.bipush 24, 2) := by decide +kernel
theorem dX7_copy_84 : decode cX7_copy 84 = .ok (.if_icmp .ge 101, 3) := by decide +kernel
theorem dX7_copy_87 : decode cX7_copy 87 = .ok (.aload 8, 2) := by decide +kernel
theorem dX7_copy_89 : decode cX7_copy 89 = .ok (.getfield 143, 3) := by decide +kernel
theorem dX7_copy_92 : decode cX7_copy 92 = .ok (.iload 9, 2) := by decide +kernel
theorem dX7_copy_94 : decode cX7_copy 94 = .ok (.aload 6, 2) := by decide +kernel
theorem dX7_copy_96 : decode cX7_copy 96 = .ok (.aload 5, 2) := by decide +kernel
theorem dX7_copy_98 : decode cX7_copy 98 = .ok (.getfield 143, 3) := by decide +kernel
theorem dX7_copy_101 : decode cX7_copy 101 = .ok (.iload 9, 2) := by decide +kernel
theorem dX7_copy_103 : decode cX7_copy 103 = .ok (.iaload, 1) := by decide +kernel
theorem dX7_copy_104 : decode cX7_copy 104 = .ok (.invokevirtual 175, 3) := by decide +kernel
theorem dX7_copy_107 : decode cX7_copy 107 = .ok (.iastore, 1) := by decide +kernel
theorem dX7_copy_108 : decode cX7_copy 108 = .ok (.aload 5, 2) := by decide +kernel
theorem dX7_copy_110 : decode cX7_copy 110 = .ok (.iload 9, 2) := by decide +kernel
theorem dX7_copy_112 : decode cX7_copy 112 = .ok (.invokevirtual 179, 3) := by decide +kernel
theorem dX7_copy_115 : decode cX7_copy 115 = .ok (.ifCond .eq 57, 3) := by decide +kernel
theorem dX7_copy_118 : decode cX7_copy 118 = .ok (.aload 5, 2) := by decide +kernel
theorem dX7_copy_120 : decode cX7_copy 120 = .ok (.getfield 182, 3) := by decide +kernel
theorem dX7_copy_123 : decode cX7_copy 123 = .ok (.iload 9, 2) := by decide +kernel
theorem dX7_copy_125 : decode cX7_copy 125 = .ok (.iaload, 1) := by decide +kernel
theorem dX7_copy_126 : decode cX7_copy 126 = .ok (.iload_n 3, 1) := by decide +kernel
theorem dX7_copy_127 : decode cX7_copy 127 = .ok (.aload 6, 2) := by decide +kernel
theorem dX7_copy_129 : decode cX7_copy 129 = .ok (.getfield 161, 3) := by decide +kernel
theorem dX7_copy_132 : decode cX7_copy 132 = .ok (.invokestatic 183, 3) := by decide +kernel
theorem dX7_copy_135 : decode cX7_copy 135 = .ok (.istore 10, 2) := by decide +kernel
theorem dX7_copy_137 : decode cX7_copy 137 = .ok (.aload 5, 2) := by decide +kernel
theorem dX7_copy_139 : decode cX7_copy 139 = .ok (.getfield 187, 3) := by decide +kernel
theorem dX7_copy_142 : decode cX7_copy 142 = .ok (.iload 9, 2) := by decide +kernel
theorem dX7_copy_144 : decode cX7_copy 144 = .ok (.iaload, 1) := by decide +kernel
theorem dX7_copy_145 : decode cX7_copy 145 = .ok (.iload_n 3, 1) := by decide +kernel
theorem dX7_copy_146 : decode cX7_copy 146 = .ok (.aload 6, 2) := by decide +kernel
theorem dX7_copy_148 : decode cX7_copy 148 = .ok (.getfield 161, 3) := by decide +kernel
theorem dX7_copy_151 : decode cX7_copy 151 = .ok (.ineg, 1) := by decide +kernel
theorem dX7_copy_152 : decode cX7_copy 152 = .ok (.invokestatic 183, 3) := by decide +kernel
theorem dX7_copy_155 : decode cX7_copy 155 = .ok (.istore 11, 2) := by decide +kernel
theorem dX7_copy_157 : decode cX7_copy 157 = .ok (.aload 8, 2) := by decide +kernel
theorem dX7_copy_159 : decode cX7_copy 159 = .ok (.iload 9, 2) := by decide +kernel
theorem dX7_copy_161 : decode cX7_copy 161 = .ok (.iload 10, 2) := by decide +kernel
theorem dX7_copy_163 : decode cX7_copy 163 = .ok (.iload 11, 2) := by decide +kernel
theorem dX7_copy_165 : decode cX7_copy 165 = .ok (.iload_n 1, 1) := by decide +kernel
theorem dX7_copy_166 : decode cX7_copy 166 = .ok (.invokevirtual 147, 3) := by decide +kernel
theorem dX7_copy_169 : decode cX7_copy 169 = .ok (.goto 10, 3) := by decide +kernel
theorem dX7_copy_172 : decode cX7_copy 172 = .ok (.aload 8, 2) := by decide +kernel
theorem dX7_copy_174 : decode cX7_copy 174 = .ok (.iload 9, 2) := by decide +kernel
theorem dX7_copy_176 : decode cX7_copy 176 = .ok (.invokevirtual 140, 3) := by decide +kernel
theorem dX7_copy_179 : decode cX7_copy 179 = .ok (.iinc 9 1, 3) := by decide +kernel
theorem dX7_copy_182 : decode cX7_copy 182 = .ok (.goto (-102), 3) := by decide +kernel
theorem dX7_copy_185 : decode cX7_copy 185 = .ok (.aload 8, 2) := by decide +kernel
theorem dX7_copy_187 : decode cX7_copy 187 = .ok (.aload 5, 2) := by decide +kernel
theorem dX7_copy_189 : decode cX7_copy 189 = .ok (.invokevirtual 188, 3) := by decide +kernel
theorem dX7_copy_192 : decode cX7_copy 192 = .ok (.aload_n 0, 1) := by decide +kernel
theorem dX7_copy_193 : decode cX7_copy 193 = .ok (.iload 7, 2) := by decide +kernel
theorem dX7_copy_195 : decode cX7_copy 195 = .ok (.iconst 1, 1) := by decide +kernel
theorem dX7_copy_196 : decode cX7_copy 196 = .ok (.iadd, 1) := by decide +kernel
theorem dX7_copy_197 : decode cX7_copy 197 = .ok (.putfield 56, 3) := by decide +kernel
theorem dX7_copy_200 : decode cX7_copy 200 = .ok (.iload 7, 2) := by decide +kernel
theorem dX7_copy_202 : decode cX7_copy 202 = .ok (.ireturn, 1) := by decide +kernel
theorem dX7_paste_0 : decode cX7_paste 0 = .ok (.aload_n 0, 1) := by decide +kernel
theorem dX7_paste_1 : decode cX7_paste 1 = .ok (.iload_n 1, 1) := by decide +kernel
theorem dX7_paste_2 : decode cX7_paste 2 = .ok (.invokevirtual 169, 3) := by decide +kernel
theorem dX7_paste_5 : decode cX7_paste 5 = .ok (.astore 5, 2) := by decide +kernel
theorem dX7_paste_7 : decode cX7_paste 7 = .ok (.aload_n 0, 1) := by decide +kernel
theorem dX7_paste_8 : decode cX7_paste 8 = .ok (.iload_n 2, 1) := by decide +kernel
theorem dX7_paste_9 : decode cX7_paste 9 = .ok (.invokevirtual 169, 3) := by decide +kernel
theorem dX7_paste_12 : decode cX7_paste 12 = .ok (.astore 6, 2) := by decide +kernel
theorem dX7_paste_14 : decode cX7_paste 14 = .ok (.iload_n 3, 1) := by decide +kernel
theorem dX7_paste_15 : decode cX7_paste 15 = .ok (.invokestatic 62, 3) := by decide +kernel
theorem dX7_paste_18 : decode cX7_paste 18 = .ok (.iload 4, 2) := by decide +kernel
theorem dX7_paste_20 : decode cX7_paste 20 = .ok (.invokestatic 62, 3) := by decide +kernel
theorem dX7_paste_23 : decode cX7_paste 23 = .ok (.iload_n 1, 1) := by decide +kernel
theorem dX7_paste_24 : decode cX7_paste 24 = .ok (.iload_n 2, 1) := by decide +kernel
theorem dX7_paste_25 : decode cX7_paste 25 = .ok (.if_icmp .eq 9, 3) := by decide +kernel
theorem dX7_paste_28 : decode cX7_paste 28 = .ok (.iload 4, 2) := by decide +kernel
theorem dX7_paste_30 : decode cX7_paste 30 = .ok (.iload_n 3, 1) := by decide +kernel
theorem dX7_paste_31 : decode cX7_paste 31 = .ok (.if_icmp .ge 13, 3) := by decide +kernel
theorem dX7_paste_34 : decode cX7_paste 34 = .ok (.new 77, 3) := by decide +kernel
theorem dX7_paste_37 : decode cX7_paste 37 = .ok (.dup, 1) := by decide +kernel
theorem dX7_paste_38 : decode cX7_paste 38 = .ok (.ldc 192, 2) := by decide +kernel
theorem dX7_paste_40 : decode cX7_paste 40 = .ok (.invokespecial 81, 3) := by decide +kernel
theorem dX7_paste_43 : decode cX7_paste 43 = .ok (.athrow, 1) := by decide +kernel
theorem dX7_paste_44 : decode cX7_paste 44 = .ok (.aload 6, 2) := by decide +kernel
theorem dX7_paste_46 : decode cX7_paste 46 = .ok (.getfield 138, 3) := by decide +kernel
theorem dX7_paste_49 : decode cX7_paste 49 = .ok (.aload 5, 2) := by decide +kernel
theorem dX7_paste_51 : decode cX7_paste 51 = .ok (.getfield 138, 3) := by decide +kernel
theorem dX7_paste_54 : decode cX7_paste 54 = .ok (.if_icmp .le 13, 3) := by decide +kernel
theorem dX7_paste_57 : decode cX7_paste 57 = .ok (.new 87, 3) := by decide +kernel
theorem dX7_paste_60 : decode cX7_paste 60 = .ok (.dup, 1) := by decide +kernel
theorem dX7_paste_61 : decode cX7_paste 61 = .ok (.ldc 194, 2) := by decide +kernel
theorem dX7_paste_63 : decode cX7_paste 63 = .ok (.invokespecial 91, 3) := by decide +kernel
theorem dX7_paste_66 : decode cX7_paste 66 = .ok (.athrow, 1) := by decide +kernel
theorem dX7_paste_67 : decode cX7_paste 67 = .ok (.aload_n 0, 1) := by decide +kernel
theorem dX7_paste_68 : decode cX7_paste 68 = .ok (.iload_n 1, 1) := by decide +kernel
theorem dX7_paste_69 : decode cX7_paste 69 = .ok (.iload_n 2, 1) := by decide +kernel
theorem dX7_paste_70 : decode cX7_paste 70 = .ok (.iload_n 3, 1) := by decide +kernel
theorem dX7_paste_71 : decode cX7_paste 71 = .ok (.iload 4, 2) := by decide +kernel
theorem dX7_paste_73 : decode cX7_paste 73 = .ok (.invokevirtual 196, 3) := by decide +kernel
theorem dX7_paste_76 : decode cX7_paste 76 = .ok (.ifCond .eq 13, 3) := by decide +kernel
theorem dX7_paste_79 : decode cX7_paste 79 = .ok (.new 87, 3) := by decide +kernel
theorem dX7_paste_82 : decode cX7_paste 82 = .ok (.dup, 1) := by decide +kernel
theorem dX7_paste_83 : decode cX7_paste 83 = .ok (.ldc 200, 2) := by decide +kernel
theorem dX7_paste_85 : decode cX7_paste 85 = .ok (.invokespecial 91, 3) := by decide +kernel
theorem dX7_paste_88 : decode cX7_paste 88 = .ok (.athrow, 1) := by decide +kernel
theorem dX7_paste_89 : decode cX7_paste 89 = .ok (.aload 5, 2) := by decide +kernel
theorem dX7_paste_91 : decode cX7_paste 91 = .ok (.iload_n 3, 1) := by decide +kernel
theorem dX7_paste_92 : decode cX7_paste 92 = .ok (.invokevirtual 179, 3) := by decide +kernel
theorem dX7_paste_95 : decode cX7_paste 95 = .ok (.ifCond .eq 16, 3) := by decide +kernel
theorem dX7_paste_98 : decode cX7_paste 98 = .ok (.aload 6, 2) := by decide +kernel
theorem dX7_paste_100 : decode cX7_paste 100 = .ok (.iload_n 3, 1) := by decide +kernel
theorem dX7_paste_101 : decode cX7_paste 101 = .ok (.invokevirtual 179, 3) := by decide +kernel
theorem dX7_paste_104 : decode cX7_paste 104 = .ok (.ifCond .eq 7, 3) := by decide +kernel
theorem dX7_paste_107 : decode cX7_paste 107 = .ok (.iconst 1, 1) := by decide +kernel
theorem dX7_paste_108 : decode cX7_paste 108 = .ok (.goto 4, 3) := by decide +kernel
theorem dX7_paste_111 : decode cX7_paste 111 = .ok (.iconst 0, 1) := by decide +kernel
theorem dX7_paste_112 : decode cX7_paste 112 = .ok (.istore 7, 2) := by decide +kernel
theorem dX7_paste_114 : decode cX7_paste 114 = .ok (.iload 7, 2) := by decide +kernel
theorem dX7_paste_116 : decode cX7_paste 116 = .ok (.ifCond .eq 21, 3) := by decide +kernel
theorem dX7_paste_119 : decode cX7_paste 119 = .ok (.aload 5, 2) := by decide +kernel
theorem dX7_paste_121 : decode cX7_paste 121 = .ok (.getfield 182, 3) := by decide +kernel
theorem dX7_paste_124 : decode cX7_paste 124 = .ok (.iload_n 3, 1) := by decide +kernel
theorem dX7_paste_125 : decode cX7_paste 125 = .ok (.iaload, 1) := by decide +kernel
theorem dX7_paste_126 : decode cX7_paste 126 = .ok (.aload 6, 2) := by decide +kernel
theorem dX7_paste_128 : decode cX7_paste 128 = .ok (.getfield 182, 3) := by decide +kernel
theorem dX7_paste_131 : decode cX7_paste 131 = .ok (.iload_n 3, 1) := by decide +kernel
theorem dX7_paste_132 : decode cX7_paste 132 = .ok (.iaload, 1) := by decide +kernel
theorem dX7_paste_133 : decode cX7_paste 133 = .ok (.isub, 1) := by decide +kernel
theorem dX7_paste_134 : decode cX7_paste 134 = .ok (.goto 4, 3) := by decide +kernel
theorem dX7_paste_137 : decode cX7_paste 137 = .ok (.iconst 0, 1) := by decide +kernel
theorem dX7_paste_138 : decode cX7_paste 138 = .ok (.istore 8, 2) := by decide +kernel
theorem dX7_paste_140 : decode cX7_paste 140 = .ok (.iload 7, 2) := by decide +kernel
theorem dX7_paste_142 : decode cX7_paste 142 = .ok (.ifCond .eq 21, 3) := by decide +kernel
theorem dX7_paste_145 : decode cX7_paste 145 = .ok (.aload 5, 2) := by decide +kernel
theorem dX7_paste_147 : decode cX7_paste 147 = .ok (.getfield 187, 3) := by decide +kernel
theorem dX7_paste_150 : decode cX7_paste 150 = .ok (.iload_n 3, 1) := by decide +kernel
theorem dX7_paste_151 : decode cX7_paste 151 = .ok (.iaload, 1) := by decide +kernel
theorem dX7_paste_152 : decode cX7_paste 152 = .ok (.aload 6, 2) := by decide +kernel
theorem dX7_paste_154 : decode cX7_paste 154 = .ok (.getfield 187, 3) := by decide +kernel
theorem dX7_paste_157 : decode cX7_paste 157 = .ok (.iload_n 3, 1) := by decide +kernel
theorem dX7_paste_158 : decode cX7_paste 158 = .ok (.iaload, 1) := by decide +kernel
theorem dX7_paste_159 : decode cX7_paste 159 = .ok (.isub, 1) := by decide +kernel
theorem dX7_paste_160 : decode cX7_paste 160 = .ok (.goto 4, 3) := by decide +kernel
theorem dX7_paste_163 : decode cX7_paste 163 = .ok (.iconst 0, 1) := by decide +kernel
theorem dX7_paste_164 : decode cX7_paste 164 = .ok (.istore 9, 2) := by decide +kernel
theorem dX7_paste_166 : decode cX7_paste 166 = .ok (.aload 6, 2) := by decide +kernel
theorem dX7_paste_168 : decode cX7_paste 168 = .ok (.iload_n 3, 1) := by decide +kernel
theorem dX7_paste_169 : decode cX7_paste 169 = .ok (.iload 4, 2) := by decide +kernel
theorem dX7_paste_171 : decode cX7_paste 171 = .ok (.iload 8, 2) := by decide +kernel
theorem dX7_paste_173 : decode cX7_paste 173 = .ok (.iload 9, 2) := by decide +kernel
theorem dX7_paste_175 : decode cX7_paste 175 = .ok (.invokevirtual 202, 3) := by decide +kernel
theorem dX7_paste_178 : decode cX7_paste 178 = .ok (.ifCond .ne 13, 3) := by decide +kernel
theorem dX7_paste_181 : decode cX7_paste 181 = .ok (.new 87, 3) := by decide +kernel
theorem dX7_paste_184 : decode cX7_paste 184 = .ok (.dup, 1) := by decide +kernel
theorem dX7_paste_185 : decode cX7_paste 185 = .ok (.ldc 205, 2) := by decide +kernel
theorem dX7_paste_187 : decode cX7_paste 187 = .ok (.invokespecial 91, 3) := by decide +kernel
theorem dX7_paste_190 : decode cX7_paste 190 = .ok (.athrow, 1) := by decide +kernel
theorem dX7_paste_191 : decode cX7_paste 191 = .ok (.iload_n 3, 1) := by decide +kernel
theorem dX7_paste_192 : decode cX7_paste 192 = .ok (.istore 10, 2) := by decide +kernel
theorem dX7_paste_194 : decode cX7_paste 194 = .ok (.iload 10, 2) := by decide +kernel
theorem dX7_paste_196 : decode cX7_paste 196 = .ok (.iload 4, 2) := by decide +kernel
theorem dX7_paste_198 : decode cX7_paste 198 = .ok (.if_icmp .gt 75, 3) := by decide +kernel
theorem dX7_paste_201 : decode cX7_paste 201 = .ok (.aload 5, 2) := by decide +kernel
theorem dX7_paste_203 : decode cX7_paste 203 = .ok (.getfield 143, 3) := by decide +kernel
theorem dX7_paste_206 : decode cX7_paste 206 = .ok (.iload 10, 2) := by decide +kernel
theorem dX7_paste_208 : decode cX7_paste 208 = .ok (.aload 6, 2) := by decide +kernel
theorem dX7_paste_210 : decode cX7_paste 210 = .ok (.getfield 143, 3) := by decide +kernel
theorem dX7_paste_213 : decode cX7_paste 213 = .ok (.iload 10, 2) := by decide +kernel
theorem dX7_paste_215 : decode cX7_paste 215 = .ok (.iaload, 1) := by decide +kernel
theorem dX7_paste_216 : decode cX7_paste 216 = .ok (.iastore, 1) := by decide +kernel
theorem dX7_paste_217 : decode cX7_paste 217 = .ok (.aload 6, 2) := by decide +kernel
theorem dX7_paste_219 : decode cX7_paste 219 = .ok (.iload 10, 2) := by decide +kernel
theorem dX7_paste_221 : decode cX7_paste 221 = .ok (.invokevirtual 179, 3) := by decide +kernel
theorem dX7_paste_224 : decode cX7_paste 224 = .ok (.ifCond .eq 36, 3) := by decide +kernel
theorem dX7_paste_227 : decode cX7_paste 227 = .ok (.aload 5, 2) := by decide +kernel
theorem dX7_paste_229 : decode cX7_paste 229 = .ok (.iload 10, 2) := by decide +kernel
theorem dX7_paste_231 : decode cX7_paste 231 = .ok (.aload 6, 2) := by decide +kernel
theorem dX7_paste_233 : decode cX7_paste 233 = .ok (.getfield 182, 3) := by decide +kernel
theorem dX7_paste_236 : decode cX7_paste 236 = .ok (.iload 10, 2) := by decide +kernel
theorem dX7_paste_238 : decode cX7_paste 238 = .ok (.iaload, 1) := by decide +kernel
theorem dX7_paste_239 : decode cX7_paste 239 = .ok (.iload 8, 2) := by decide +kernel
theorem dX7_paste_241 : decode cX7_paste 241 = .ok (.iadd, 1) := by decide +kernel
theorem dX7_paste_242 : decode cX7_paste 242 = .ok (.aload 6, 2) := by decide +kernel
theorem dX7_paste_244 : decode cX7_paste 244 = .ok (.getfield 187, 3) := by decide +kernel
theorem dX7_paste_247 : decode cX7_paste 247 = .ok (.iload 10, 2) := by decide +kernel
theorem dX7_paste_249 : decode cX7_paste 249 = .ok (.iaload, 1) := by decide +kernel
theorem dX7_paste_250 : decode cX7_paste 250 = .ok (.iload 9, 2) := by decide +kernel
theorem dX7_paste_252 : decode cX7_paste 252 = .ok (.iadd, 1) := by decide +kernel
theorem dX7_paste_253 : decode cX7_paste 253 = .ok (.iload_n 2, 1) := by decide +kernel
theorem dX7_paste_254 : decode cX7_paste 254 = .ok (.invokevirtual 147, 3) := by decide +kernel
theorem dX7_paste_257 : decode cX7_paste 257 = .ok (.goto 10, 3) := by decide +kernel
theorem dX7_paste_260 : decode cX7_paste 260 = .ok (.aload 5, 2) := by decide +kernel
theorem dX7_paste_262 : decode cX7_paste 262 = .ok (.iload 10, 2) := by decide +kernel
theorem dX7_paste_264 : decode cX7_paste 264 = .ok (.invokevirtual 140, 3) := by decide +kernel
theorem dX7_paste_267 : decode cX7_paste 267 = .ok (.iinc 10 1, 3) := by decide +kernel
theorem dX7_paste_270 : decode cX7_paste 270 = .ok (.goto (-76), 3) := by decide +kernel
theorem dX7_paste_273 : decode cX7_paste 273 = .ok (.aload 5, 2) := by decide +kernel
theorem dX7_paste_275 : decode cX7_paste 275 = .ok (.iload_n 3, 1) := by decide +kernel
theorem dX7_paste_276 : decode cX7_paste 276 = .ok (.iload 4, 2) := by decide +kernel
theorem dX7_paste_278 : decode cX7_paste 278 = .ok (.invokevirtual 207, 3) := by decide +kernel
theorem dX7_paste_281 : decode cX7_paste 281 = .ok (.ireturn, 1) := by decide +kernel
theorem dX7_island_0 : decode cX7_island 0 = .ok (.aload_n 0, 1) := by decide +kernel
theorem dX7_island_1 : decode cX7_island 1 = .ok (.iload_n 1, 1) := by decide +kernel
theorem dX7_island_2 : decode cX7_island 2 = .ok (.invokevirtual 169, 3) := by decide +kernel
theorem dX7_island_5 : decode cX7_island 5 = .ok (.astore 4, 2) := by decide +kernel
theorem dX7_island_7 : decode cX7_island 7 = .ok (.iload_n 2, 1) := by decide +kernel
theorem dX7_island_8 : decode cX7_island 8 = .ok (.sipush 999, 3) := by decide +kernel
theorem dX7_island_11 : decode cX7_island 11 = .ok (.invokestatic 66, 3) := by decide +kernel
theorem dX7_island_14 : decode cX7_island 14 = .ok (.ifCond .eq 13, 3) := by decide +kernel
theorem dX7_island_17 : decode cX7_island 17 = .ok (.iload_n 3, 1) := by decide +kernel
theorem dX7_island_18 : decode cX7_island 18 = .ok (.sipush 999, 3) := by decide +kernel
theorem dX7_island_21 : decode cX7_island 21 = .ok (.invokestatic 66, 3) := by decide +kernel
theorem dX7_island_24 : decode cX7_island 24 = .ok (.ifCond .ne 13, 3) := by decide +kernel
theorem dX7_island_27 : decode cX7_island 27 = .ok (.new 77, 3) := by decide +kernel
theorem dX7_island_30 : decode cX7_island 30 = .ok (.dup, 1) := by decide +kernel
theorem dX7_island_31 : decode cX7_island 31 = .ok (.ldc 211, 2) := by decide +kernel
theorem dX7_island_33 : decode cX7_island 33 = .ok (.invokespecial 81, 3) := by decide +kernel
theorem dX7_island_36 : decode cX7_island 36 = .ok (.athrow, 1) := by decide +kernel
theorem dX7_island_37 : decode cX7_island 37 = .ok (.aload_n 0, 1) := by decide +kernel
theorem dX7_island_38 : decode cX7_island 38 = .ok (.getfield 52, 3) := by decide +kernel
theorem dX7_island_41 : decode cX7_island 41 = .ok (.getfield 213, 3) := by decide +kernel
theorem dX7_island_44 : decode cX7_island 44 = .ok (.bipush 20, 2) := by decide +kernel
theorem dX7_island_46 : decode cX7_island 46 = .ok (.if_icmp .lt 13, 3) := by decide +kernel
theorem dX7_island_49 : decode cX7_island 49 = .ok (.new 87, 3) := by decide +kernel
theorem dX7_island_52 : decode cX7_island 52 = .ok (.dup, 1) := by decide +kernel
theorem dX7_island_53 : decode cX7_island 53 = .ok (.ldc 214, 2) := by decide +kernel
theorem dX7_island_55 : decode cX7_island 55 = .ok (.invokespecial 91, 3) := by decide +kernel
theorem dX7_island_58 : decode cX7_island 58 = .ok (.athrow, 1) := by decide +kernel
theorem dX7_island_59 : decode cX7_island 59 = .ok (.aload_n 0, 1) := by decide +kernel
theorem dX7_island_60 : decode cX7_island 60 = .ok (.getfield 52, 3) := by decide +kernel
theorem dX7_island_63 : decode cX7_island 63 = .ok (.getfield 213, 3) := by decide +kernel
theorem dX7_island_66 : decode cX7_island 66 = .ok (.istore 5, 2) := by decide +kernel
theorem dX7_island_68 : decode cX7_island 68 = .ok (.aload_n 0, 1) := by decide +kernel
theorem dX7_island_69 : decode cX7_island 69 = .ok (.getfield 52, 3) := by decide +kernel
theorem dX7_island_72 : decode cX7_island 72 = .ok (.getfield 216, 3) := by decide +kernel
theorem dX7_island_75 : decode cX7_island 75 = .ok (.iload 5, 2) := by decide +kernel
theorem dX7_island_77 : decode cX7_island 77 = .ok (.iload_n 2, 1) := by decide +kernel
theorem dX7_island_78 : decode cX7_island 78 = .ok (.iastore, 1) := by decide +kernel
theorem dX7_island_79 : decode cX7_island 79 = .ok (.aload_n 0, 1) := by decide +kernel
theorem dX7_island_80 : decode cX7_island 80 = .ok (.getfield 52, 3) := by decide +kernel
theorem dX7_island_83 : decode cX7_island 83 = .ok (.getfield 217, 3) := by decide +kernel
theorem dX7_island_86 : decode cX7_island 86 = .ok (.iload 5, 2) := by decide +kernel
theorem dX7_island_88 : decode cX7_island 88 = .ok (.iload_n 3, 1) := by decide +kernel
theorem dX7_island_89 : decode cX7_island 89 = .ok (.iastore, 1) := by decide +kernel
theorem dX7_island_90 : decode cX7_island 90 = .ok (.aload_n 0, 1) := by decide +kernel
theorem dX7_island_91 : decode cX7_island 91 = .ok (.getfield 52, 3) := by decide +kernel
theorem dX7_island_94 : decode cX7_island 94 = .ok (.getfield 218, 3) := by decide +kernel
theorem dX7_island_97 : decode cX7_island 97 = .ok (.iload 5, 2) := by decide +kernel
theorem dX7_island_99 : decode cX7_island 99 = .ok (.iload_n 1, 1) := by decide +kernel
theorem dX7_island_100 : decode cX7_island 100 = .ok (.iastore, 1) := by decide +kernel
theorem dX7_island_101 : decode cX7_island 101 = .ok (.aload_n 0, 1) := by decide +kernel
theorem dX7_island_102 : decode cX7_island 102 = .ok (.getfield 52, 3) := by decide +kernel
theorem dX7_island_105 : decode cX7_island 105 = .ok (.iload 5, 2) := by decide +kernel
theorem dX7_island_107 : decode cX7_island 107 = .ok (.iconst 1, 1) := by decide +kernel
theorem dX7_island_108 : decode cX7_island 108 = .ok (.iadd, 1) := by decide +kernel
theorem dX7_island_109 : decode cX7_island 109 = .ok (.putfield 213, 3) := by decide +kernel
theorem dX7_island_112 : decode cX7_island 112 = .ok (.aload 4, 2) := by decide +kernel
theorem dX7_island_114 : decode cX7_island 114 = .ok (.getfield 221, 3) := by decide +kernel
theorem dX7_island_117 : decode cX7_island 117 = .ok (.iload 5, 2) := by decide +kernel
theorem dX7_island_119 : decode cX7_island 119 = .ok (.iconst 1, 1) := by decide +kernel
theorem dX7_island_120 : decode cX7_island 120 = .ok (.bastore, 1) := by decide +kernel
theorem dX7_island_121 : decode cX7_island 121 = .ok (.iload 5, 2) := by decide +kernel
theorem dX7_island_123 : decode cX7_island 123 = .ok (.ireturn, 1) := by decide +kernel
theorem dX7_exchange_0 : decode cX7_exchange 0 = .ok (.aload_n 0, 1) := by decide +kernel
theorem dX7_exchange_1 : decode cX7_exchange 1 = .ok (.iload_n 1, 1) := by decide +kernel
theorem dX7_exchange_2 : decode cX7_exchange 2 = .ok (.invokevirtual 169, 3) := by decide +kernel
theorem dX7_exchange_5 : decode cX7_exchange 5 = .ok (.astore 4, 2) := by decide +kernel
theorem dX7_exchange_7 : decode cX7_exchange 7 = .ok (.iload_n 2, 1) := by decide +kernel
theorem dX7_exchange_8 : decode cX7_exchange 8 = .ok (.invokestatic 62, 3) := by decide +kernel
theorem dX7_exchange_11 : decode cX7_exchange 11 = .ok (.iload_n 3, 1) := by decide +kernel
theorem dX7_exchange_12 : decode cX7_exchange 12 = .ok (.invokestatic 62, 3) := by decide +kernel
theorem dX7_exchange_15 : decode cX7_exchange 15 = .ok (.aload 4, 2) := by decide +kernel
theorem dX7_exchange_17 : decode cX7_exchange 17 = .ok (.getfield 143, 3) := by decide +kernel
theorem dX7_exchange_20 : decode cX7_exchange 20 = .ok (.iload_n 2, 1) := by decide +kernel
theorem dX7_exchange_21 : decode cX7_exchange 21 = .ok (.iaload, 1) := by decide +kernel
theorem dX7_exchange_22 : decode cX7_exchange 22 = .ok (.istore 5, 2) := by decide +kernel
theorem dX7_exchange_24 : decode cX7_exchange 24 = .ok (.aload 4, 2) := by decide +kernel
theorem dX7_exchange_26 : decode cX7_exchange 26 = .ok (.getfield 143, 3) := by decide +kernel
theorem dX7_exchange_29 : decode cX7_exchange 29 = .ok (.iload_n 2, 1) := by decide +kernel
theorem dX7_exchange_30 : decode cX7_exchange 30 = .ok (.aload 4, 2) := by decide +kernel
theorem dX7_exchange_32 : decode cX7_exchange 32 = .ok (.getfield 143, 3) := by decide +kernel
theorem dX7_exchange_35 : decode cX7_exchange 35 = .ok (.iload_n 3, 1) := by decide +kernel
theorem dX7_exchange_36 : decode cX7_exchange 36 = .ok (.iaload, 1) := by decide +kernel
theorem dX7_exchange_37 : decode cX7_exchange 37 = .ok (.iastore, 1) := by decide +kernel
theorem dX7_exchange_38 : decode cX7_exchange 38 = .ok (.aload 4, 2) := by decide +kernel
theorem dX7_exchange_40 : decode cX7_exchange 40 = .ok (.getfield 143, 3) := by decide +kernel
theorem dX7_exchange_43 : decode cX7_exchange 43 = .ok (.iload_n 3, 1) := by decide +kernel
theorem dX7_exchange_44 : decode cX7_exchange 44 = .ok (.iload 5, 2) := by decide +kernel
theorem dX7_exchange_46 : decode cX7_exchange 46 = .ok (.iastore, 1) := by decide +kernel
theorem dX7_exchange_47 : decode cX7_exchange 47 = .ok (.return_, 1) := by decide +kernel
theorem dX7_shrink_0 : decode cX7_shrink 0 = .ok (.aload_n 0, 1) := by decide +kernel
theorem dX7_shrink_1 : decode cX7_shrink 1 = .ok (.iload_n 1, 1) := by decide +kernel
theorem dX7_shrink_2 : decode cX7_shrink 2 = .ok (.invokevirtual 169, 3) := by decide +kernel
theorem dX7_shrink_5 : decode cX7_shrink 5 = .ok (.astore 5, 2) := by decide +kernel
theorem dX7_shrink_7 : decode cX7_shrink 7 = .ok (.iload_n 2, 1) := by decide +kernel
theorem dX7_shrink_8 : decode cX7_shrink 8 = .ok (.invokestatic 225, 3) := by decide +kernel
theorem dX7_shrink_11 : decode cX7_shrink 11 = .ok (.iload_n 3, 1) := by decide +kernel
theorem dX7_shrink_12 : decode cX7_shrink 12 = .ok (.bipush 50, 2) := by decide +kernel
theorem dX7_shrink_14 : decode cX7_shrink 14 = .ok (.if_icmp .lt 10, 3) := by decide +kernel
theorem dX7_shrink_17 : decode cX7_shrink 17 = .ok (.iload_n 3, 1) := by decide +kernel
theorem dX7_shrink_18 : decode cX7_shrink 18 = .ok (.sipush 200, 3) := by decide +kernel
theorem dX7_shrink_21 : decode cX7_shrink 21 = .ok (.if_icmp .le 13, 3) := by decide +kernel
theorem dX7_shrink_24 : decode cX7_shrink 24 = .ok (.new 77, 3) := by decide +kernel
theorem dX7_shrink_27 : decode cX7_shrink 27 = .ok (.dup, 1) := by decide +kernel
theorem dX7_shrink_28 : decode cX7_shrink 28 = .ok (.ldc 228, 2) := by decide +kernel
theorem dX7_shrink_30 : decode cX7_shrink 30 = .ok (.invokespecial 81, 3) := by decide +kernel
theorem dX7_shrink_33 : decode cX7_shrink 33 = .ok (.athrow, 1) := by decide +kernel
theorem dX7_shrink_34 : decode cX7_shrink 34 = .ok (.iload 4, 2) := by decide +kernel
theorem dX7_shrink_36 : decode cX7_shrink 36 = .ok (.ifCond .eq 14, 3) := by decide +kernel
theorem dX7_shrink_39 : decode cX7_shrink 39 = .ok (.aload 5, 2) := by decide +kernel
theorem dX7_shrink_41 : decode cX7_shrink 41 = .ok (.getfield 144, 3) := by decide +kernel
theorem dX7_shrink_44 : decode cX7_shrink 44 = .ok (.iload_n 2, 1) := by decide +kernel
theorem dX7_shrink_45 : decode cX7_shrink 45 = .ok (.iload_n 3, 1) := by decide +kernel
theorem dX7_shrink_46 : decode cX7_shrink 46 = .ok (.iastore, 1) := by decide +kernel
theorem dX7_shrink_47 : decode cX7_shrink 47 = .ok (.goto 33, 3) := by decide +kernel
theorem dX7_shrink_50 : decode cX7_shrink 50 = .ok (.aload 5, 2) := by decide +kernel
theorem dX7_shrink_52 : decode cX7_shrink 52 = .ok (.iload_n 2, 1) := by decide +kernel
theorem dX7_shrink_53 : decode cX7_shrink 53 = .ok (.iload_n 3, 1) := by decide +kernel
theorem dX7_shrink_54 : decode cX7_shrink 54 = .ok (.invokevirtual 230, 3) := by decide +kernel
theorem dX7_shrink_57 : decode cX7_shrink 57 = .ok (.ifCond .eq 13, 3) := by decide +kernel
theorem dX7_shrink_60 : decode cX7_shrink 60 = .ok (.aload 5, 2) := by decide +kernel
theorem dX7_shrink_62 : decode cX7_shrink 62 = .ok (.iload_n 2, 1) := by decide +kernel
theorem dX7_shrink_63 : decode cX7_shrink 63 = .ok (.iload_n 3, 1) := by decide +kernel
theorem dX7_shrink_64 : decode cX7_shrink 64 = .ok (.invokevirtual 233, 3) := by decide +kernel
theorem dX7_shrink_67 : decode cX7_shrink 67 = .ok (.goto 13, 3) := by decide +kernel
theorem dX7_shrink_70 : decode cX7_shrink 70 = .ok (.new 87, 3) := by decide +kernel
theorem dX7_shrink_73 : decode cX7_shrink 73 = .ok (.dup, 1) := by decide +kernel
theorem dX7_shrink_74 : decode cX7_shrink 74 = .ok (.ldc 205, 2) := by decide +kernel
theorem dX7_shrink_76 : decode cX7_shrink 76 = .ok (.invokespecial 91, 3) := by decide +kernel
theorem dX7_shrink_79 : decode cX7_shrink 79 = .ok (.athrow, 1) := by decide +kernel
theorem dX7_shrink_80 : decode cX7_shrink 80 = .ok (.aload 5, 2) := by decide +kernel
theorem dX7_shrink_82 : decode cX7_shrink 82 = .ok (.getfield 144, 3) := by decide +kernel
theorem dX7_shrink_85 : decode cX7_shrink 85 = .ok (.iload_n 2, 1) := by decide +kernel
theorem dX7_shrink_86 : decode cX7_shrink 86 = .ok (.iaload, 1) := by decide +kernel
theorem dX7_shrink_87 : decode cX7_shrink 87 = .ok (.ireturn, 1) := by decide +kernel
theorem dX7_lose_0 : decode cX7_lose 0 = .ok (.aload_n 0, 1) := by decide +kernel
theorem dX7_lose_1 : decode cX7_lose 1 = .ok (.iload_n 1, 1) := by decide +kernel
theorem dX7_lose_2 : decode cX7_lose 2 = .ok (.invokevirtual 169, 3) := by decide +kernel
theorem dX7_lose_5 : decode cX7_lose 5 = .ok (.astore 4, 2) := by decide +kernel
theorem dX7_lose_7 : decode cX7_lose 7 = .ok (.iload_n 2, 1) := by decide +kernel
theorem dX7_lose_8 : decode cX7_lose 8 = .ok (.invokestatic 62, 3) := by decide +kernel
theorem dX7_lose_11 : decode cX7_lose 11 = .ok (.iload_n 3, 1) := by decide +kernel
theorem dX7_lose_12 : decode cX7_lose 12 = .ok (.invokestatic 62, 3) := by decide +kernel
theorem dX7_lose_15 : decode cX7_lose 15 = .ok (.iload_n 3, 1) := by decide +kernel
theorem dX7_lose_16 : decode cX7_lose 16 = .ok (.iload_n 2, 1) := by decide +kernel
theorem dX7_lose_17 : decode cX7_lose 17 = .ok (.if_icmp .ge 13, 3) := by decide +kernel
theorem dX7_lose_20 : decode cX7_lose 20 = .ok (.new 77, 3) := by decide +kernel
theorem dX7_lose_23 : decode cX7_lose 23 = .ok (.dup, 1) := by decide +kernel
theorem dX7_lose_24 : decode cX7_lose 24 = .ok (.ldc 237, 2) := by decide +kernel
theorem dX7_lose_26 : decode cX7_lose 26 = .ok (.invokespecial 81, 3) := by decide +kernel
theorem dX7_lose_29 : decode cX7_lose 29 = .ok (.athrow, 1) := by decide +kernel
theorem dX7_lose_30 : decode cX7_lose 30 = .ok (.aload 4, 2) := by decide +kernel
theorem dX7_lose_32 : decode cX7_lose 32 = .ok (.iload_n 2, 1) := by decide +kernel
theorem dX7_lose_33 : decode cX7_lose 33 = .ok (.iload_n 3, 1) := by decide +kernel
theorem dX7_lose_34 : decode cX7_lose 34 = .ok (.invokevirtual 207, 3) := by decide +kernel
theorem dX7_lose_37 : decode cX7_lose 37 = .ok (.istore 5, 2) := by decide +kernel
theorem dX7_lose_39 : decode cX7_lose 39 = .ok (.iload_n 2, 1) := by decide +kernel
theorem dX7_lose_40 : decode cX7_lose 40 = .ok (.istore 6, 2) := by decide +kernel
theorem dX7_lose_42 : decode cX7_lose 42 = .ok (.iload 6, 2) := by decide +kernel
theorem dX7_lose_44 : decode cX7_lose 44 = .ok (.iload_n 3, 1) := by decide +kernel
theorem dX7_lose_45 : decode cX7_lose 45 = .ok (.if_icmp .gt 16, 3) := by decide +kernel
theorem dX7_lose_48 : decode cX7_lose 48 = .ok (.aload 4, 2) := by decide +kernel
theorem dX7_lose_50 : decode cX7_lose 50 = .ok (.iload 6, 2) := by decide +kernel
theorem dX7_lose_52 : decode cX7_lose 52 = .ok (.invokevirtual 140, 3) := by decide +kernel
theorem dX7_lose_55 : decode cX7_lose 55 = .ok (.iinc 6 1, 3) := by decide +kernel
theorem dX7_lose_58 : decode cX7_lose 58 = .ok (.goto (-16), 3) := by decide +kernel
theorem dX7_lose_61 : decode cX7_lose 61 = .ok (.iload 5, 2) := by decide +kernel
theorem dX7_lose_63 : decode cX7_lose 63 = .ok (.ireturn, 1) := by decide +kernel
theorem dX7_paint_0 : decode cX7_paint 0 = .ok (.aload_n 0, 1) := by decide +kernel
theorem dX7_paint_1 : decode cX7_paint 1 = .ok (.iload_n 1, 1) := by decide +kernel
theorem dX7_paint_2 : decode cX7_paint 2 = .ok (.invokevirtual 169, 3) := by decide +kernel
theorem dX7_paint_5 : decode cX7_paint 5 = .ok (.astore_n 3, 1) := by decide +kernel
theorem dX7_paint_6 : decode cX7_paint 6 = .ok (.aload_n 0, 1) := by decide +kernel
theorem dX7_paint_7 : decode cX7_paint 7 = .ok (.iload_n 2, 1) := by decide +kernel
theorem dX7_paint_8 : decode cX7_paint 8 = .ok (.invokevirtual 239, 3) := by decide +kernel
theorem dX7_paint_11 : decode cX7_paint 11 = .ok (.aload_n 3, 1) := by decide +kernel
theorem dX7_paint_12 : decode cX7_paint 12 = .ok (.getfield 221, 3) := by decide +kernel
theorem dX7_paint_15 : decode cX7_paint 15 = .ok (.iload_n 2, 1) := by decide +kernel
theorem dX7_paint_16 : decode cX7_paint 16 = .ok (.baload, 1) := by decide +kernel
theorem dX7_paint_17 : decode cX7_paint 17 = .ok (.istore 4, 2) := by decide +kernel
theorem dX7_paint_19 : decode cX7_paint 19 = .ok (.aload_n 3, 1) := by decide +kernel
theorem dX7_paint_20 : decode cX7_paint 20 = .ok (.getfield 221, 3) := by decide +kernel
theorem dX7_paint_23 : decode cX7_paint 23 = .ok (.iload_n 2, 1) := by decide +kernel
theorem dX7_paint_24 : decode cX7_paint 24 = .ok (.iconst 0, 1) := by decide +kernel
theorem dX7_paint_25 : decode cX7_paint 25 = .ok (.bastore, 1) := by decide +kernel
theorem dX7_paint_26 : decode cX7_paint 26 = .ok (.iload 4, 2) := by decide +kernel
theorem dX7_paint_28 : decode cX7_paint 28 = .ok (.ireturn, 1) := by decide +kernel
theorem dX7_told_0 : decode cX7_told 0 = .ok (.iload_n 1, 1) := by decide +kernel
theorem dX7_told_1 : decode cX7_told 1 = .ok (.ifCond .lt 14, 3) := by decide +kernel
theorem dX7_told_4 : decode cX7_told 4 = .ok (.iload_n 1, 1) := by decide +kernel
theorem dX7_told_5 : decode cX7_told 5 = .ok (.aload_n 0, 1) := by decide +kernel
theorem dX7_told_6 : decode cX7_told 6 = .ok (.getfield 26, 3) := by decide +kernel
theorem dX7_told_9 : decode cX7_told 9 = .ok (.getfield 84, 3) := by decide +kernel
theorem dX7_told_12 : decode cX7_told 12 = .ok (.if_icmp .lt 13, 3) := by decide +kernel
theorem dX7_told_15 : decode cX7_told 15 = .ok (.new 116, 3) := by decide +kernel
theorem dX7_told_18 : decode cX7_told 18 = .ok (.dup, 1) := by decide +kernel
theorem dX7_told_19 : decode cX7_told 19 = .ok (.ldc 242, 2) := by decide +kernel
theorem dX7_told_21 : decode cX7_told 21 = .ok (.invokespecial 120, 3) := by decide +kernel
theorem dX7_told_24 : decode cX7_told 24 = .ok (.athrow, 1) := by decide +kernel
theorem dX7_told_25 : decode cX7_told 25 = .ok (.iload_n 2, 1) := by decide +kernel
theorem dX7_told_26 : decode cX7_told 26 = .ok (.ifCond .eq 15, 3) := by decide +kernel
theorem dX7_told_29 : decode cX7_told 29 = .ok (.aload_n 0, 1) := by decide +kernel
theorem dX7_told_30 : decode cX7_told 30 = .ok (.getfield 26, 3) := by decide +kernel
theorem dX7_told_33 : decode cX7_told 33 = .ok (.getfield 131, 3) := by decide +kernel
theorem dX7_told_36 : decode cX7_told 36 = .ok (.iload_n 1, 1) := by decide +kernel
theorem dX7_told_37 : decode cX7_told 37 = .ok (.iaload, 1) := by decide +kernel
theorem dX7_told_38 : decode cX7_told 38 = .ok (.goto 12, 3) := by decide +kernel
theorem dX7_told_41 : decode cX7_told 41 = .ok (.aload_n 0, 1) := by decide +kernel
theorem dX7_told_42 : decode cX7_told 42 = .ok (.getfield 26, 3) := by decide +kernel
theorem dX7_told_45 : decode cX7_told 45 = .ok (.getfield 132, 3) := by decide +kernel
theorem dX7_told_48 : decode cX7_told 48 = .ok (.iload_n 1, 1) := by decide +kernel
theorem dX7_told_49 : decode cX7_told 49 = .ok (.iaload, 1) := by decide +kernel
theorem dX7_told_50 : decode cX7_told 50 = .ok (.ireturn, 1) := by decide +kernel
theorem dX7_at_0 : decode cX7_at 0 = .ok (.aload_n 0, 1) := by decide +kernel
theorem dX7_at_1 : decode cX7_at 1 = .ok (.iload_n 1, 1) := by decide +kernel
theorem dX7_at_2 : decode cX7_at 2 = .ok (.invokevirtual 169, 3) := by decide +kernel
theorem dX7_at_5 : decode cX7_at 5 = .ok (.astore 4, 2) := by decide +kernel
theorem dX7_at_7 : decode cX7_at 7 = .ok (.iload_n 2, 1) := by decide +kernel
theorem dX7_at_8 : decode cX7_at 8 = .ok (.invokestatic 62, 3) := by decide +kernel
theorem dX7_at_11 : decode cX7_at 11 = .ok (.iload_n 3, 1) := by decide +kernel
theorem dX7_at_12 : decode cX7_at 12 = .ok (.tableswitch 118 0 5 #[40, 48, 56, 64, 72, 95], 40) := by decide +kernel
theorem dX7_at_52 : decode cX7_at 52 = .ok (.aload 4, 2) := by decide +kernel
theorem dX7_at_54 : decode cX7_at 54 = .ok (.getfield 182, 3) := by decide +kernel
theorem dX7_at_57 : decode cX7_at 57 = .ok (.iload_n 2, 1) := by decide +kernel
theorem dX7_at_58 : decode cX7_at 58 = .ok (.iaload, 1) := by decide +kernel
theorem dX7_at_59 : decode cX7_at 59 = .ok (.ireturn, 1) := by decide +kernel
theorem dX7_at_60 : decode cX7_at 60 = .ok (.aload 4, 2) := by decide +kernel
theorem dX7_at_62 : decode cX7_at 62 = .ok (.getfield 187, 3) := by decide +kernel
theorem dX7_at_65 : decode cX7_at 65 = .ok (.iload_n 2, 1) := by decide +kernel
theorem dX7_at_66 : decode cX7_at 66 = .ok (.iaload, 1) := by decide +kernel
theorem dX7_at_67 : decode cX7_at 67 = .ok (.ireturn, 1) := by decide +kernel
theorem dX7_at_68 : decode cX7_at 68 = .ok (.aload 4, 2) := by decide +kernel
theorem dX7_at_70 : decode cX7_at 70 = .ok (.getfield 143, 3) := by decide +kernel
theorem dX7_at_73 : decode cX7_at 73 = .ok (.iload_n 2, 1) := by decide +kernel
theorem dX7_at_74 : decode cX7_at 74 = .ok (.iaload, 1) := by decide +kernel
theorem dX7_at_75 : decode cX7_at 75 = .ok (.ireturn, 1) := by decide +kernel
theorem dX7_at_76 : decode cX7_at 76 = .ok (.aload 4, 2) := by decide +kernel
theorem dX7_at_78 : decode cX7_at 78 = .ok (.getfield 244, 3) := by decide +kernel
theorem dX7_at_81 : decode cX7_at 81 = .ok (.iload_n 2, 1) := by decide +kernel
theorem dX7_at_82 : decode cX7_at 82 = .ok (.iaload, 1) := by decide +kernel
theorem dX7_at_83 : decode cX7_at 83 = .ok (.ireturn, 1) := by decide +kernel
theorem dX7_at_84 : decode cX7_at 84 = .ok (.aload 4, 2) := by decide +kernel
theorem dX7_at_86 : decode cX7_at 86 = .ok (.iload_n 2, 1) := by decide +kernel
theorem dX7_at_87 : decode cX7_at 87 = .ok (.invokevirtual 179, 3) := by decide +kernel
theorem dX7_at_90 : decode cX7_at 90 = .ok (.ifCond .eq 14, 3) := by decide +kernel
theorem dX7_at_93 : decode cX7_at 93 = .ok (.aload_n 0, 1) := by decide +kernel
theorem dX7_at_94 : decode cX7_at 94 = .ok (.aload 4, 2) := by decide +kernel
theorem dX7_at_96 : decode cX7_at 96 = .ok (.iload_n 2, 1) := by decide +kernel
theorem dX7_at_97 : decode cX7_at 97 = .ok (.iconst 1, 1) := by decide +kernel
theorem dX7_at_98 : decode cX7_at 98 = .ok (.invokevirtual 247, 3) := by decide +kernel
theorem dX7_at_101 : decode cX7_at 101 = .ok (.goto 5, 3) := by decide +kernel
theorem dX7_at_104 : decode cX7_at 104 = .ok (.ldc 251, 2) := by decide +kernel
theorem dX7_at_106 : decode cX7_at 106 = .ok (.ireturn, 1) := by decide +kernel
theorem dX7_at_107 : decode cX7_at 107 = .ok (.aload 4, 2) := by decide +kernel
theorem dX7_at_109 : decode cX7_at 109 = .ok (.iload_n 2, 1) := by decide +kernel
theorem dX7_at_110 : decode cX7_at 110 = .ok (.invokevirtual 179, 3) := by decide +kernel
theorem dX7_at_113 : decode cX7_at 113 = .ok (.ifCond .eq 14, 3) := by decide +kernel
theorem dX7_at_116 : decode cX7_at 116 = .ok (.aload_n 0, 1) := by decide +kernel
theorem dX7_at_117 : decode cX7_at 117 = .ok (.aload 4, 2) := by decide +kernel
theorem dX7_at_119 : decode cX7_at 119 = .ok (.iload_n 2, 1) := by decide +kernel
theorem dX7_at_120 : decode cX7_at 120 = .ok (.iconst 0, 1) := by decide +kernel
theorem dX7_at_121 : decode cX7_at 121 = .ok (.invokevirtual 247, 3) := by decide +kernel
theorem dX7_at_124 : decode cX7_at 124 = .ok (.goto 5, 3) := by decide +kernel
theorem dX7_at_127 : decode cX7_at 127 = .ok (.ldc 251, 2) := by decide +kernel
theorem dX7_at_129 : decode cX7_at 129 = .ok (.ireturn, 1) := by decide +kernel
theorem dX7_at_130 : decode cX7_at 130 = .ok (.new 77, 3) := by decide +kernel
theorem dX7_at_133 : decode cX7_at 133 = .ok (.dup, 1) := by decide +kernel
theorem dX7_at_134 : decode cX7_at 134 = .ok (.ldc 252, 2) := by decide +kernel
theorem dX7_at_136 : decode cX7_at 136 = .ok (.invokespecial 81, 3) := by decide +kernel
theorem dX7_at_139 : decode cX7_at 139 = .ok (.athrow, 1) := by decide +kernel
theorem dX7_chain_0 : decode cX7_chain 0 = .ok (.aload_n 0, 1) := by decide +kernel
theorem dX7_chain_1 : decode cX7_chain 1 = .ok (.iload_n 1, 1) := by decide +kernel
theorem dX7_chain_2 : decode cX7_chain 2 = .ok (.invokevirtual 169, 3) := by decide +kernel
theorem dX7_chain_5 : decode cX7_chain 5 = .ok (.astore 4, 2) := by decide +kernel
theorem dX7_chain_7 : decode cX7_chain 7 = .ok (.iload_n 2, 1) := by decide +kernel
theorem dX7_chain_8 : decode cX7_chain 8 = .ok (.invokestatic 62, 3) := by decide +kernel
theorem dX7_chain_11 : decode cX7_chain 11 = .ok (.iload_n 3, 1) := by decide +kernel
theorem dX7_chain_12 : decode cX7_chain 12 = .ok (.ifCond .ge 13, 3) := by decide +kernel
theorem dX7_chain_15 : decode cX7_chain 15 = .ok (.new 116, 3) := by decide +kernel
theorem dX7_chain_18 : decode cX7_chain 18 = .ok (.dup, 1) := by decide +kernel
theorem dX7_chain_19 : decode cX7_chain 19 = .ok (.ldc 254, 2) := by decide +kernel
theorem dX7_chain_21 : decode cX7_chain 21 = .ok (.invokespecial 120, 3) := by decide +kernel
theorem dX7_chain_24 : decode cX7_chain 24 = .ok (.athrow, 1) := by decide +kernel
theorem dX7_chain_25 : decode cX7_chain 25 = .ok (.iload_n 3, 1) := by decide +kernel
theorem dX7_chain_26 : decode cX7_chain 26 = .ok (.bipush 12, 2) := by decide +kernel
theorem dX7_chain_28 : decode cX7_chain 28 = .ok (.if_icmp .ge 12, 3) := by decide +kernel
theorem dX7_chain_31 : decode cX7_chain 31 = .ok (.aload 4, 2) := by decide +kernel
theorem dX7_chain_33 : decode cX7_chain 33 = .ok (.iload_n 2, 1) := by decide +kernel
theorem dX7_chain_34 : decode cX7_chain 34 = .ok (.invokevirtual 179, 3) := by decide +kernel
theorem dX7_chain_37 : decode cX7_chain 37 = .ok (.ifCond .ne 5, 3) := by decide +kernel
theorem dX7_chain_40 : decode cX7_chain 40 = .ok (.iconst (-1), 1) := by decide +kernel
theorem dX7_chain_41 : decode cX7_chain 41 = .ok (.ireturn, 1) := by decide +kernel
theorem dX7_chain_42 : decode cX7_chain 42 = .ok (.iload_n 1, 1) := by decide +kernel
theorem dX7_chain_43 : decode cX7_chain 43 = .ok (.istore 5, 2) := by decide +kernel
theorem dX7_chain_45 : decode cX7_chain 45 = .ok (.iconst 0, 1) := by decide +kernel
theorem dX7_chain_46 : decode cX7_chain 46 = .ok (.istore 6, 2) := by decide +kernel
theorem dX7_chain_48 : decode cX7_chain 48 = .ok (.iload 6, 2) := by decide +kernel
theorem dX7_chain_50 : decode cX7_chain 50 = .ok (.iload_n 3, 1) := by decide +kernel
theorem dX7_chain_51 : decode cX7_chain 51 = .ok (.if_icmp .ge 18, 3) := by decide +kernel
theorem dX7_chain_54 : decode cX7_chain 54 = .ok (.aload_n 0, 1) := by decide +kernel
theorem dX7_chain_55 : decode cX7_chain 55 = .ok (.iload 5, 2) := by decide +kernel
theorem dX7_chain_57 : decode cX7_chain 57 = .ok (.iload_n 2, 1) := by decide +kernel
theorem dX7_chain_58 : decode cX7_chain 58 = .ok (.invokevirtual 256, 3) := by decide +kernel
theorem dX7_chain_61 : decode cX7_chain 61 = .ok (.istore 5, 2) := by decide +kernel
theorem dX7_chain_63 : decode cX7_chain 63 = .ok (.iinc 6 1, 3) := by decide +kernel
theorem dX7_chain_66 : decode cX7_chain 66 = .ok (.goto (-18), 3) := by decide +kernel
theorem dX7_chain_69 : decode cX7_chain 69 = .ok (.iload 5, 2) := by decide +kernel
theorem dX7_chain_71 : decode cX7_chain 71 = .ok (.ireturn, 1) := by decide +kernel
theorem dX7_of_0 : decode cX7_of 0 = .ok (.aload_n 0, 1) := by decide +kernel
theorem dX7_of_1 : decode cX7_of 1 = .ok (.iload_n 1, 1) := by decide +kernel
theorem dX7_of_2 : decode cX7_of 2 = .ok (.invokevirtual 169, 3) := by decide +kernel
theorem dX7_of_5 : decode cX7_of 5 = .ok (.astore_n 3, 1) := by decide +kernel
theorem dX7_of_6 : decode cX7_of 6 = .ok (.iload_n 2, 1) := by decide +kernel
theorem dX7_of_7 : decode cX7_of 7 = .ok (.tableswitch 74 0 6 #[41, 46, 54, 59, 59, 59, 68], 41) := by decide +kernel
theorem dX7_of_48 : decode cX7_of 48 = .ok (.aload_n 3, 1) := by decide +kernel
theorem dX7_of_49 : decode cX7_of 49 = .ok (.getfield 138, 3) := by decide +kernel
theorem dX7_of_52 : decode cX7_of 52 = .ok (.ireturn, 1) := by decide +kernel
theorem dX7_of_53 : decode cX7_of 53 = .ok (.aload_n 3, 1) := by decide +kernel
theorem dX7_of_54 : decode cX7_of 54 = .ok (.iconst 0, 1) := by decide +kernel
theorem dX7_of_55 : decode cX7_of 55 = .ok (.bipush 23, 2) := by decide +kernel
theorem dX7_of_57 : decode cX7_of 57 = .ok (.invokevirtual 207, 3) := by decide +kernel
theorem dX7_of_60 : decode cX7_of 60 = .ok (.ireturn, 1) := by decide +kernel
theorem dX7_of_61 : decode cX7_of 61 = .ok (.aload_n 3, 1) := by decide +kernel
theorem dX7_of_62 : decode cX7_of 62 = .ok (.invokevirtual 259, 3) := by decide +kernel
theorem dX7_of_65 : decode cX7_of 65 = .ok (.ireturn, 1) := by decide +kernel
theorem dX7_of_66 : decode cX7_of 66 = .ok (.aload_n 3, 1) := by decide +kernel
theorem dX7_of_67 : decode cX7_of 67 = .ok (.getfield 144, 3) := by decide +kernel
theorem dX7_of_70 : decode cX7_of 70 = .ok (.iload_n 2, 1) := by decide +kernel
theorem dX7_of_71 : decode cX7_of 71 = .ok (.iconst 3, 1) := by decide +kernel
theorem dX7_of_72 : decode cX7_of 72 = .ok (.isub, 1) := by decide +kernel
theorem dX7_of_73 : decode cX7_of 73 = .ok (.iaload, 1) := by decide +kernel
theorem dX7_of_74 : decode cX7_of 74 = .ok (.ireturn, 1) := by decide +kernel
theorem dX7_of_75 : decode cX7_of 75 = .ok (.aload_n 0, 1) := by decide +kernel
theorem dX7_of_76 : decode cX7_of 76 = .ok (.aload_n 3, 1) := by decide +kernel
theorem dX7_of_77 : decode cX7_of 77 = .ok (.invokevirtual 263, 3) := by decide +kernel
theorem dX7_of_80 : decode cX7_of 80 = .ok (.ireturn, 1) := by decide +kernel
theorem dX7_of_81 : decode cX7_of 81 = .ok (.new 77, 3) := by decide +kernel
theorem dX7_of_84 : decode cX7_of 84 = .ok (.dup, 1) := by decide +kernel
theorem dX7_of_85 : decode cX7_of 85 = .ok (.ldc 252, 2) := by decide +kernel
theorem dX7_of_87 : decode cX7_of 87 = .ok (.invokespecial 81, 3) := by decide +kernel
theorem dX7_of_90 : decode cX7_of 90 = .ok (.athrow, 1) := by decide +kernel
theorem dX7_fit_0 : decode cX7_fit 0 = .ok (.aload_n 0, 1) := by decide +kernel
theorem dX7_fit_1 : decode cX7_fit 1 = .ok (.iload_n 1, 1) := by decide +kernel
theorem dX7_fit_2 : decode cX7_fit 2 = .ok (.invokevirtual 169, 3) := by decide +kernel
theorem dX7_fit_5 : decode cX7_fit 5 = .ok (.astore 4, 2) := by decide +kernel
theorem dX7_fit_7 : decode cX7_fit 7 = .ok (.iload_n 2, 1) := by decide +kernel
theorem dX7_fit_8 : decode cX7_fit 8 = .ok (.invokestatic 225, 3) := by decide +kernel
theorem dX7_fit_11 : decode cX7_fit 11 = .ok (.iload_n 3, 1) := by decide +kernel
theorem dX7_fit_12 : decode cX7_fit 12 = .ok (.tableswitch 54 0 2 #[28, 37, 46], 28) := by decide +kernel
theorem dX7_fit_40 : decode cX7_fit 40 = .ok (.aload_n 0, 1) := by decide +kernel
theorem dX7_fit_41 : decode cX7_fit 41 = .ok (.aload 4, 2) := by decide +kernel
theorem dX7_fit_43 : decode cX7_fit 43 = .ok (.iload_n 2, 1) := by decide +kernel
theorem dX7_fit_44 : decode cX7_fit 44 = .ok (.iconst 1, 1) := by decide +kernel
theorem dX7_fit_45 : decode cX7_fit 45 = .ok (.invokevirtual 273, 3) := by decide +kernel
theorem dX7_fit_48 : decode cX7_fit 48 = .ok (.ireturn, 1) := by decide +kernel
theorem dX7_fit_49 : decode cX7_fit 49 = .ok (.aload_n 0, 1) := by decide +kernel
theorem dX7_fit_50 : decode cX7_fit 50 = .ok (.aload 4, 2) := by decide +kernel
theorem dX7_fit_52 : decode cX7_fit 52 = .ok (.iload_n 2, 1) := by decide +kernel
theorem dX7_fit_53 : decode cX7_fit 53 = .ok (.iconst 0, 1) := by decide +kernel
theorem dX7_fit_54 : decode cX7_fit 54 = .ok (.invokevirtual 273, 3) := by decide +kernel
theorem dX7_fit_57 : decode cX7_fit 57 = .ok (.ireturn, 1) := by decide +kernel
theorem dX7_fit_58 : decode cX7_fit 58 = .ok (.aload_n 0, 1) := by decide +kernel
theorem dX7_fit_59 : decode cX7_fit 59 = .ok (.aload 4, 2) := by decide +kernel
theorem dX7_fit_61 : decode cX7_fit 61 = .ok (.iload_n 2, 1) := by decide +kernel
theorem dX7_fit_62 : decode cX7_fit 62 = .ok (.invokevirtual 276, 3) := by decide +kernel
theorem dX7_fit_65 : decode cX7_fit 65 = .ok (.ireturn, 1) := by decide +kernel
theorem dX7_fit_66 : decode cX7_fit 66 = .ok (.new 77, 3) := by decide +kernel
theorem dX7_fit_69 : decode cX7_fit 69 = .ok (.dup, 1) := by decide +kernel
theorem dX7_fit_70 : decode cX7_fit 70 = .ok (.ldc 252, 2) := by decide +kernel
theorem dX7_fit_72 : decode cX7_fit 72 = .ok (.invokespecial 81, 3) := by decide +kernel
theorem dX7_fit_75 : decode cX7_fit 75 = .ok (.athrow, 1) := by decide +kernel
theorem dX7_shared_0 : decode cX7_shared 0 = .ok (.aload_n 0, 1) := by decide +kernel
theorem dX7_shared_1 : decode cX7_shared 1 = .ok (.iload_n 1, 1) := by decide +kernel
theorem dX7_shared_2 : decode cX7_shared 2 = .ok (.invokevirtual 169, 3) := by decide +kernel
theorem dX7_shared_5 : decode cX7_shared 5 = .ok (.astore 4, 2) := by decide +kernel
theorem dX7_shared_7 : decode cX7_shared 7 = .ok (.aload_n 0, 1) := by decide +kernel
theorem dX7_shared_8 : decode cX7_shared 8 = .ok (.iload_n 2, 1) := by decide +kernel
theorem dX7_shared_9 : decode cX7_shared 9 = .ok (.invokevirtual 169, 3) := by decide +kernel
theorem dX7_shared_12 : decode cX7_shared 12 = .ok (.astore 5, 2) := by decide +kernel
theorem dX7_shared_14 : decode cX7_shared 14 = .ok (.iload_n 3, 1) := by decide +kernel
theorem dX7_shared_15 : decode cX7_shared 15 = .ok (.invokestatic 225, 3) := by decide +kernel
theorem dX7_shared_18 : decode cX7_shared 18 = .ok (.aload_n 0, 1) := by decide +kernel
theorem dX7_shared_19 : decode cX7_shared 19 = .ok (.aload 4, 2) := by decide +kernel
theorem dX7_shared_21 : decode cX7_shared 21 = .ok (.aload 5, 2) := by decide +kernel
theorem dX7_shared_23 : decode cX7_shared 23 = .ok (.iload_n 3, 1) := by decide +kernel
theorem dX7_shared_24 : decode cX7_shared 24 = .ok (.invokevirtual 280, 3) := by decide +kernel
theorem dX7_shared_27 : decode cX7_shared 27 = .ok (.ireturn, 1) := by decide +kernel
theorem dX7_kin_0 : decode cX7_kin 0 = .ok (.aload_n 0, 1) := by decide +kernel
theorem dX7_kin_1 : decode cX7_kin 1 = .ok (.iload_n 1, 1) := by decide +kernel
theorem dX7_kin_2 : decode cX7_kin 2 = .ok (.invokevirtual 169, 3) := by decide +kernel
theorem dX7_kin_5 : decode cX7_kin 5 = .ok (.astore_n 3, 1) := by decide +kernel
theorem dX7_kin_6 : decode cX7_kin 6 = .ok (.iload_n 2, 1) := by decide +kernel
theorem dX7_kin_7 : decode cX7_kin 7 = .ok (.invokestatic 225, 3) := by decide +kernel
theorem dX7_kin_10 : decode cX7_kin 10 = .ok (.iconst (-1), 1) := by decide +kernel
theorem dX7_kin_11 : decode cX7_kin 11 = .ok (.istore 4, 2) := by decide +kernel
theorem dX7_kin_13 : decode cX7_kin 13 = .ok (.iconst 0, 1) := by decide +kernel
theorem dX7_kin_14 : decode cX7_kin 14 = .ok (.istore 5, 2) := by decide +kernel
theorem dX7_kin_16 : decode cX7_kin 16 = .ok (.iconst 0, 1) := by decide +kernel
theorem dX7_kin_17 : decode cX7_kin 17 = .ok (.istore 6, 2) := by decide +kernel
theorem dX7_kin_19 : decode cX7_kin 19 = .ok (.iload 6, 2) := by decide +kernel
theorem dX7_kin_21 : decode cX7_kin 21 = .ok (.iload_n 1, 1) := by decide +kernel
theorem dX7_kin_22 : decode cX7_kin 22 = .ok (.if_icmp .ge 39, 3) := by decide +kernel
theorem dX7_kin_25 : decode cX7_kin 25 = .ok (.aload_n 0, 1) := by decide +kernel
theorem dX7_kin_26 : decode cX7_kin 26 = .ok (.aload_n 3, 1) := by decide +kernel
theorem dX7_kin_27 : decode cX7_kin 27 = .ok (.aload_n 0, 1) := by decide +kernel
theorem dX7_kin_28 : decode cX7_kin 28 = .ok (.getfield 45, 3) := by decide +kernel
theorem dX7_kin_31 : decode cX7_kin 31 = .ok (.iload 6, 2) := by decide +kernel
theorem dX7_kin_33 : decode cX7_kin 33 = .ok (.aaload, 1) := by decide +kernel
theorem dX7_kin_34 : decode cX7_kin 34 = .ok (.iload_n 2, 1) := by decide +kernel
theorem dX7_kin_35 : decode cX7_kin 35 = .ok (.invokevirtual 280, 3) := by decide +kernel
theorem dX7_kin_38 : decode cX7_kin 38 = .ok (.istore 7, 2) := by decide +kernel
theorem dX7_kin_40 : decode cX7_kin 40 = .ok (.iload 7, 2) := by decide +kernel
theorem dX7_kin_42 : decode cX7_kin 42 = .ok (.iload 5, 2) := by decide +kernel
theorem dX7_kin_44 : decode cX7_kin 44 = .ok (.if_icmp .le 11, 3) := by decide +kernel
theorem dX7_kin_47 : decode cX7_kin 47 = .ok (.iload 7, 2) := by decide +kernel
theorem dX7_kin_49 : decode cX7_kin 49 = .ok (.istore 5, 2) := by decide +kernel
theorem dX7_kin_51 : decode cX7_kin 51 = .ok (.iload 6, 2) := by decide +kernel
theorem dX7_kin_53 : decode cX7_kin 53 = .ok (.istore 4, 2) := by decide +kernel
theorem dX7_kin_55 : decode cX7_kin 55 = .ok (.iinc 6 1, 3) := by decide +kernel
theorem dX7_kin_58 : decode cX7_kin 58 = .ok (.goto (-39), 3) := by decide +kernel
theorem dX7_kin_61 : decode cX7_kin 61 = .ok (.iload 4, 2) := by decide +kernel
theorem dX7_kin_63 : decode cX7_kin 63 = .ok (.ireturn, 1) := by decide +kernel
theorem dX7_isWithin_0 : decode cX7_isWithin 0 = .ok (.iload_n 0, 1) := by decide +kernel
theorem dX7_isWithin_1 : decode cX7_isWithin 1 = .ok (.iload_n 1, 1) := by decide +kernel
theorem dX7_isWithin_2 : decode cX7_isWithin 2 = .ok (.ineg, 1) := by decide +kernel
theorem dX7_isWithin_3 : decode cX7_isWithin 3 = .ok (.if_icmp .lt 12, 3) := by decide +kernel
theorem dX7_isWithin_6 : decode cX7_isWithin 6 = .ok (.iload_n 0, 1) := by decide +kernel
theorem dX7_isWithin_7 : decode cX7_isWithin 7 = .ok (.iload_n 1, 1) := by decide +kernel
theorem dX7_isWithin_8 : decode cX7_isWithin 8 = .ok (.if_icmp .gt 7, 3) := by decide +kernel
theorem dX7_isWithin_11 : decode cX7_isWithin 11 = .ok (.iconst 1, 1) := by decide +kernel
theorem dX7_isWithin_12 : decode cX7_isWithin 12 = .ok (.goto 4, 3) := by decide +kernel
theorem dX7_isWithin_15 : decode cX7_isWithin 15 = .ok (.iconst 0, 1) := by decide +kernel
theorem dX7_isWithin_16 : decode cX7_isWithin 16 = .ok (.ireturn, 1) := by decide +kernel
theorem dX7_isName_0 : decode cX7_isName 0 = .ok (.iload_n 0, 1) := by decide +kernel
theorem dX7_isName_1 : decode cX7_isName 1 = .ok (.iconst 1, 1) := by decide +kernel
theorem dX7_isName_2 : decode cX7_isName 2 = .ok (.if_icmp .lt 13, 3) := by decide +kernel
theorem dX7_isName_5 : decode cX7_isName 5 = .ok (.iload_n 0, 1) := by decide +kernel
theorem dX7_isName_6 : decode cX7_isName 6 = .ok (.bipush 99, 2) := by decide +kernel
theorem dX7_isName_8 : decode cX7_isName 8 = .ok (.if_icmp .gt 7, 3) := by decide +kernel
theorem dX7_isName_11 : decode cX7_isName 11 = .ok (.iconst 1, 1) := by decide +kernel
theorem dX7_isName_12 : decode cX7_isName 12 = .ok (.goto 4, 3) := by decide +kernel
theorem dX7_isName_15 : decode cX7_isName 15 = .ok (.iconst 0, 1) := by decide +kernel
theorem dX7_isName_16 : decode cX7_isName 16 = .ok (.ireturn, 1) := by decide +kernel
theorem dX7_isYear_0 : decode cX7_isYear 0 = .ok (.iload_n 0, 1) := by decide +kernel
theorem dX7_isYear_1 : decode cX7_isYear 1 = .ok (.ifCond .lt 14, 3) := by decide +kernel
theorem dX7_isYear_4 : decode cX7_isYear 4 = .ok (.iload_n 0, 1) := by decide +kernel
theorem dX7_isYear_5 : decode cX7_isYear 5 = .ok (.sipush 2000, 3) := by decide +kernel
theorem dX7_isYear_8 : decode cX7_isYear 8 = .ok (.if_icmp .gt 7, 3) := by decide +kernel
theorem dX7_isYear_11 : decode cX7_isYear 11 = .ok (.iconst 1, 1) := by decide +kernel
theorem dX7_isYear_12 : decode cX7_isYear 12 = .ok (.goto 4, 3) := by decide +kernel
theorem dX7_isYear_15 : decode cX7_isYear 15 = .ok (.iconst 0, 1) := by decide +kernel
theorem dX7_isYear_16 : decode cX7_isYear 16 = .ok (.ireturn, 1) := by decide +kernel
theorem dX7_firstOf_0 : decode cX7_firstOf 0 = .ok (.iload_n 0, 1) := by decide +kernel
theorem dX7_firstOf_1 : decode cX7_firstOf 1 = .ok (.bipush 8, 2) := by decide +kernel
theorem dX7_firstOf_3 : decode cX7_firstOf 3 = .ok (.imul, 1) := by decide +kernel
theorem dX7_firstOf_4 : decode cX7_firstOf 4 = .ok (.ireturn, 1) := by decide +kernel
theorem dX7_lastOf_0 : decode cX7_lastOf 0 = .ok (.iload_n 0, 1) := by decide +kernel
theorem dX7_lastOf_1 : decode cX7_lastOf 1 = .ok (.invokestatic 284, 3) := by decide +kernel
theorem dX7_lastOf_4 : decode cX7_lastOf 4 = .ok (.bipush 8, 2) := by decide +kernel
theorem dX7_lastOf_6 : decode cX7_lastOf 6 = .ok (.iadd, 1) := by decide +kernel
theorem dX7_lastOf_7 : decode cX7_lastOf 7 = .ok (.iconst 1, 1) := by decide +kernel
theorem dX7_lastOf_8 : decode cX7_lastOf 8 = .ok (.isub, 1) := by decide +kernel
theorem dX7_lastOf_9 : decode cX7_lastOf 9 = .ok (.ireturn, 1) := by decide +kernel
theorem dX7_needPoint_0 : decode cX7_needPoint 0 = .ok (.iload_n 0, 1) := by decide +kernel
theorem dX7_needPoint_1 : decode cX7_needPoint 1 = .ok (.ifCond .lt 9, 3) := by decide +kernel
theorem dX7_needPoint_4 : decode cX7_needPoint 4 = .ok (.iload_n 0, 1) := by decide +kernel
theorem dX7_needPoint_5 : decode cX7_needPoint 5 = .ok (.bipush 24, 2) := by decide +kernel
theorem dX7_needPoint_7 : decode cX7_needPoint 7 = .ok (.if_icmp .lt 14, 3) := by decide +kernel
theorem dX7_needPoint_10 : decode cX7_needPoint 10 = .ok (.new 116, 3) := by decide +kernel
theorem dX7_needPoint_13 : decode cX7_needPoint 13 = .ok (.dup, 1) := by decide +kernel
theorem dX7_needPoint_14 : decode cX7_needPoint 14 = .ok (.ldc_w 299, 3) := by decide +kernel
theorem dX7_needPoint_17 : decode cX7_needPoint 17 = .ok (.invokespecial 120, 3) := by decide +kernel
theorem dX7_needPoint_20 : decode cX7_needPoint 20 = .ok (.athrow, 1) := by decide +kernel
theorem dX7_needPoint_21 : decode cX7_needPoint 21 = .ok (.return_, 1) := by decide +kernel
theorem dX7_needBasin_0 : decode cX7_needBasin 0 = .ok (.iload_n 0, 1) := by decide +kernel
theorem dX7_needBasin_1 : decode cX7_needBasin 1 = .ok (.ifCond .lt 8, 3) := by decide +kernel
theorem dX7_needBasin_4 : decode cX7_needBasin 4 = .ok (.iload_n 0, 1) := by decide +kernel
theorem dX7_needBasin_5 : decode cX7_needBasin 5 = .ok (.iconst 3, 1) := by decide +kernel
theorem dX7_needBasin_6 : decode cX7_needBasin 6 = .ok (.if_icmp .lt 14, 3) := by decide +kernel
theorem dX7_needBasin_9 : decode cX7_needBasin 9 = .ok (.new 116, 3) := by decide +kernel
theorem dX7_needBasin_12 : decode cX7_needBasin 12 = .ok (.dup, 1) := by decide +kernel
theorem dX7_needBasin_13 : decode cX7_needBasin 13 = .ok (.ldc_w 301, 3) := by decide +kernel
theorem dX7_needBasin_16 : decode cX7_needBasin 16 = .ok (.invokespecial 120, 3) := by decide +kernel
theorem dX7_needBasin_19 : decode cX7_needBasin 19 = .ok (.athrow, 1) := by decide +kernel
theorem dX7_needBasin_20 : decode cX7_needBasin 20 = .ok (.return_, 1) := by decide +kernel
theorem dX7_needIsland_0 : decode cX7_needIsland 0 = .ok (.iload_n 1, 1) := by decide +kernel
theorem dX7_needIsland_1 : decode cX7_needIsland 1 = .ok (.ifCond .lt 14, 3) := by decide +kernel
theorem dX7_needIsland_4 : decode cX7_needIsland 4 = .ok (.iload_n 1, 1) := by decide +kernel
theorem dX7_needIsland_5 : decode cX7_needIsland 5 = .ok (.aload_n 0, 1) := by decide +kernel
theorem dX7_needIsland_6 : decode cX7_needIsland 6 = .ok (.getfield 52, 3) := by decide +kernel
theorem dX7_needIsland_9 : decode cX7_needIsland 9 = .ok (.getfield 213, 3) := by decide +kernel
theorem dX7_needIsland_12 : decode cX7_needIsland 12 = .ok (.if_icmp .lt 14, 3) := by decide +kernel
theorem dX7_needIsland_15 : decode cX7_needIsland 15 = .ok (.new 116, 3) := by decide +kernel
theorem dX7_needIsland_18 : decode cX7_needIsland 18 = .ok (.dup, 1) := by decide +kernel
theorem dX7_needIsland_19 : decode cX7_needIsland 19 = .ok (.ldc_w 303, 3) := by decide +kernel
theorem dX7_needIsland_22 : decode cX7_needIsland 22 = .ok (.invokespecial 120, 3) := by decide +kernel
theorem dX7_needIsland_25 : decode cX7_needIsland 25 = .ok (.athrow, 1) := by decide +kernel
theorem dX7_needIsland_26 : decode cX7_needIsland 26 = .ok (.return_, 1) := by decide +kernel
theorem dX7_needRoomForChart_0 : decode cX7_needRoomForChart 0 = .ok (.aload_n 0, 1) := by decide +kernel
theorem dX7_needRoomForChart_1 : decode cX7_needRoomForChart 1 = .ok (.getfield 56, 3) := by decide +kernel
theorem dX7_needRoomForChart_4 : decode cX7_needRoomForChart 4 = .ok (.bipush 12, 2) := by decide +kernel
theorem dX7_needRoomForChart_6 : decode cX7_needRoomForChart 6 = .ok (.if_icmp .lt 14, 3) := by decide +kernel
theorem dX7_needRoomForChart_9 : decode cX7_needRoomForChart 9 = .ok (.new 87, 3) := by decide +kernel
theorem dX7_needRoomForChart_12 : decode cX7_needRoomForChart 12 = .ok (.dup, 1) := by decide +kernel
theorem dX7_needRoomForChart_13 : decode cX7_needRoomForChart 13 = .ok (.ldc_w 305, 3) := by decide +kernel
theorem dX7_needRoomForChart_16 : decode cX7_needRoomForChart 16 = .ok (.invokespecial 91, 3) := by decide +kernel
theorem dX7_needRoomForChart_19 : decode cX7_needRoomForChart 19 = .ok (.athrow, 1) := by decide +kernel
theorem dX7_needRoomForChart_20 : decode cX7_needRoomForChart 20 = .ok (.return_, 1) := by decide +kernel
theorem dX7_chartOf_0 : decode cX7_chartOf 0 = .ok (.iload_n 1, 1) := by decide +kernel
theorem dX7_chartOf_1 : decode cX7_chartOf 1 = .ok (.ifCond .lt 11, 3) := by decide +kernel
theorem dX7_chartOf_4 : decode cX7_chartOf 4 = .ok (.iload_n 1, 1) := by decide +kernel
theorem dX7_chartOf_5 : decode cX7_chartOf 5 = .ok (.aload_n 0, 1) := by decide +kernel
theorem dX7_chartOf_6 : decode cX7_chartOf 6 = .ok (.getfield 56, 3) := by decide +kernel
theorem dX7_chartOf_9 : decode cX7_chartOf 9 = .ok (.if_icmp .lt 14, 3) := by decide +kernel
theorem dX7_chartOf_12 : decode cX7_chartOf 12 = .ok (.new 116, 3) := by decide +kernel
theorem dX7_chartOf_15 : decode cX7_chartOf 15 = .ok (.dup, 1) := by decide +kernel
theorem dX7_chartOf_16 : decode cX7_chartOf 16 = .ok (.ldc_w 307, 3) := by decide +kernel
theorem dX7_chartOf_19 : decode cX7_chartOf 19 = .ok (.invokespecial 120, 3) := by decide +kernel
theorem dX7_chartOf_22 : decode cX7_chartOf 22 = .ok (.athrow, 1) := by decide +kernel
theorem dX7_chartOf_23 : decode cX7_chartOf 23 = .ok (.aload_n 0, 1) := by decide +kernel
theorem dX7_chartOf_24 : decode cX7_chartOf 24 = .ok (.getfield 45, 3) := by decide +kernel
theorem dX7_chartOf_27 : decode cX7_chartOf 27 = .ok (.iload_n 1, 1) := by decide +kernel
theorem dX7_chartOf_28 : decode cX7_chartOf 28 = .ok (.aaload, 1) := by decide +kernel
theorem dX7_chartOf_29 : decode cX7_chartOf 29 = .ok (.areturn, 1) := by decide +kernel
theorem dX7_copyistOf_0 : decode cX7_copyistOf 0 = .ok (.iload_n 1, 1) := by decide +kernel
theorem dX7_copyistOf_1 : decode cX7_copyistOf 1 = .ok (.ifCond .lt 8, 3) := by decide +kernel
theorem dX7_copyistOf_4 : decode cX7_copyistOf 4 = .ok (.iload_n 1, 1) := by decide +kernel
theorem dX7_copyistOf_5 : decode cX7_copyistOf 5 = .ok (.iconst 4, 1) := by decide +kernel
theorem dX7_copyistOf_6 : decode cX7_copyistOf 6 = .ok (.if_icmp .lt 14, 3) := by decide +kernel
theorem dX7_copyistOf_9 : decode cX7_copyistOf 9 = .ok (.new 116, 3) := by decide +kernel
theorem dX7_copyistOf_12 : decode cX7_copyistOf 12 = .ok (.dup, 1) := by decide +kernel
theorem dX7_copyistOf_13 : decode cX7_copyistOf 13 = .ok (.ldc_w 309, 3) := by decide +kernel
theorem dX7_copyistOf_16 : decode cX7_copyistOf 16 = .ok (.invokespecial 120, 3) := by decide +kernel
theorem dX7_copyistOf_19 : decode cX7_copyistOf 19 = .ok (.athrow, 1) := by decide +kernel
theorem dX7_copyistOf_20 : decode cX7_copyistOf 20 = .ok (.aload_n 0, 1) := by decide +kernel
theorem dX7_copyistOf_21 : decode cX7_copyistOf 21 = .ok (.getfield 39, 3) := by decide +kernel
theorem dX7_copyistOf_24 : decode cX7_copyistOf 24 = .ok (.iload_n 1, 1) := by decide +kernel
theorem dX7_copyistOf_25 : decode cX7_copyistOf 25 = .ok (.aaload, 1) := by decide +kernel
theorem dX7_copyistOf_26 : decode cX7_copyistOf 26 = .ok (.areturn, 1) := by decide +kernel
theorem dX7_layOut_0 : decode cX7_layOut 0 = .ok (.iconst 1, 1) := by decide +kernel
theorem dX7_layOut_1 : decode cX7_layOut 1 = .ok (.istore_n 3, 1) := by decide +kernel
theorem dX7_layOut_2 : decode cX7_layOut 2 = .ok (.iconst 0, 1) := by decide +kernel
theorem dX7_layOut_3 : decode cX7_layOut 3 = .ok (.istore 4, 2) := by decide +kernel
theorem dX7_layOut_5 : decode cX7_layOut 5 = .ok (.iload 4, 2) := by decide +kernel
theorem dX7_layOut_7 : decode cX7_layOut 7 = .ok (.bipush 24, 2) := by decide +kernel
theorem dX7_layOut_9 : decode cX7_layOut 9 = .ok (.if_icmp .ge 28, 3) := by decide +kernel
theorem dX7_layOut_12 : decode cX7_layOut 12 = .ok (.iload_n 3, 1) := by decide +kernel
theorem dX7_layOut_13 : decode cX7_layOut 13 = .ok (.ifCond .eq 24, 3) := by decide +kernel
theorem dX7_layOut_16 : decode cX7_layOut 16 = .ok (.aload_n 0, 1) := by decide +kernel
theorem dX7_layOut_17 : decode cX7_layOut 17 = .ok (.aload_n 1, 1) := by decide +kernel
theorem dX7_layOut_18 : decode cX7_layOut 18 = .ok (.iload_n 2, 1) := by decide +kernel
theorem dX7_layOut_19 : decode cX7_layOut 19 = .ok (.invokevirtual 311, 3) := by decide +kernel
theorem dX7_layOut_22 : decode cX7_layOut 22 = .ok (.aload_n 0, 1) := by decide +kernel
theorem dX7_layOut_23 : decode cX7_layOut 23 = .ok (.getfield 33, 3) := by decide +kernel
theorem dX7_layOut_26 : decode cX7_layOut 26 = .ok (.aload_n 1, 1) := by decide +kernel
theorem dX7_layOut_27 : decode cX7_layOut 27 = .ok (.invokevirtual 314, 3) := by decide +kernel
theorem dX7_layOut_30 : decode cX7_layOut 30 = .ok (.istore_n 3, 1) := by decide +kernel
theorem dX7_layOut_31 : decode cX7_layOut 31 = .ok (.iinc 4 1, 3) := by decide +kernel
theorem dX7_layOut_34 : decode cX7_layOut 34 = .ok (.goto (-29), 3) := by decide +kernel
theorem dX7_layOut_37 : decode cX7_layOut 37 = .ok (.return_, 1) := by decide +kernel
theorem dX7_gather_0 : decode cX7_gather 0 = .ok (.aload_n 0, 1) := by decide +kernel
theorem dX7_gather_1 : decode cX7_gather 1 = .ok (.getfield 33, 3) := by decide +kernel
theorem dX7_gather_4 : decode cX7_gather 4 = .ok (.invokevirtual 318, 3) := by decide +kernel
theorem dX7_gather_7 : decode cX7_gather 7 = .ok (.iconst 0, 1) := by decide +kernel
theorem dX7_gather_8 : decode cX7_gather 8 = .ok (.istore_n 3, 1) := by decide +kernel
theorem dX7_gather_9 : decode cX7_gather 9 = .ok (.iload_n 3, 1) := by decide +kernel
theorem dX7_gather_10 : decode cX7_gather 10 = .ok (.iload_n 2, 1) := by decide +kernel
theorem dX7_gather_11 : decode cX7_gather 11 = .ok (.if_icmp .ge 156, 3) := by decide +kernel
theorem dX7_gather_14 : decode cX7_gather 14 = .ok (.aload_n 0, 1) := by decide +kernel
theorem dX7_gather_15 : decode cX7_gather 15 = .ok (.getfield 26, 3) := by decide +kernel
theorem dX7_gather_18 : decode cX7_gather 18 = .ok (.getfield 125, 3) := by decide +kernel
theorem dX7_gather_21 : decode cX7_gather 21 = .ok (.iload_n 3, 1) := by decide +kernel
theorem dX7_gather_22 : decode cX7_gather 22 = .ok (.iaload, 1) := by decide +kernel
theorem dX7_gather_23 : decode cX7_gather 23 = .ok (.istore 4, 2) := by decide +kernel
theorem dX7_gather_25 : decode cX7_gather 25 = .ok (.aload_n 0, 1) := by decide +kernel
theorem dX7_gather_26 : decode cX7_gather 26 = .ok (.getfield 26, 3) := by decide +kernel
theorem dX7_gather_29 : decode cX7_gather 29 = .ok (.getfield 128, 3) := by decide +kernel
theorem dX7_gather_32 : decode cX7_gather 32 = .ok (.iload_n 3, 1) := by decide +kernel
theorem dX7_gather_33 : decode cX7_gather 33 = .ok (.iaload, 1) := by decide +kernel
theorem dX7_gather_34 : decode cX7_gather 34 = .ok (.istore 5, 2) := by decide +kernel
theorem dX7_gather_36 : decode cX7_gather 36 = .ok (.aload_n 1, 1) := by decide +kernel
theorem dX7_gather_37 : decode cX7_gather 37 = .ok (.iload 4, 2) := by decide +kernel
theorem dX7_gather_39 : decode cX7_gather 39 = .ok (.invokevirtual 179, 3) := by decide +kernel
theorem dX7_gather_42 : decode cX7_gather 42 = .ok (.istore 6, 2) := by decide +kernel
theorem dX7_gather_44 : decode cX7_gather 44 = .ok (.aload_n 1, 1) := by decide +kernel
theorem dX7_gather_45 : decode cX7_gather 45 = .ok (.iload 5, 2) := by decide +kernel
theorem dX7_gather_47 : decode cX7_gather 47 = .ok (.invokevirtual 179, 3) := by decide +kernel
theorem dX7_gather_50 : decode cX7_gather 50 = .ok (.istore 7, 2) := by decide +kernel
theorem dX7_gather_52 : decode cX7_gather 52 = .ok (.iload 6, 2) := by decide +kernel
theorem dX7_gather_54 : decode cX7_gather 54 = .ok (.ifCond .eq 54, 3) := by decide +kernel
theorem dX7_gather_57 : decode cX7_gather 57 = .ok (.iload 7, 2) := by decide +kernel
theorem dX7_gather_59 : decode cX7_gather 59 = .ok (.ifCond .ne 49, 3) := by decide +kernel
theorem dX7_gather_62 : decode cX7_gather 62 = .ok (.aload_n 0, 1) := by decide +kernel
theorem dX7_gather_63 : decode cX7_gather 63 = .ok (.getfield 33, 3) := by decide +kernel
theorem dX7_gather_66 : decode cX7_gather 66 = .ok (.iload 5, 2) := by decide +kernel
theorem dX7_gather_68 : decode cX7_gather 68 = .ok (.aload_n 1, 1) := by decide +kernel
theorem dX7_gather_69 : decode cX7_gather 69 = .ok (.getfield 182, 3) := by decide +kernel
theorem dX7_gather_72 : decode cX7_gather 72 = .ok (.iload 4, 2) := by decide +kernel
theorem dX7_gather_74 : decode cX7_gather 74 = .ok (.iaload, 1) := by decide +kernel
theorem dX7_gather_75 : decode cX7_gather 75 = .ok (.aload_n 0, 1) := by decide +kernel
theorem dX7_gather_76 : decode cX7_gather 76 = .ok (.getfield 26, 3) := by decide +kernel
theorem dX7_gather_79 : decode cX7_gather 79 = .ok (.getfield 131, 3) := by decide +kernel
theorem dX7_gather_82 : decode cX7_gather 82 = .ok (.iload_n 3, 1) := by decide +kernel
theorem dX7_gather_83 : decode cX7_gather 83 = .ok (.iaload, 1) := by decide +kernel
theorem dX7_gather_84 : decode cX7_gather 84 = .ok (.iadd, 1) := by decide +kernel
theorem dX7_gather_85 : decode cX7_gather 85 = .ok (.aload_n 1, 1) := by decide +kernel
theorem dX7_gather_86 : decode cX7_gather 86 = .ok (.getfield 187, 3) := by decide +kernel
theorem dX7_gather_89 : decode cX7_gather 89 = .ok (.iload 4, 2) := by decide +kernel
theorem dX7_gather_91 : decode cX7_gather 91 = .ok (.iaload, 1) := by decide +kernel
theorem dX7_gather_92 : decode cX7_gather 92 = .ok (.aload_n 0, 1) := by decide +kernel
theorem dX7_gather_93 : decode cX7_gather 93 = .ok (.getfield 26, 3) := by decide +kernel
theorem dX7_gather_96 : decode cX7_gather 96 = .ok (.getfield 132, 3) := by decide +kernel
theorem dX7_gather_99 : decode cX7_gather 99 = .ok (.iload_n 3, 1) := by decide +kernel
theorem dX7_gather_100 : decode cX7_gather 100 = .ok (.iaload, 1) := by decide +kernel
theorem dX7_gather_101 : decode cX7_gather 101 = .ok (.iadd, 1) := by decide +kernel
theorem dX7_gather_102 : decode cX7_gather 102 = .ok (.invokevirtual 321, 3) := by decide +kernel
theorem dX7_gather_105 : decode cX7_gather 105 = .ok (.goto 56, 3) := by decide +kernel
theorem dX7_gather_108 : decode cX7_gather 108 = .ok (.iload 7, 2) := by decide +kernel
theorem dX7_gather_110 : decode cX7_gather 110 = .ok (.ifCond .eq 51, 3) := by decide +kernel
theorem dX7_gather_113 : decode cX7_gather 113 = .ok (.iload 6, 2) := by decide +kernel
theorem dX7_gather_115 : decode cX7_gather 115 = .ok (.ifCond .ne 46, 3) := by decide +kernel
theorem dX7_gather_118 : decode cX7_gather 118 = .ok (.aload_n 0, 1) := by decide +kernel
theorem dX7_gather_119 : decode cX7_gather 119 = .ok (.getfield 33, 3) := by decide +kernel
theorem dX7_gather_122 : decode cX7_gather 122 = .ok (.iload 4, 2) := by decide +kernel
theorem dX7_gather_124 : decode cX7_gather 124 = .ok (.aload_n 1, 1) := by decide +kernel
theorem dX7_gather_125 : decode cX7_gather 125 = .ok (.getfield 182, 3) := by decide +kernel
theorem dX7_gather_128 : decode cX7_gather 128 = .ok (.iload 5, 2) := by decide +kernel
theorem dX7_gather_130 : decode cX7_gather 130 = .ok (.iaload, 1) := by decide +kernel
theorem dX7_gather_131 : decode cX7_gather 131 = .ok (.aload_n 0, 1) := by decide +kernel
theorem dX7_gather_132 : decode cX7_gather 132 = .ok (.getfield 26, 3) := by decide +kernel
theorem dX7_gather_135 : decode cX7_gather 135 = .ok (.getfield 131, 3) := by decide +kernel
theorem dX7_gather_138 : decode cX7_gather 138 = .ok (.iload_n 3, 1) := by decide +kernel
theorem dX7_gather_139 : decode cX7_gather 139 = .ok (.iaload, 1) := by decide +kernel
theorem dX7_gather_140 : decode cX7_gather 140 = .ok (.isub, 1) := by decide +kernel
theorem dX7_gather_141 : decode cX7_gather 141 = .ok (.aload_n 1, 1) := by decide +kernel
theorem dX7_gather_142 : decode cX7_gather 142 = .ok (.getfield 187, 3) := by decide +kernel
theorem dX7_gather_145 : decode cX7_gather 145 = .ok (.iload 5, 2) := by decide +kernel
theorem dX7_gather_147 : decode cX7_gather 147 = .ok (.iaload, 1) := by decide +kernel
theorem dX7_gather_148 : decode cX7_gather 148 = .ok (.aload_n 0, 1) := by decide +kernel
theorem dX7_gather_149 : decode cX7_gather 149 = .ok (.getfield 26, 3) := by decide +kernel
theorem dX7_gather_152 : decode cX7_gather 152 = .ok (.getfield 132, 3) := by decide +kernel
theorem dX7_gather_155 : decode cX7_gather 155 = .ok (.iload_n 3, 1) := by decide +kernel
theorem dX7_gather_156 : decode cX7_gather 156 = .ok (.iaload, 1) := by decide +kernel
theorem dX7_gather_157 : decode cX7_gather 157 = .ok (.isub, 1) := by decide +kernel
theorem dX7_gather_158 : decode cX7_gather 158 = .ok (.invokevirtual 321, 3) := by decide +kernel
theorem dX7_gather_161 : decode cX7_gather 161 = .ok (.iinc 3 1, 3) := by decide +kernel
theorem dX7_gather_164 : decode cX7_gather 164 = .ok (.goto (-155), 3) := by decide +kernel
theorem dX7_gather_167 : decode cX7_gather 167 = .ok (.return_, 1) := by decide +kernel
theorem dX7_drawn_0 : decode cX7_drawn 0 = .ok (.iload_n 1, 1) := by decide +kernel
theorem dX7_drawn_1 : decode cX7_drawn 1 = .ok (.lookupswitch 37 #[(1, 27), (2, 33)], 27) := by decide +kernel
theorem dX7_drawn_28 : decode cX7_drawn 28 = .ok (.iload_n 0, 1) := by decide +kernel
theorem dX7_drawn_29 : decode cX7_drawn 29 = .ok (.iconst 5, 1) := by decide +kernel
theorem dX7_drawn_30 : decode cX7_drawn 30 = .ok (.idiv, 1) := by decide +kernel
theorem dX7_drawn_31 : decode cX7_drawn 31 = .ok (.iconst 5, 1) := by decide +kernel
theorem dX7_drawn_32 : decode cX7_drawn 32 = .ok (.imul, 1) := by decide +kernel
theorem dX7_drawn_33 : decode cX7_drawn 33 = .ok (.ireturn, 1) := by decide +kernel
theorem dX7_drawn_34 : decode cX7_drawn 34 = .ok (.iload_n 0, 1) := by decide +kernel
theorem dX7_drawn_35 : decode cX7_drawn 35 = .ok (.iload_n 2, 1) := by decide +kernel
theorem dX7_drawn_36 : decode cX7_drawn 36 = .ok (.iadd, 1) := by decide +kernel
theorem dX7_drawn_37 : decode cX7_drawn 37 = .ok (.ireturn, 1) := by decide +kernel
theorem dX7_drawn_38 : decode cX7_drawn 38 = .ok (.iload_n 0, 1) := by decide +kernel
theorem dX7_drawn_39 : decode cX7_drawn 39 = .ok (.ireturn, 1) := by decide +kernel
theorem dX7_sourceOf_0 : decode cX7_sourceOf 0 = .ok (.iload_n 1, 1) := by decide +kernel
theorem dX7_sourceOf_1 : decode cX7_sourceOf 1 = .ok (.ifCond .lt 25, 3) := by decide +kernel
theorem dX7_sourceOf_4 : decode cX7_sourceOf 4 = .ok (.iload_n 1, 1) := by decide +kernel
theorem dX7_sourceOf_5 : decode cX7_sourceOf 5 = .ok (.aload_n 0, 1) := by decide +kernel
theorem dX7_sourceOf_6 : decode cX7_sourceOf 6 = .ok (.getfield 56, 3) := by decide +kernel
theorem dX7_sourceOf_9 : decode cX7_sourceOf 9 = .ok (.if_icmp .ge 17, 3) := by decide +kernel
theorem dX7_sourceOf_12 : decode cX7_sourceOf 12 = .ok (.aload_n 0, 1) := by decide +kernel
theorem dX7_sourceOf_13 : decode cX7_sourceOf 13 = .ok (.getfield 45, 3) := by decide +kernel
theorem dX7_sourceOf_16 : decode cX7_sourceOf 16 = .ok (.iload_n 1, 1) := by decide +kernel
theorem dX7_sourceOf_17 : decode cX7_sourceOf 17 = .ok (.aaload, 1) := by decide +kernel
theorem dX7_sourceOf_18 : decode cX7_sourceOf 18 = .ok (.getfield 244, 3) := by decide +kernel
theorem dX7_sourceOf_21 : decode cX7_sourceOf 21 = .ok (.iload_n 2, 1) := by decide +kernel
theorem dX7_sourceOf_22 : decode cX7_sourceOf 22 = .ok (.iaload, 1) := by decide +kernel
theorem dX7_sourceOf_23 : decode cX7_sourceOf 23 = .ok (.goto 4, 3) := by decide +kernel
theorem dX7_sourceOf_26 : decode cX7_sourceOf 26 = .ok (.iconst (-1), 1) := by decide +kernel
theorem dX7_sourceOf_27 : decode cX7_sourceOf 27 = .ok (.ireturn, 1) := by decide +kernel
theorem dX7_leadsBack_0 : decode cX7_leadsBack 0 = .ok (.iload_n 3, 1) := by decide +kernel
theorem dX7_leadsBack_1 : decode cX7_leadsBack 1 = .ok (.istore 5, 2) := by decide +kernel
theorem dX7_leadsBack_3 : decode cX7_leadsBack 3 = .ok (.iload 5, 2) := by decide +kernel
theorem dX7_leadsBack_5 : decode cX7_leadsBack 5 = .ok (.iload 4, 2) := by decide +kernel
theorem dX7_leadsBack_7 : decode cX7_leadsBack 7 = .ok (.if_icmp .gt 52, 3) := by decide +kernel
theorem dX7_leadsBack_10 : decode cX7_leadsBack 10 = .ok (.iload_n 2, 1) := by decide +kernel
theorem dX7_leadsBack_11 : decode cX7_leadsBack 11 = .ok (.istore 6, 2) := by decide +kernel
theorem dX7_leadsBack_13 : decode cX7_leadsBack 13 = .ok (.iconst 0, 1) := by decide +kernel
theorem dX7_leadsBack_14 : decode cX7_leadsBack 14 = .ok (.istore 7, 2) := by decide +kernel
theorem dX7_leadsBack_16 : decode cX7_leadsBack 16 = .ok (.iload 7, 2) := by decide +kernel
theorem dX7_leadsBack_18 : decode cX7_leadsBack 18 = .ok (.bipush 12, 2) := by decide +kernel
theorem dX7_leadsBack_20 : decode cX7_leadsBack 20 = .ok (.if_icmp .ge 33, 3) := by decide +kernel
theorem dX7_leadsBack_23 : decode cX7_leadsBack 23 = .ok (.iload 6, 2) := by decide +kernel
theorem dX7_leadsBack_25 : decode cX7_leadsBack 25 = .ok (.iconst (-1), 1) := by decide +kernel
theorem dX7_leadsBack_26 : decode cX7_leadsBack 26 = .ok (.if_icmp .eq 27, 3) := by decide +kernel
theorem dX7_leadsBack_29 : decode cX7_leadsBack 29 = .ok (.aload_n 0, 1) := by decide +kernel
theorem dX7_leadsBack_30 : decode cX7_leadsBack 30 = .ok (.iload 6, 2) := by decide +kernel
theorem dX7_leadsBack_32 : decode cX7_leadsBack 32 = .ok (.iload 5, 2) := by decide +kernel
theorem dX7_leadsBack_34 : decode cX7_leadsBack 34 = .ok (.invokevirtual 256, 3) := by decide +kernel
theorem dX7_leadsBack_37 : decode cX7_leadsBack 37 = .ok (.istore 6, 2) := by decide +kernel
theorem dX7_leadsBack_39 : decode cX7_leadsBack 39 = .ok (.iload 6, 2) := by decide +kernel
theorem dX7_leadsBack_41 : decode cX7_leadsBack 41 = .ok (.iload_n 1, 1) := by decide +kernel
theorem dX7_leadsBack_42 : decode cX7_leadsBack 42 = .ok (.if_icmp .ne 5, 3) := by decide +kernel
theorem dX7_leadsBack_45 : decode cX7_leadsBack 45 = .ok (.iconst 1, 1) := by decide +kernel
theorem dX7_leadsBack_46 : decode cX7_leadsBack 46 = .ok (.ireturn, 1) := by decide +kernel
theorem dX7_leadsBack_47 : decode cX7_leadsBack 47 = .ok (.iinc 7 1, 3) := by decide +kernel
theorem dX7_leadsBack_50 : decode cX7_leadsBack 50 = .ok (.goto (-34), 3) := by decide +kernel
theorem dX7_leadsBack_53 : decode cX7_leadsBack 53 = .ok (.iinc 5 1, 3) := by decide +kernel
theorem dX7_leadsBack_56 : decode cX7_leadsBack 56 = .ok (.goto (-53), 3) := by decide +kernel
theorem dX7_leadsBack_59 : decode cX7_leadsBack 59 = .ok (.iconst 0, 1) := by decide +kernel
theorem dX7_leadsBack_60 : decode cX7_leadsBack 60 = .ok (.ireturn, 1) := by decide +kernel
theorem dX7_errorOf_0 : decode cX7_errorOf 0 = .ok (.iload_n 3, 1) := by decide +kernel
theorem dX7_errorOf_1 : decode cX7_errorOf 1 = .ok (.ifCond .eq 22, 3) := by decide +kernel
theorem dX7_errorOf_4 : decode cX7_errorOf 4 = .ok (.aload_n 1, 1) := by decide +kernel
theorem dX7_errorOf_5 : decode cX7_errorOf 5 = .ok (.getfield 182, 3) := by decide +kernel
theorem dX7_errorOf_8 : decode cX7_errorOf 8 = .ok (.iload_n 2, 1) := by decide +kernel
theorem dX7_errorOf_9 : decode cX7_errorOf 9 = .ok (.iaload, 1) := by decide +kernel
theorem dX7_errorOf_10 : decode cX7_errorOf 10 = .ok (.aload_n 0, 1) := by decide +kernel
theorem dX7_errorOf_11 : decode cX7_errorOf 11 = .ok (.getfield 10, 3) := by decide +kernel
theorem dX7_errorOf_14 : decode cX7_errorOf 14 = .ok (.getfield 92, 3) := by decide +kernel
theorem dX7_errorOf_17 : decode cX7_errorOf 17 = .ok (.iload_n 2, 1) := by decide +kernel
theorem dX7_errorOf_18 : decode cX7_errorOf 18 = .ok (.iaload, 1) := by decide +kernel
theorem dX7_errorOf_19 : decode cX7_errorOf 19 = .ok (.isub, 1) := by decide +kernel
theorem dX7_errorOf_20 : decode cX7_errorOf 20 = .ok (.goto 19, 3) := by decide +kernel
theorem dX7_errorOf_23 : decode cX7_errorOf 23 = .ok (.aload_n 1, 1) := by decide +kernel
theorem dX7_errorOf_24 : decode cX7_errorOf 24 = .ok (.getfield 187, 3) := by decide +kernel
theorem dX7_errorOf_27 : decode cX7_errorOf 27 = .ok (.iload_n 2, 1) := by decide +kernel
theorem dX7_errorOf_28 : decode cX7_errorOf 28 = .ok (.iaload, 1) := by decide +kernel
theorem dX7_errorOf_29 : decode cX7_errorOf 29 = .ok (.aload_n 0, 1) := by decide +kernel
theorem dX7_errorOf_30 : decode cX7_errorOf 30 = .ok (.getfield 10, 3) := by decide +kernel
theorem dX7_errorOf_33 : decode cX7_errorOf 33 = .ok (.getfield 96, 3) := by decide +kernel
theorem dX7_errorOf_36 : decode cX7_errorOf 36 = .ok (.iload_n 2, 1) := by decide +kernel
theorem dX7_errorOf_37 : decode cX7_errorOf 37 = .ok (.iaload, 1) := by decide +kernel
theorem dX7_errorOf_38 : decode cX7_errorOf 38 = .ok (.isub, 1) := by decide +kernel
theorem dX7_errorOf_39 : decode cX7_errorOf 39 = .ok (.ireturn, 1) := by decide +kernel
theorem dX7_hasTrueName_0 : decode cX7_hasTrueName 0 = .ok (.aload_n 1, 1) := by decide +kernel
theorem dX7_hasTrueName_1 : decode cX7_hasTrueName 1 = .ok (.getfield 143, 3) := by decide +kernel
theorem dX7_hasTrueName_4 : decode cX7_hasTrueName 4 = .ok (.iload_n 2, 1) := by decide +kernel
theorem dX7_hasTrueName_5 : decode cX7_hasTrueName 5 = .ok (.iaload, 1) := by decide +kernel
theorem dX7_hasTrueName_6 : decode cX7_hasTrueName 6 = .ok (.aload_n 0, 1) := by decide +kernel
theorem dX7_hasTrueName_7 : decode cX7_hasTrueName 7 = .ok (.getfield 10, 3) := by decide +kernel
theorem dX7_hasTrueName_10 : decode cX7_hasTrueName 10 = .ok (.getfield 99, 3) := by decide +kernel
theorem dX7_hasTrueName_13 : decode cX7_hasTrueName 13 = .ok (.iload_n 2, 1) := by decide +kernel
theorem dX7_hasTrueName_14 : decode cX7_hasTrueName 14 = .ok (.iaload, 1) := by decide +kernel
theorem dX7_hasTrueName_15 : decode cX7_hasTrueName 15 = .ok (.if_icmp .ne 7, 3) := by decide +kernel
theorem dX7_hasTrueName_18 : decode cX7_hasTrueName 18 = .ok (.iconst 1, 1) := by decide +kernel
theorem dX7_hasTrueName_19 : decode cX7_hasTrueName 19 = .ok (.goto 4, 3) := by decide +kernel
theorem dX7_hasTrueName_22 : decode cX7_hasTrueName 22 = .ok (.iconst 0, 1) := by decide +kernel
theorem dX7_hasTrueName_23 : decode cX7_hasTrueName 23 = .ok (.ireturn, 1) := by decide +kernel
theorem dX7_falseNames_0 : decode cX7_falseNames 0 = .ok (.iconst 0, 1) := by decide +kernel
theorem dX7_falseNames_1 : decode cX7_falseNames 1 = .ok (.istore_n 2, 1) := by decide +kernel
theorem dX7_falseNames_2 : decode cX7_falseNames 2 = .ok (.iconst 0, 1) := by decide +kernel
theorem dX7_falseNames_3 : decode cX7_falseNames 3 = .ok (.istore_n 3, 1) := by decide +kernel
theorem dX7_falseNames_4 : decode cX7_falseNames 4 = .ok (.iload_n 3, 1) := by decide +kernel
theorem dX7_falseNames_5 : decode cX7_falseNames 5 = .ok (.bipush 24, 2) := by decide +kernel
theorem dX7_falseNames_7 : decode cX7_falseNames 7 = .ok (.if_icmp .ge 21, 3) := by decide +kernel
theorem dX7_falseNames_10 : decode cX7_falseNames 10 = .ok (.aload_n 0, 1) := by decide +kernel
theorem dX7_falseNames_11 : decode cX7_falseNames 11 = .ok (.aload_n 1, 1) := by decide +kernel
theorem dX7_falseNames_12 : decode cX7_falseNames 12 = .ok (.iload_n 3, 1) := by decide +kernel
theorem dX7_falseNames_13 : decode cX7_falseNames 13 = .ok (.invokevirtual 290, 3) := by decide +kernel
theorem dX7_falseNames_16 : decode cX7_falseNames 16 = .ok (.ifCond .ne 6, 3) := by decide +kernel
theorem dX7_falseNames_19 : decode cX7_falseNames 19 = .ok (.iinc 2 1, 3) := by decide +kernel
theorem dX7_falseNames_22 : decode cX7_falseNames 22 = .ok (.iinc 3 1, 3) := by decide +kernel
theorem dX7_falseNames_25 : decode cX7_falseNames 25 = .ok (.goto (-21), 3) := by decide +kernel
theorem dX7_falseNames_28 : decode cX7_falseNames 28 = .ok (.iload_n 2, 1) := by decide +kernel
theorem dX7_falseNames_29 : decode cX7_falseNames 29 = .ok (.ireturn, 1) := by decide +kernel
theorem dX7_shift_0 : decode cX7_shift 0 = .ok (.iconst 0, 1) := by decide +kernel
theorem dX7_shift_1 : decode cX7_shift 1 = .ok (.istore 4, 2) := by decide +kernel
theorem dX7_shift_3 : decode cX7_shift 3 = .ok (.iconst 0, 1) := by decide +kernel
theorem dX7_shift_4 : decode cX7_shift 4 = .ok (.istore 5, 2) := by decide +kernel
theorem dX7_shift_6 : decode cX7_shift 6 = .ok (.iload_n 2, 1) := by decide +kernel
theorem dX7_shift_7 : decode cX7_shift 7 = .ok (.invokestatic 284, 3) := by decide +kernel
theorem dX7_shift_10 : decode cX7_shift 10 = .ok (.istore 6, 2) := by decide +kernel
theorem dX7_shift_12 : decode cX7_shift 12 = .ok (.iload 6, 2) := by decide +kernel
theorem dX7_shift_14 : decode cX7_shift 14 = .ok (.iload_n 2, 1) := by decide +kernel
theorem dX7_shift_15 : decode cX7_shift 15 = .ok (.invokestatic 287, 3) := by decide +kernel
theorem dX7_shift_18 : decode cX7_shift 18 = .ok (.if_icmp .gt 34, 3) := by decide +kernel
theorem dX7_shift_21 : decode cX7_shift 21 = .ok (.aload_n 1, 1) := by decide +kernel
theorem dX7_shift_22 : decode cX7_shift 22 = .ok (.iload 6, 2) := by decide +kernel
theorem dX7_shift_24 : decode cX7_shift 24 = .ok (.invokevirtual 179, 3) := by decide +kernel
theorem dX7_shift_27 : decode cX7_shift 27 = .ok (.ifCond .eq 19, 3) := by decide +kernel
theorem dX7_shift_30 : decode cX7_shift 30 = .ok (.iload 5, 2) := by decide +kernel
theorem dX7_shift_32 : decode cX7_shift 32 = .ok (.aload_n 0, 1) := by decide +kernel
theorem dX7_shift_33 : decode cX7_shift 33 = .ok (.aload_n 1, 1) := by decide +kernel
theorem dX7_shift_34 : decode cX7_shift 34 = .ok (.iload 6, 2) := by decide +kernel
theorem dX7_shift_36 : decode cX7_shift 36 = .ok (.iload_n 3, 1) := by decide +kernel
theorem dX7_shift_37 : decode cX7_shift 37 = .ok (.invokevirtual 247, 3) := by decide +kernel
theorem dX7_shift_40 : decode cX7_shift 40 = .ok (.iadd, 1) := by decide +kernel
theorem dX7_shift_41 : decode cX7_shift 41 = .ok (.istore 5, 2) := by decide +kernel
theorem dX7_shift_43 : decode cX7_shift 43 = .ok (.iinc 4 1, 3) := by decide +kernel
theorem dX7_shift_46 : decode cX7_shift 46 = .ok (.iinc 6 1, 3) := by decide +kernel
theorem dX7_shift_49 : decode cX7_shift 49 = .ok (.goto (-37), 3) := by decide +kernel
theorem dX7_shift_52 : decode cX7_shift 52 = .ok (.iload 4, 2) := by decide +kernel
theorem dX7_shift_54 : decode cX7_shift 54 = .ok (.ifCond .le 11, 3) := by decide +kernel
theorem dX7_shift_57 : decode cX7_shift 57 = .ok (.iload 5, 2) := by decide +kernel
theorem dX7_shift_59 : decode cX7_shift 59 = .ok (.iload 4, 2) := by decide +kernel
theorem dX7_shift_61 : decode cX7_shift 61 = .ok (.idiv, 1) := by decide +kernel
theorem dX7_shift_62 : decode cX7_shift 62 = .ok (.goto 4, 3) := by decide +kernel
theorem dX7_shift_65 : decode cX7_shift 65 = .ok (.iconst 0, 1) := by decide +kernel
theorem dX7_shift_66 : decode cX7_shift 66 = .ok (.ireturn, 1) := by decide +kernel
theorem dX7_residual_0 : decode cX7_residual 0 = .ok (.aload_n 0, 1) := by decide +kernel
theorem dX7_residual_1 : decode cX7_residual 1 = .ok (.aload_n 1, 1) := by decide +kernel
theorem dX7_residual_2 : decode cX7_residual 2 = .ok (.iload_n 2, 1) := by decide +kernel
theorem dX7_residual_3 : decode cX7_residual 3 = .ok (.iconst 1, 1) := by decide +kernel
theorem dX7_residual_4 : decode cX7_residual 4 = .ok (.invokevirtual 273, 3) := by decide +kernel
theorem dX7_residual_7 : decode cX7_residual 7 = .ok (.istore_n 3, 1) := by decide +kernel
theorem dX7_residual_8 : decode cX7_residual 8 = .ok (.aload_n 0, 1) := by decide +kernel
theorem dX7_residual_9 : decode cX7_residual 9 = .ok (.aload_n 1, 1) := by decide +kernel
theorem dX7_residual_10 : decode cX7_residual 10 = .ok (.iload_n 2, 1) := by decide +kernel
theorem dX7_residual_11 : decode cX7_residual 11 = .ok (.iconst 0, 1) := by decide +kernel
theorem dX7_residual_12 : decode cX7_residual 12 = .ok (.invokevirtual 273, 3) := by decide +kernel
theorem dX7_residual_15 : decode cX7_residual 15 = .ok (.istore 4, 2) := by decide +kernel
theorem dX7_residual_17 : decode cX7_residual 17 = .ok (.iconst 0, 1) := by decide +kernel
theorem dX7_residual_18 : decode cX7_residual 18 = .ok (.istore 5, 2) := by decide +kernel
theorem dX7_residual_20 : decode cX7_residual 20 = .ok (.iload_n 2, 1) := by decide +kernel
theorem dX7_residual_21 : decode cX7_residual 21 = .ok (.invokestatic 284, 3) := by decide +kernel
theorem dX7_residual_24 : decode cX7_residual 24 = .ok (.istore 6, 2) := by decide +kernel
theorem dX7_residual_26 : decode cX7_residual 26 = .ok (.iload 6, 2) := by decide +kernel
theorem dX7_residual_28 : decode cX7_residual 28 = .ok (.iload_n 2, 1) := by decide +kernel
theorem dX7_residual_29 : decode cX7_residual 29 = .ok (.invokestatic 287, 3) := by decide +kernel
theorem dX7_residual_32 : decode cX7_residual 32 = .ok (.if_icmp .gt 55, 3) := by decide +kernel
theorem dX7_residual_35 : decode cX7_residual 35 = .ok (.aload_n 1, 1) := by decide +kernel
theorem dX7_residual_36 : decode cX7_residual 36 = .ok (.iload 6, 2) := by decide +kernel
theorem dX7_residual_38 : decode cX7_residual 38 = .ok (.invokevirtual 179, 3) := by decide +kernel
theorem dX7_residual_41 : decode cX7_residual 41 = .ok (.ifCond .eq 40, 3) := by decide +kernel
theorem dX7_residual_44 : decode cX7_residual 44 = .ok (.iload 5, 2) := by decide +kernel
theorem dX7_residual_46 : decode cX7_residual 46 = .ok (.aload_n 0, 1) := by decide +kernel
theorem dX7_residual_47 : decode cX7_residual 47 = .ok (.aload_n 1, 1) := by decide +kernel
theorem dX7_residual_48 : decode cX7_residual 48 = .ok (.iload 6, 2) := by decide +kernel
theorem dX7_residual_50 : decode cX7_residual 50 = .ok (.iconst 1, 1) := by decide +kernel
theorem dX7_residual_51 : decode cX7_residual 51 = .ok (.invokevirtual 247, 3) := by decide +kernel
theorem dX7_residual_54 : decode cX7_residual 54 = .ok (.iload_n 3, 1) := by decide +kernel
theorem dX7_residual_55 : decode cX7_residual 55 = .ok (.isub, 1) := by decide +kernel
theorem dX7_residual_56 : decode cX7_residual 56 = .ok (.invokestatic 325, 3) := by decide +kernel
theorem dX7_residual_59 : decode cX7_residual 59 = .ok (.iadd, 1) := by decide +kernel
theorem dX7_residual_60 : decode cX7_residual 60 = .ok (.istore 5, 2) := by decide +kernel
theorem dX7_residual_62 : decode cX7_residual 62 = .ok (.iload 5, 2) := by decide +kernel
theorem dX7_residual_64 : decode cX7_residual 64 = .ok (.aload_n 0, 1) := by decide +kernel
theorem dX7_residual_65 : decode cX7_residual 65 = .ok (.aload_n 1, 1) := by decide +kernel
theorem dX7_residual_66 : decode cX7_residual 66 = .ok (.iload 6, 2) := by decide +kernel
theorem dX7_residual_68 : decode cX7_residual 68 = .ok (.iconst 0, 1) := by decide +kernel
theorem dX7_residual_69 : decode cX7_residual 69 = .ok (.invokevirtual 247, 3) := by decide +kernel
theorem dX7_residual_72 : decode cX7_residual 72 = .ok (.iload 4, 2) := by decide +kernel
theorem dX7_residual_74 : decode cX7_residual 74 = .ok (.isub, 1) := by decide +kernel
theorem dX7_residual_75 : decode cX7_residual 75 = .ok (.invokestatic 325, 3) := by decide +kernel
theorem dX7_residual_78 : decode cX7_residual 78 = .ok (.iadd, 1) := by decide +kernel
theorem dX7_residual_79 : decode cX7_residual 79 = .ok (.istore 5, 2) := by decide +kernel
theorem dX7_residual_81 : decode cX7_residual 81 = .ok (.iinc 6 1, 3) := by decide +kernel
theorem dX7_residual_84 : decode cX7_residual 84 = .ok (.goto (-58), 3) := by decide +kernel
theorem dX7_residual_87 : decode cX7_residual 87 = .ok (.iload 5, 2) := by decide +kernel
theorem dX7_residual_89 : decode cX7_residual 89 = .ok (.ireturn, 1) := by decide +kernel
theorem dX7_sharedBy_0 : decode cX7_sharedBy 0 = .ok (.aload_n 1, 1) := by decide +kernel
theorem dX7_sharedBy_1 : decode cX7_sharedBy 1 = .ok (.aload_n 2, 1) := by decide +kernel
theorem dX7_sharedBy_2 : decode cX7_sharedBy 2 = .ok (.invokevirtual 328, 3) := by decide +kernel
theorem dX7_sharedBy_5 : decode cX7_sharedBy 5 = .ok (.istore 4, 2) := by decide +kernel
theorem dX7_sharedBy_7 : decode cX7_sharedBy 7 = .ok (.iload_n 3, 1) := by decide +kernel
theorem dX7_sharedBy_8 : decode cX7_sharedBy 8 = .ok (.invokestatic 284, 3) := by decide +kernel
theorem dX7_sharedBy_11 : decode cX7_sharedBy 11 = .ok (.istore 5, 2) := by decide +kernel
theorem dX7_sharedBy_13 : decode cX7_sharedBy 13 = .ok (.iload 5, 2) := by decide +kernel
theorem dX7_sharedBy_15 : decode cX7_sharedBy 15 = .ok (.iload_n 3, 1) := by decide +kernel
theorem dX7_sharedBy_16 : decode cX7_sharedBy 16 = .ok (.invokestatic 287, 3) := by decide +kernel
theorem dX7_sharedBy_19 : decode cX7_sharedBy 19 = .ok (.if_icmp .gt 53, 3) := by decide +kernel
theorem dX7_sharedBy_22 : decode cX7_sharedBy 22 = .ok (.aload_n 0, 1) := by decide +kernel
theorem dX7_sharedBy_23 : decode cX7_sharedBy 23 = .ok (.aload_n 1, 1) := by decide +kernel
theorem dX7_sharedBy_24 : decode cX7_sharedBy 24 = .ok (.aload_n 2, 1) := by decide +kernel
theorem dX7_sharedBy_25 : decode cX7_sharedBy 25 = .ok (.iload 5, 2) := by decide +kernel
theorem dX7_sharedBy_27 : decode cX7_sharedBy 27 = .ok (.invokevirtual 331, 3) := by decide +kernel
theorem dX7_sharedBy_30 : decode cX7_sharedBy 30 = .ok (.ifCond .eq 6, 3) := by decide +kernel
theorem dX7_sharedBy_33 : decode cX7_sharedBy 33 = .ok (.iinc 4 1, 3) := by decide +kernel
theorem dX7_sharedBy_36 : decode cX7_sharedBy 36 = .ok (.aload_n 1, 1) := by decide +kernel
theorem dX7_sharedBy_37 : decode cX7_sharedBy 37 = .ok (.getfield 143, 3) := by decide +kernel
theorem dX7_sharedBy_40 : decode cX7_sharedBy 40 = .ok (.iload 5, 2) := by decide +kernel
theorem dX7_sharedBy_42 : decode cX7_sharedBy 42 = .ok (.iaload, 1) := by decide +kernel
theorem dX7_sharedBy_43 : decode cX7_sharedBy 43 = .ok (.aload_n 2, 1) := by decide +kernel
theorem dX7_sharedBy_44 : decode cX7_sharedBy 44 = .ok (.getfield 143, 3) := by decide +kernel
theorem dX7_sharedBy_47 : decode cX7_sharedBy 47 = .ok (.iload 5, 2) := by decide +kernel
theorem dX7_sharedBy_49 : decode cX7_sharedBy 49 = .ok (.iaload, 1) := by decide +kernel
theorem dX7_sharedBy_50 : decode cX7_sharedBy 50 = .ok (.if_icmp .ne 16, 3) := by decide +kernel
theorem dX7_sharedBy_53 : decode cX7_sharedBy 53 = .ok (.aload_n 0, 1) := by decide +kernel
theorem dX7_sharedBy_54 : decode cX7_sharedBy 54 = .ok (.aload_n 1, 1) := by decide +kernel
theorem dX7_sharedBy_55 : decode cX7_sharedBy 55 = .ok (.iload 5, 2) := by decide +kernel
theorem dX7_sharedBy_57 : decode cX7_sharedBy 57 = .ok (.invokevirtual 290, 3) := by decide +kernel
theorem dX7_sharedBy_60 : decode cX7_sharedBy 60 = .ok (.ifCond .ne 6, 3) := by decide +kernel
theorem dX7_sharedBy_63 : decode cX7_sharedBy 63 = .ok (.iinc 4 1, 3) := by decide +kernel
theorem dX7_sharedBy_66 : decode cX7_sharedBy 66 = .ok (.iinc 5 1, 3) := by decide +kernel
theorem dX7_sharedBy_69 : decode cX7_sharedBy 69 = .ok (.goto (-56), 3) := by decide +kernel
theorem dX7_sharedBy_72 : decode cX7_sharedBy 72 = .ok (.iload 4, 2) := by decide +kernel
theorem dX7_sharedBy_74 : decode cX7_sharedBy 74 = .ok (.ireturn, 1) := by decide +kernel
theorem dX7_shareError_0 : decode cX7_shareError 0 = .ok (.aload_n 1, 1) := by decide +kernel
theorem dX7_shareError_1 : decode cX7_shareError 1 = .ok (.iload_n 3, 1) := by decide +kernel
theorem dX7_shareError_2 : decode cX7_shareError 2 = .ok (.invokevirtual 179, 3) := by decide +kernel
theorem dX7_shareError_5 : decode cX7_shareError 5 = .ok (.ifCond .eq 11, 3) := by decide +kernel
theorem dX7_shareError_8 : decode cX7_shareError 8 = .ok (.aload_n 2, 1) := by decide +kernel
theorem dX7_shareError_9 : decode cX7_shareError 9 = .ok (.iload_n 3, 1) := by decide +kernel
theorem dX7_shareError_10 : decode cX7_shareError 10 = .ok (.invokevirtual 179, 3) := by decide +kernel
theorem dX7_shareError_13 : decode cX7_shareError 13 = .ok (.ifCond .ne 5, 3) := by decide +kernel
theorem dX7_shareError_16 : decode cX7_shareError 16 = .ok (.iconst 0, 1) := by decide +kernel
theorem dX7_shareError_17 : decode cX7_shareError 17 = .ok (.ireturn, 1) := by decide +kernel
theorem dX7_shareError_18 : decode cX7_shareError 18 = .ok (.aload_n 1, 1) := by decide +kernel
theorem dX7_shareError_19 : decode cX7_shareError 19 = .ok (.getfield 182, 3) := by decide +kernel
theorem dX7_shareError_22 : decode cX7_shareError 22 = .ok (.iload_n 3, 1) := by decide +kernel
theorem dX7_shareError_23 : decode cX7_shareError 23 = .ok (.iaload, 1) := by decide +kernel
theorem dX7_shareError_24 : decode cX7_shareError 24 = .ok (.aload_n 2, 1) := by decide +kernel
theorem dX7_shareError_25 : decode cX7_shareError 25 = .ok (.getfield 182, 3) := by decide +kernel
theorem dX7_shareError_28 : decode cX7_shareError 28 = .ok (.iload_n 3, 1) := by decide +kernel
theorem dX7_shareError_29 : decode cX7_shareError 29 = .ok (.iaload, 1) := by decide +kernel
theorem dX7_shareError_30 : decode cX7_shareError 30 = .ok (.if_icmp .ne 22, 3) := by decide +kernel
theorem dX7_shareError_33 : decode cX7_shareError 33 = .ok (.aload_n 1, 1) := by decide +kernel
theorem dX7_shareError_34 : decode cX7_shareError 34 = .ok (.getfield 187, 3) := by decide +kernel
theorem dX7_shareError_37 : decode cX7_shareError 37 = .ok (.iload_n 3, 1) := by decide +kernel
theorem dX7_shareError_38 : decode cX7_shareError 38 = .ok (.iaload, 1) := by decide +kernel
theorem dX7_shareError_39 : decode cX7_shareError 39 = .ok (.aload_n 2, 1) := by decide +kernel
theorem dX7_shareError_40 : decode cX7_shareError 40 = .ok (.getfield 187, 3) := by decide +kernel
theorem dX7_shareError_43 : decode cX7_shareError 43 = .ok (.iload_n 3, 1) := by decide +kernel
theorem dX7_shareError_44 : decode cX7_shareError 44 = .ok (.iaload, 1) := by decide +kernel
theorem dX7_shareError_45 : decode cX7_shareError 45 = .ok (.if_icmp .ne 7, 3) := by decide +kernel
theorem dX7_shareError_48 : decode cX7_shareError 48 = .ok (.iconst 1, 1) := by decide +kernel
theorem dX7_shareError_49 : decode cX7_shareError 49 = .ok (.goto 4, 3) := by decide +kernel
theorem dX7_shareError_52 : decode cX7_shareError 52 = .ok (.iconst 0, 1) := by decide +kernel
theorem dX7_shareError_53 : decode cX7_shareError 53 = .ok (.istore 4, 2) := by decide +kernel
theorem dX7_shareError_55 : decode cX7_shareError 55 = .ok (.iload 4, 2) := by decide +kernel
theorem dX7_shareError_57 : decode cX7_shareError 57 = .ok (.ifCond .eq 27, 3) := by decide +kernel
theorem dX7_shareError_60 : decode cX7_shareError 60 = .ok (.aload_n 0, 1) := by decide +kernel
theorem dX7_shareError_61 : decode cX7_shareError 61 = .ok (.aload_n 1, 1) := by decide +kernel
theorem dX7_shareError_62 : decode cX7_shareError 62 = .ok (.iload_n 3, 1) := by decide +kernel
theorem dX7_shareError_63 : decode cX7_shareError 63 = .ok (.iconst 1, 1) := by decide +kernel
theorem dX7_shareError_64 : decode cX7_shareError 64 = .ok (.invokevirtual 247, 3) := by decide +kernel
theorem dX7_shareError_67 : decode cX7_shareError 67 = .ok (.ifCond .ne 13, 3) := by decide +kernel
theorem dX7_shareError_70 : decode cX7_shareError 70 = .ok (.aload_n 0, 1) := by decide +kernel
theorem dX7_shareError_71 : decode cX7_shareError 71 = .ok (.aload_n 1, 1) := by decide +kernel
theorem dX7_shareError_72 : decode cX7_shareError 72 = .ok (.iload_n 3, 1) := by decide +kernel
theorem dX7_shareError_73 : decode cX7_shareError 73 = .ok (.iconst 0, 1) := by decide +kernel
theorem dX7_shareError_74 : decode cX7_shareError 74 = .ok (.invokevirtual 247, 3) := by decide +kernel
theorem dX7_shareError_77 : decode cX7_shareError 77 = .ok (.ifCond .eq 7, 3) := by decide +kernel
theorem dX7_shareError_80 : decode cX7_shareError 80 = .ok (.iconst 1, 1) := by decide +kernel
theorem dX7_shareError_81 : decode cX7_shareError 81 = .ok (.goto 4, 3) := by decide +kernel
theorem dX7_shareError_84 : decode cX7_shareError 84 = .ok (.iconst 0, 1) := by decide +kernel
theorem dX7_shareError_85 : decode cX7_shareError 85 = .ok (.ireturn, 1) := by decide +kernel
theorem dJ9_abs_0f7a4_0 : decode cJ9_abs_0f7a4 0 = .ok (.iload_n 0, 1) := by decide +kernel
theorem dJ9_abs_0f7a4_1 : decode cJ9_abs_0f7a4 1 = .ok (.ifCond .ge 8, 3) := by decide +kernel
theorem dJ9_abs_0f7a4_4 : decode cJ9_abs_0f7a4 4 = .ok (.iload_n 0, 1) := by decide +kernel
theorem dJ9_abs_0f7a4_5 : decode cJ9_abs_0f7a4 5 = .ok (.ineg, 1) := by decide +kernel
theorem dJ9_abs_0f7a4_6 : decode cJ9_abs_0f7a4 6 = .ok (.goto 4, 3) := by decide +kernel
theorem dJ9_abs_0f7a4_9 : decode cJ9_abs_0f7a4 9 = .ok (.iload_n 0, 1) := by decide +kernel
theorem dJ9_abs_0f7a4_10 : decode cJ9_abs_0f7a4 10 = .ok (.ireturn, 1) := by decide +kernel
