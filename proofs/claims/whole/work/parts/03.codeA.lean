theorem dX0_init_0 : decode cX0_init 0 = .ok (.aload_n 0, 1) := by decide +kernel
theorem dX0_init_1 : decode cX0_init 1 = .ok (.invokespecial 3, 3) := by decide +kernel
theorem dX0_init_4 : decode cX0_init 4 = .ok (.aload_n 0, 1) := by decide +kernel
theorem dX0_init_5 : decode cX0_init 5 = .ok (.bipush 69, 2) := by decide +kernel
theorem dX0_init_7 : decode cX0_init 7 = .ok (.anewarray 9, 3) := by decide +kernel
theorem dX0_init_10 : decode cX0_init 10 = .ok (.putfield 11, 3) := by decide +kernel
theorem dX0_init_13 : decode cX0_init 13 = .ok (.aload_n 0, 1) := by decide +kernel
theorem dX0_init_14 : decode cX0_init 14 = .ok (.new 9, 3) := by decide +kernel
theorem dX0_init_17 : decode cX0_init 17 = .ok (.dup, 1) := by decide +kernel
theorem dX0_init_18 : decode cX0_init 18 = .ok (.invokespecial 17, 3) := by decide +kernel
theorem dX0_init_21 : decode cX0_init 21 = .ok (.putfield 18, 3) := by decide +kernel
theorem dX0_init_24 : decode cX0_init 24 = .ok (.aload_n 0, 1) := by decide +kernel
theorem dX0_init_25 : decode cX0_init 25 = .ok (.iconst 3, 1) := by decide +kernel
theorem dX0_init_26 : decode cX0_init 26 = .ok (.iconst 4, 1) := by decide +kernel
theorem dX0_init_27 : decode cX0_init 27 = .ok (.multianewarray 22 2, 4) := by decide +kernel
theorem dX0_init_31 : decode cX0_init 31 = .ok (.putfield 24, 3) := by decide +kernel
theorem dX0_init_34 : decode cX0_init 34 = .ok (.return_, 1) := by decide +kernel
theorem dX0_mixAt_0 : decode cX0_mixAt 0 = .ok (.iload_n 1, 1) := by decide +kernel
theorem dX0_mixAt_1 : decode cX0_mixAt 1 = .ok (.ifCond .lt 26, 3) := by decide +kernel
theorem dX0_mixAt_4 : decode cX0_mixAt 4 = .ok (.iload_n 1, 1) := by decide +kernel
theorem dX0_mixAt_5 : decode cX0_mixAt 5 = .ok (.aload_n 0, 1) := by decide +kernel
theorem dX0_mixAt_6 : decode cX0_mixAt 6 = .ok (.getfield 27, 3) := by decide +kernel
theorem dX0_mixAt_9 : decode cX0_mixAt 9 = .ok (.if_icmp .ge 18, 3) := by decide +kernel
theorem dX0_mixAt_12 : decode cX0_mixAt 12 = .ok (.iload_n 1, 1) := by decide +kernel
theorem dX0_mixAt_13 : decode cX0_mixAt 13 = .ok (.bipush 69, 2) := by decide +kernel
theorem dX0_mixAt_15 : decode cX0_mixAt 15 = .ok (.if_icmp .ge 12, 3) := by decide +kernel
theorem dX0_mixAt_18 : decode cX0_mixAt 18 = .ok (.aload_n 0, 1) := by decide +kernel
theorem dX0_mixAt_19 : decode cX0_mixAt 19 = .ok (.getfield 11, 3) := by decide +kernel
theorem dX0_mixAt_22 : decode cX0_mixAt 22 = .ok (.iload_n 1, 1) := by decide +kernel
theorem dX0_mixAt_23 : decode cX0_mixAt 23 = .ok (.aaload, 1) := by decide +kernel
theorem dX0_mixAt_24 : decode cX0_mixAt 24 = .ok (.goto 4, 3) := by decide +kernel
theorem dX0_mixAt_27 : decode cX0_mixAt 27 = .ok (.aconst_null, 1) := by decide +kernel
theorem dX0_mixAt_28 : decode cX0_mixAt 28 = .ok (.areturn, 1) := by decide +kernel
theorem dX0_numberOf_0 : decode cX0_numberOf 0 = .ok (.iconst 0, 1) := by decide +kernel
theorem dX0_numberOf_1 : decode cX0_numberOf 1 = .ok (.istore_n 2, 1) := by decide +kernel
theorem dX0_numberOf_2 : decode cX0_numberOf 2 = .ok (.iload_n 2, 1) := by decide +kernel
theorem dX0_numberOf_3 : decode cX0_numberOf 3 = .ok (.aload_n 0, 1) := by decide +kernel
theorem dX0_numberOf_4 : decode cX0_numberOf 4 = .ok (.getfield 27, 3) := by decide +kernel
theorem dX0_numberOf_7 : decode cX0_numberOf 7 = .ok (.if_icmp .ge 29, 3) := by decide +kernel
theorem dX0_numberOf_10 : decode cX0_numberOf 10 = .ok (.aload_n 0, 1) := by decide +kernel
theorem dX0_numberOf_11 : decode cX0_numberOf 11 = .ok (.iload_n 2, 1) := by decide +kernel
theorem dX0_numberOf_12 : decode cX0_numberOf 12 = .ok (.invokevirtual 31, 3) := by decide +kernel
theorem dX0_numberOf_15 : decode cX0_numberOf 15 = .ok (.astore_n 3, 1) := by decide +kernel
theorem dX0_numberOf_16 : decode cX0_numberOf 16 = .ok (.aload_n 3, 1) := by decide +kernel
theorem dX0_numberOf_17 : decode cX0_numberOf 17 = .ok (.ifnull 13, 3) := by decide +kernel
theorem dX0_numberOf_20 : decode cX0_numberOf 20 = .ok (.aload_n 3, 1) := by decide +kernel
theorem dX0_numberOf_21 : decode cX0_numberOf 21 = .ok (.aload_n 1, 1) := by decide +kernel
theorem dX0_numberOf_22 : decode cX0_numberOf 22 = .ok (.invokevirtual 35, 3) := by decide +kernel
theorem dX0_numberOf_25 : decode cX0_numberOf 25 = .ok (.ifCond .ne 5, 3) := by decide +kernel
theorem dX0_numberOf_28 : decode cX0_numberOf 28 = .ok (.iload_n 2, 1) := by decide +kernel
theorem dX0_numberOf_29 : decode cX0_numberOf 29 = .ok (.ireturn, 1) := by decide +kernel
theorem dX0_numberOf_30 : decode cX0_numberOf 30 = .ok (.iinc 2 1, 3) := by decide +kernel
theorem dX0_numberOf_33 : decode cX0_numberOf 33 = .ok (.goto (-31), 3) := by decide +kernel
theorem dX0_numberOf_36 : decode cX0_numberOf 36 = .ok (.bipush (-9), 2) := by decide +kernel
theorem dX0_numberOf_38 : decode cX0_numberOf 38 = .ok (.ireturn, 1) := by decide +kernel
theorem dX0_searchAll_0 : decode cX0_searchAll 0 = .ok (.aload_n 0, 1) := by decide +kernel
theorem dX0_searchAll_1 : decode cX0_searchAll 1 = .ok (.iconst 0, 1) := by decide +kernel
theorem dX0_searchAll_2 : decode cX0_searchAll 2 = .ok (.putfield 27, 3) := by decide +kernel
theorem dX0_searchAll_5 : decode cX0_searchAll 5 = .ok (.iconst 1, 1) := by decide +kernel
theorem dX0_searchAll_6 : decode cX0_searchAll 6 = .ok (.istore_n 3, 1) := by decide +kernel
theorem dX0_searchAll_7 : decode cX0_searchAll 7 = .ok (.iload_n 3, 1) := by decide +kernel
theorem dX0_searchAll_8 : decode cX0_searchAll 8 = .ok (.iload_n 1, 1) := by decide +kernel
theorem dX0_searchAll_9 : decode cX0_searchAll 9 = .ok (.if_icmp .gt 47, 3) := by decide +kernel
theorem dX0_searchAll_12 : decode cX0_searchAll 12 = .ok (.iconst 1, 1) := by decide +kernel
theorem dX0_searchAll_13 : decode cX0_searchAll 13 = .ok (.istore 4, 2) := by decide +kernel
theorem dX0_searchAll_15 : decode cX0_searchAll 15 = .ok (.iload 4, 2) := by decide +kernel
theorem dX0_searchAll_17 : decode cX0_searchAll 17 = .ok (.aload_n 2, 1) := by decide +kernel
theorem dX0_searchAll_18 : decode cX0_searchAll 18 = .ok (.invokevirtual 39, 3) := by decide +kernel
theorem dX0_searchAll_21 : decode cX0_searchAll 21 = .ok (.if_icmp .gt 29, 3) := by decide +kernel
theorem dX0_searchAll_24 : decode cX0_searchAll 24 = .ok (.iload_n 3, 1) := by decide +kernel
theorem dX0_searchAll_25 : decode cX0_searchAll 25 = .ok (.invokestatic 45, 3) := by decide +kernel
theorem dX0_searchAll_28 : decode cX0_searchAll 28 = .ok (.iload 4, 2) := by decide +kernel
theorem dX0_searchAll_30 : decode cX0_searchAll 30 = .ok (.invokestatic 45, 3) := by decide +kernel
theorem dX0_searchAll_33 : decode cX0_searchAll 33 = .ok (.if_icmp .ne 11, 3) := by decide +kernel
theorem dX0_searchAll_36 : decode cX0_searchAll 36 = .ok (.aload_n 0, 1) := by decide +kernel
theorem dX0_searchAll_37 : decode cX0_searchAll 37 = .ok (.iload_n 3, 1) := by decide +kernel
theorem dX0_searchAll_38 : decode cX0_searchAll 38 = .ok (.iload 4, 2) := by decide +kernel
theorem dX0_searchAll_40 : decode cX0_searchAll 40 = .ok (.aload_n 2, 1) := by decide +kernel
theorem dX0_searchAll_41 : decode cX0_searchAll 41 = .ok (.invokevirtual 51, 3) := by decide +kernel
theorem dX0_searchAll_44 : decode cX0_searchAll 44 = .ok (.iinc 4 1, 3) := by decide +kernel
theorem dX0_searchAll_47 : decode cX0_searchAll 47 = .ok (.goto (-32), 3) := by decide +kernel
theorem dX0_searchAll_50 : decode cX0_searchAll 50 = .ok (.iinc 3 1, 3) := by decide +kernel
theorem dX0_searchAll_53 : decode cX0_searchAll 53 = .ok (.goto (-46), 3) := by decide +kernel
theorem dX0_searchAll_56 : decode cX0_searchAll 56 = .ok (.return_, 1) := by decide +kernel
theorem dX0_search_0 : decode cX0_search 0 = .ok (.aload_n 0, 1) := by decide +kernel
theorem dX0_search_1 : decode cX0_search 1 = .ok (.iload_n 1, 1) := by decide +kernel
theorem dX0_search_2 : decode cX0_search 2 = .ok (.iload_n 2, 1) := by decide +kernel
theorem dX0_search_3 : decode cX0_search 3 = .ok (.aload_n 3, 1) := by decide +kernel
theorem dX0_search_4 : decode cX0_search 4 = .ok (.invokevirtual 55, 3) := by decide +kernel
theorem dX0_search_7 : decode cX0_search 7 = .ok (.aload_n 0, 1) := by decide +kernel
theorem dX0_search_8 : decode cX0_search 8 = .ok (.iload_n 1, 1) := by decide +kernel
theorem dX0_search_9 : decode cX0_search 9 = .ok (.invokevirtual 58, 3) := by decide +kernel
theorem dX0_search_12 : decode cX0_search 12 = .ok (.aload_n 0, 1) := by decide +kernel
theorem dX0_search_13 : decode cX0_search 13 = .ok (.iload_n 1, 1) := by decide +kernel
theorem dX0_search_14 : decode cX0_search 14 = .ok (.invokevirtual 62, 3) := by decide +kernel
theorem dX0_search_17 : decode cX0_search 17 = .ok (.ifCond .ne 4, 3) := by decide +kernel
theorem dX0_search_20 : decode cX0_search 20 = .ok (.return_, 1) := by decide +kernel
theorem dX0_search_21 : decode cX0_search 21 = .ok (.aload_n 0, 1) := by decide +kernel
theorem dX0_search_22 : decode cX0_search 22 = .ok (.getfield 18, 3) := by decide +kernel
theorem dX0_search_25 : decode cX0_search 25 = .ok (.invokevirtual 66, 3) := by decide +kernel
theorem dX0_search_28 : decode cX0_search 28 = .ok (.aload_n 0, 1) := by decide +kernel
theorem dX0_search_29 : decode cX0_search 29 = .ok (.getfield 18, 3) := by decide +kernel
theorem dX0_search_32 : decode cX0_search 32 = .ok (.aload_n 3, 1) := by decide +kernel
theorem dX0_search_33 : decode cX0_search 33 = .ok (.aload_n 0, 1) := by decide +kernel
theorem dX0_search_34 : decode cX0_search 34 = .ok (.getfield 18, 3) := by decide +kernel
theorem dX0_search_37 : decode cX0_search 37 = .ok (.invokevirtual 69, 3) := by decide +kernel
theorem dX0_search_40 : decode cX0_search 40 = .ok (.putfield 72, 3) := by decide +kernel
theorem dX0_search_43 : decode cX0_search 43 = .ok (.iload_n 2, 1) := by decide +kernel
theorem dX0_search_44 : decode cX0_search 44 = .ok (.aload_n 0, 1) := by decide +kernel
theorem dX0_search_45 : decode cX0_search 45 = .ok (.getfield 18, 3) := by decide +kernel
theorem dX0_search_48 : decode cX0_search 48 = .ok (.getfield 72, 3) := by decide +kernel
theorem dX0_search_51 : decode cX0_search 51 = .ok (.iconst (-1), 1) := by decide +kernel
theorem dX0_search_52 : decode cX0_search 52 = .ok (.ixor, 1) := by decide +kernel
theorem dX0_search_53 : decode cX0_search 53 = .ok (.iand, 1) := by decide +kernel
theorem dX0_search_54 : decode cX0_search 54 = .ok (.ifCond .ne 7, 3) := by decide +kernel
theorem dX0_search_57 : decode cX0_search 57 = .ok (.aload_n 0, 1) := by decide +kernel
theorem dX0_search_58 : decode cX0_search 58 = .ok (.invokevirtual 75, 3) := by decide +kernel
theorem dX0_search_61 : decode cX0_search 61 = .ok (.return_, 1) := by decide +kernel
theorem dX0_layGaps_0 : decode cX0_layGaps 0 = .ok (.iload_n 2, 1) := by decide +kernel
theorem dX0_layGaps_1 : decode cX0_layGaps 1 = .ok (.invokestatic 78, 3) := by decide +kernel
theorem dX0_layGaps_4 : decode cX0_layGaps 4 = .ok (.istore 4, 2) := by decide +kernel
theorem dX0_layGaps_6 : decode cX0_layGaps 6 = .ok (.iconst 0, 1) := by decide +kernel
theorem dX0_layGaps_7 : decode cX0_layGaps 7 = .ok (.istore 5, 2) := by decide +kernel
theorem dX0_layGaps_9 : decode cX0_layGaps 9 = .ok (.iload 4, 2) := by decide +kernel
theorem dX0_layGaps_11 : decode cX0_layGaps 11 = .ok (.iconst 1, 1) := by decide +kernel
theorem dX0_layGaps_12 : decode cX0_layGaps 12 = .ok (.iadd, 1) := by decide +kernel
theorem dX0_layGaps_13 : decode cX0_layGaps 13 = .ok (.istore 6, 2) := by decide +kernel
theorem dX0_layGaps_15 : decode cX0_layGaps 15 = .ok (.iload 6, 2) := by decide +kernel
theorem dX0_layGaps_17 : decode cX0_layGaps 17 = .ok (.iconst 4, 1) := by decide +kernel
theorem dX0_layGaps_18 : decode cX0_layGaps 18 = .ok (.if_icmp .ge 33, 3) := by decide +kernel
theorem dX0_layGaps_21 : decode cX0_layGaps 21 = .ok (.iload_n 2, 1) := by decide +kernel
theorem dX0_layGaps_22 : decode cX0_layGaps 22 = .ok (.iload 6, 2) := by decide +kernel
theorem dX0_layGaps_24 : decode cX0_layGaps 24 = .ok (.invokestatic 81, 3) := by decide +kernel
theorem dX0_layGaps_27 : decode cX0_layGaps 27 = .ok (.ifCond .eq 18, 3) := by decide +kernel
theorem dX0_layGaps_30 : decode cX0_layGaps 30 = .ok (.aload_n 0, 1) := by decide +kernel
theorem dX0_layGaps_31 : decode cX0_layGaps 31 = .ok (.iload 5, 2) := by decide +kernel
theorem dX0_layGaps_33 : decode cX0_layGaps 33 = .ok (.iload_n 1, 1) := by decide +kernel
theorem dX0_layGaps_34 : decode cX0_layGaps 34 = .ok (.aload_n 3, 1) := by decide +kernel
theorem dX0_layGaps_35 : decode cX0_layGaps 35 = .ok (.iload 4, 2) := by decide +kernel
theorem dX0_layGaps_37 : decode cX0_layGaps 37 = .ok (.iload 6, 2) := by decide +kernel
theorem dX0_layGaps_39 : decode cX0_layGaps 39 = .ok (.invokevirtual 85, 3) := by decide +kernel
theorem dX0_layGaps_42 : decode cX0_layGaps 42 = .ok (.iinc 5 1, 3) := by decide +kernel
theorem dX0_layGaps_45 : decode cX0_layGaps 45 = .ok (.iinc 6 1, 3) := by decide +kernel
theorem dX0_layGaps_48 : decode cX0_layGaps 48 = .ok (.goto (-33), 3) := by decide +kernel
theorem dX0_layGaps_51 : decode cX0_layGaps 51 = .ok (.return_, 1) := by decide +kernel
theorem dX0_layLine_0 : decode cX0_layLine 0 = .ok (.iconst 0, 1) := by decide +kernel
theorem dX0_layLine_1 : decode cX0_layLine 1 = .ok (.istore 6, 2) := by decide +kernel
theorem dX0_layLine_3 : decode cX0_layLine 3 = .ok (.iconst 0, 1) := by decide +kernel
theorem dX0_layLine_4 : decode cX0_layLine 4 = .ok (.istore 7, 2) := by decide +kernel
theorem dX0_layLine_6 : decode cX0_layLine 6 = .ok (.iload 7, 2) := by decide +kernel
theorem dX0_layLine_8 : decode cX0_layLine 8 = .ok (.iconst 4, 1) := by decide +kernel
theorem dX0_layLine_9 : decode cX0_layLine 9 = .ok (.if_icmp .ge 48, 3) := by decide +kernel
theorem dX0_layLine_12 : decode cX0_layLine 12 = .ok (.iload_n 2, 1) := by decide +kernel
theorem dX0_layLine_13 : decode cX0_layLine 13 = .ok (.iload 7, 2) := by decide +kernel
theorem dX0_layLine_15 : decode cX0_layLine 15 = .ok (.invokestatic 81, 3) := by decide +kernel
theorem dX0_layLine_18 : decode cX0_layLine 18 = .ok (.ifCond .eq 33, 3) := by decide +kernel
theorem dX0_layLine_21 : decode cX0_layLine 21 = .ok (.aload_n 0, 1) := by decide +kernel
theorem dX0_layLine_22 : decode cX0_layLine 22 = .ok (.getfield 24, 3) := by decide +kernel
theorem dX0_layLine_25 : decode cX0_layLine 25 = .ok (.iload_n 1, 1) := by decide +kernel
theorem dX0_layLine_26 : decode cX0_layLine 26 = .ok (.aaload, 1) := by decide +kernel
theorem dX0_layLine_27 : decode cX0_layLine 27 = .ok (.iload 6, 2) := by decide +kernel
theorem dX0_layLine_29 : decode cX0_layLine 29 = .ok (.aload_n 3, 1) := by decide +kernel
theorem dX0_layLine_30 : decode cX0_layLine 30 = .ok (.iload 5, 2) := by decide +kernel
theorem dX0_layLine_32 : decode cX0_layLine 32 = .ok (.iload 7, 2) := by decide +kernel
theorem dX0_layLine_34 : decode cX0_layLine 34 = .ok (.invokevirtual 89, 3) := by decide +kernel
theorem dX0_layLine_37 : decode cX0_layLine 37 = .ok (.aload_n 3, 1) := by decide +kernel
theorem dX0_layLine_38 : decode cX0_layLine 38 = .ok (.iload 4, 2) := by decide +kernel
theorem dX0_layLine_40 : decode cX0_layLine 40 = .ok (.iload 7, 2) := by decide +kernel
theorem dX0_layLine_42 : decode cX0_layLine 42 = .ok (.invokevirtual 89, 3) := by decide +kernel
theorem dX0_layLine_45 : decode cX0_layLine 45 = .ok (.isub, 1) := by decide +kernel
theorem dX0_layLine_46 : decode cX0_layLine 46 = .ok (.i2l, 1) := by decide +kernel
theorem dX0_layLine_47 : decode cX0_layLine 47 = .ok (.lastore, 1) := by decide +kernel
theorem dX0_layLine_48 : decode cX0_layLine 48 = .ok (.iinc 6 1, 3) := by decide +kernel
theorem dX0_layLine_51 : decode cX0_layLine 51 = .ok (.iinc 7 1, 3) := by decide +kernel
theorem dX0_layLine_54 : decode cX0_layLine 54 = .ok (.goto (-48), 3) := by decide +kernel
theorem dX0_layLine_57 : decode cX0_layLine 57 = .ok (.return_, 1) := by decide +kernel
theorem dX0_layParts_0 : decode cX0_layParts 0 = .ok (.iload_n 1, 1) := by decide +kernel
theorem dX0_layParts_1 : decode cX0_layParts 1 = .ok (.invokestatic 45, 3) := by decide +kernel
theorem dX0_layParts_4 : decode cX0_layParts 4 = .ok (.iconst 1, 1) := by decide +kernel
theorem dX0_layParts_5 : decode cX0_layParts 5 = .ok (.isub, 1) := by decide +kernel
theorem dX0_layParts_6 : decode cX0_layParts 6 = .ok (.istore_n 2, 1) := by decide +kernel
theorem dX0_layParts_7 : decode cX0_layParts 7 = .ok (.iconst 0, 1) := by decide +kernel
theorem dX0_layParts_8 : decode cX0_layParts 8 = .ok (.istore_n 3, 1) := by decide +kernel
theorem dX0_layParts_9 : decode cX0_layParts 9 = .ok (.iconst 0, 1) := by decide +kernel
theorem dX0_layParts_10 : decode cX0_layParts 10 = .ok (.istore 4, 2) := by decide +kernel
theorem dX0_layParts_12 : decode cX0_layParts 12 = .ok (.iload 4, 2) := by decide +kernel
theorem dX0_layParts_14 : decode cX0_layParts 14 = .ok (.iconst 4, 1) := by decide +kernel
theorem dX0_layParts_15 : decode cX0_layParts 15 = .ok (.if_icmp .ge 64, 3) := by decide +kernel
theorem dX0_layParts_18 : decode cX0_layParts 18 = .ok (.aload_n 0, 1) := by decide +kernel
theorem dX0_layParts_19 : decode cX0_layParts 19 = .ok (.getfield 18, 3) := by decide +kernel
theorem dX0_layParts_22 : decode cX0_layParts 22 = .ok (.getfield 93, 3) := by decide +kernel
theorem dX0_layParts_25 : decode cX0_layParts 25 = .ok (.iload 4, 2) := by decide +kernel
theorem dX0_layParts_27 : decode cX0_layParts 27 = .ok (.lconst 0, 1) := by decide +kernel
theorem dX0_layParts_28 : decode cX0_layParts 28 = .ok (.lastore, 1) := by decide +kernel
theorem dX0_layParts_29 : decode cX0_layParts 29 = .ok (.iload_n 1, 1) := by decide +kernel
theorem dX0_layParts_30 : decode cX0_layParts 30 = .ok (.iload 4, 2) := by decide +kernel
theorem dX0_layParts_32 : decode cX0_layParts 32 = .ok (.invokestatic 81, 3) := by decide +kernel
theorem dX0_layParts_35 : decode cX0_layParts 35 = .ok (.ifCond .eq 38, 3) := by decide +kernel
theorem dX0_layParts_38 : decode cX0_layParts 38 = .ok (.aload_n 0, 1) := by decide +kernel
theorem dX0_layParts_39 : decode cX0_layParts 39 = .ok (.iload_n 3, 1) := by decide +kernel
theorem dX0_layParts_40 : decode cX0_layParts 40 = .ok (.iload_n 2, 1) := by decide +kernel
theorem dX0_layParts_41 : decode cX0_layParts 41 = .ok (.invokevirtual 97, 3) := by decide +kernel
theorem dX0_layParts_44 : decode cX0_layParts 44 = .ok (.lstore 5, 2) := by decide +kernel
theorem dX0_layParts_46 : decode cX0_layParts 46 = .ok (.aload_n 0, 1) := by decide +kernel
theorem dX0_layParts_47 : decode cX0_layParts 47 = .ok (.getfield 18, 3) := by decide +kernel
theorem dX0_layParts_50 : decode cX0_layParts 50 = .ok (.getfield 93, 3) := by decide +kernel
theorem dX0_layParts_53 : decode cX0_layParts 53 = .ok (.iload 4, 2) := by decide +kernel
theorem dX0_layParts_55 : decode cX0_layParts 55 = .ok (.iload_n 3, 1) := by decide +kernel
theorem dX0_layParts_56 : decode cX0_layParts 56 = .ok (.iconst 2, 1) := by decide +kernel
theorem dX0_layParts_57 : decode cX0_layParts 57 = .ok (.irem, 1) := by decide +kernel
theorem dX0_layParts_58 : decode cX0_layParts 58 = .ok (.ifCond .ne 8, 3) := by decide +kernel
theorem dX0_layParts_61 : decode cX0_layParts 61 = .ok (.lload 5, 2) := by decide +kernel
theorem dX0_layParts_63 : decode cX0_layParts 63 = .ok (.goto 6, 3) := by decide +kernel
theorem dX0_layParts_66 : decode cX0_layParts 66 = .ok (.lload 5, 2) := by decide +kernel
theorem dX0_layParts_68 : decode cX0_layParts 68 = .ok (.lneg, 1) := by decide +kernel
theorem dX0_layParts_69 : decode cX0_layParts 69 = .ok (.lastore, 1) := by decide +kernel
theorem dX0_layParts_70 : decode cX0_layParts 70 = .ok (.iinc 3 1, 3) := by decide +kernel
theorem dX0_layParts_73 : decode cX0_layParts 73 = .ok (.iinc 4 1, 3) := by decide +kernel
theorem dX0_layParts_76 : decode cX0_layParts 76 = .ok (.goto (-64), 3) := by decide +kernel
theorem dX0_layParts_79 : decode cX0_layParts 79 = .ok (.return_, 1) := by decide +kernel
theorem dX0_gapsWithout_0 : decode cX0_gapsWithout 0 = .ok (.iload_n 1, 1) := by decide +kernel
theorem dX0_gapsWithout_1 : decode cX0_gapsWithout 1 = .ok (.ifCond .le 7, 3) := by decide +kernel
theorem dX0_gapsWithout_4 : decode cX0_gapsWithout 4 = .ok (.iconst 0, 1) := by decide +kernel
theorem dX0_gapsWithout_5 : decode cX0_gapsWithout 5 = .ok (.goto 4, 3) := by decide +kernel
theorem dX0_gapsWithout_8 : decode cX0_gapsWithout 8 = .ok (.iconst 1, 1) := by decide +kernel
theorem dX0_gapsWithout_9 : decode cX0_gapsWithout 9 = .ok (.istore_n 3, 1) := by decide +kernel
theorem dX0_gapsWithout_10 : decode cX0_gapsWithout 10 = .ok (.iload_n 1, 1) := by decide +kernel
theorem dX0_gapsWithout_11 : decode cX0_gapsWithout 11 = .ok (.iconst 1, 1) := by decide +kernel
theorem dX0_gapsWithout_12 : decode cX0_gapsWithout 12 = .ok (.if_icmp .le 7, 3) := by decide +kernel
theorem dX0_gapsWithout_15 : decode cX0_gapsWithout 15 = .ok (.iconst 1, 1) := by decide +kernel
theorem dX0_gapsWithout_16 : decode cX0_gapsWithout 16 = .ok (.goto 4, 3) := by decide +kernel
theorem dX0_gapsWithout_19 : decode cX0_gapsWithout 19 = .ok (.iconst 2, 1) := by decide +kernel
theorem dX0_gapsWithout_20 : decode cX0_gapsWithout 20 = .ok (.istore 4, 2) := by decide +kernel
theorem dX0_gapsWithout_22 : decode cX0_gapsWithout 22 = .ok (.iload_n 1, 1) := by decide +kernel
theorem dX0_gapsWithout_23 : decode cX0_gapsWithout 23 = .ok (.iconst 2, 1) := by decide +kernel
theorem dX0_gapsWithout_24 : decode cX0_gapsWithout 24 = .ok (.if_icmp .le 7, 3) := by decide +kernel
theorem dX0_gapsWithout_27 : decode cX0_gapsWithout 27 = .ok (.iconst 2, 1) := by decide +kernel
theorem dX0_gapsWithout_28 : decode cX0_gapsWithout 28 = .ok (.goto 4, 3) := by decide +kernel
theorem dX0_gapsWithout_31 : decode cX0_gapsWithout 31 = .ok (.iconst 3, 1) := by decide +kernel
theorem dX0_gapsWithout_32 : decode cX0_gapsWithout 32 = .ok (.istore 5, 2) := by decide +kernel
theorem dX0_gapsWithout_34 : decode cX0_gapsWithout 34 = .ok (.iload_n 2, 1) := by decide +kernel
theorem dX0_gapsWithout_35 : decode cX0_gapsWithout 35 = .ok (.tableswitch 46 0 2 #[25, 27, 36], 25) := by decide +kernel
theorem dX0_gapsWithout_60 : decode cX0_gapsWithout 60 = .ok (.lconst 1, 1) := by decide +kernel
theorem dX0_gapsWithout_61 : decode cX0_gapsWithout 61 = .ok (.lreturn, 1) := by decide +kernel
theorem dX0_gapsWithout_62 : decode cX0_gapsWithout 62 = .ok (.aload_n 0, 1) := by decide +kernel
theorem dX0_gapsWithout_63 : decode cX0_gapsWithout 63 = .ok (.getfield 24, 3) := by decide +kernel
theorem dX0_gapsWithout_66 : decode cX0_gapsWithout 66 = .ok (.iconst 0, 1) := by decide +kernel
theorem dX0_gapsWithout_67 : decode cX0_gapsWithout 67 = .ok (.aaload, 1) := by decide +kernel
theorem dX0_gapsWithout_68 : decode cX0_gapsWithout 68 = .ok (.iload_n 3, 1) := by decide +kernel
theorem dX0_gapsWithout_69 : decode cX0_gapsWithout 69 = .ok (.laload, 1) := by decide +kernel
theorem dX0_gapsWithout_70 : decode cX0_gapsWithout 70 = .ok (.lreturn, 1) := by decide +kernel
theorem dX0_gapsWithout_71 : decode cX0_gapsWithout 71 = .ok (.aload_n 0, 1) := by decide +kernel
theorem dX0_gapsWithout_72 : decode cX0_gapsWithout 72 = .ok (.iconst 0, 1) := by decide +kernel
theorem dX0_gapsWithout_73 : decode cX0_gapsWithout 73 = .ok (.iconst 1, 1) := by decide +kernel
theorem dX0_gapsWithout_74 : decode cX0_gapsWithout 74 = .ok (.iload_n 3, 1) := by decide +kernel
theorem dX0_gapsWithout_75 : decode cX0_gapsWithout 75 = .ok (.iload 4, 2) := by decide +kernel
theorem dX0_gapsWithout_77 : decode cX0_gapsWithout 77 = .ok (.invokevirtual 101, 3) := by decide +kernel
theorem dX0_gapsWithout_80 : decode cX0_gapsWithout 80 = .ok (.lreturn, 1) := by decide +kernel
theorem dX0_gapsWithout_81 : decode cX0_gapsWithout 81 = .ok (.aload_n 0, 1) := by decide +kernel
theorem dX0_gapsWithout_82 : decode cX0_gapsWithout 82 = .ok (.getfield 24, 3) := by decide +kernel
theorem dX0_gapsWithout_85 : decode cX0_gapsWithout 85 = .ok (.iconst 0, 1) := by decide +kernel
theorem dX0_gapsWithout_86 : decode cX0_gapsWithout 86 = .ok (.aaload, 1) := by decide +kernel
theorem dX0_gapsWithout_87 : decode cX0_gapsWithout 87 = .ok (.iload_n 3, 1) := by decide +kernel
theorem dX0_gapsWithout_88 : decode cX0_gapsWithout 88 = .ok (.laload, 1) := by decide +kernel
theorem dX0_gapsWithout_89 : decode cX0_gapsWithout 89 = .ok (.aload_n 0, 1) := by decide +kernel
theorem dX0_gapsWithout_90 : decode cX0_gapsWithout 90 = .ok (.iconst 1, 1) := by decide +kernel
theorem dX0_gapsWithout_91 : decode cX0_gapsWithout 91 = .ok (.iconst 2, 1) := by decide +kernel
theorem dX0_gapsWithout_92 : decode cX0_gapsWithout 92 = .ok (.iload 4, 2) := by decide +kernel
theorem dX0_gapsWithout_94 : decode cX0_gapsWithout 94 = .ok (.iload 5, 2) := by decide +kernel
theorem dX0_gapsWithout_96 : decode cX0_gapsWithout 96 = .ok (.invokevirtual 101, 3) := by decide +kernel
theorem dX0_gapsWithout_99 : decode cX0_gapsWithout 99 = .ok (.lmul, 1) := by decide +kernel
theorem dX0_gapsWithout_100 : decode cX0_gapsWithout 100 = .ok (.aload_n 0, 1) := by decide +kernel
theorem dX0_gapsWithout_101 : decode cX0_gapsWithout 101 = .ok (.getfield 24, 3) := by decide +kernel
theorem dX0_gapsWithout_104 : decode cX0_gapsWithout 104 = .ok (.iconst 0, 1) := by decide +kernel
theorem dX0_gapsWithout_105 : decode cX0_gapsWithout 105 = .ok (.aaload, 1) := by decide +kernel
theorem dX0_gapsWithout_106 : decode cX0_gapsWithout 106 = .ok (.iload 4, 2) := by decide +kernel
theorem dX0_gapsWithout_108 : decode cX0_gapsWithout 108 = .ok (.laload, 1) := by decide +kernel
theorem dX0_gapsWithout_109 : decode cX0_gapsWithout 109 = .ok (.aload_n 0, 1) := by decide +kernel
theorem dX0_gapsWithout_110 : decode cX0_gapsWithout 110 = .ok (.iconst 1, 1) := by decide +kernel
theorem dX0_gapsWithout_111 : decode cX0_gapsWithout 111 = .ok (.iconst 2, 1) := by decide +kernel
theorem dX0_gapsWithout_112 : decode cX0_gapsWithout 112 = .ok (.iload_n 3, 1) := by decide +kernel
theorem dX0_gapsWithout_113 : decode cX0_gapsWithout 113 = .ok (.iload 5, 2) := by decide +kernel
theorem dX0_gapsWithout_115 : decode cX0_gapsWithout 115 = .ok (.invokevirtual 101, 3) := by decide +kernel
theorem dX0_gapsWithout_118 : decode cX0_gapsWithout 118 = .ok (.lmul, 1) := by decide +kernel
theorem dX0_gapsWithout_119 : decode cX0_gapsWithout 119 = .ok (.lsub, 1) := by decide +kernel
theorem dX0_gapsWithout_120 : decode cX0_gapsWithout 120 = .ok (.aload_n 0, 1) := by decide +kernel
theorem dX0_gapsWithout_121 : decode cX0_gapsWithout 121 = .ok (.getfield 24, 3) := by decide +kernel
theorem dX0_gapsWithout_124 : decode cX0_gapsWithout 124 = .ok (.iconst 0, 1) := by decide +kernel
theorem dX0_gapsWithout_125 : decode cX0_gapsWithout 125 = .ok (.aaload, 1) := by decide +kernel
theorem dX0_gapsWithout_126 : decode cX0_gapsWithout 126 = .ok (.iload 5, 2) := by decide +kernel
theorem dX0_gapsWithout_128 : decode cX0_gapsWithout 128 = .ok (.laload, 1) := by decide +kernel
theorem dX0_gapsWithout_129 : decode cX0_gapsWithout 129 = .ok (.aload_n 0, 1) := by decide +kernel
theorem dX0_gapsWithout_130 : decode cX0_gapsWithout 130 = .ok (.iconst 1, 1) := by decide +kernel
theorem dX0_gapsWithout_131 : decode cX0_gapsWithout 131 = .ok (.iconst 2, 1) := by decide +kernel
theorem dX0_gapsWithout_132 : decode cX0_gapsWithout 132 = .ok (.iload_n 3, 1) := by decide +kernel
theorem dX0_gapsWithout_133 : decode cX0_gapsWithout 133 = .ok (.iload 4, 2) := by decide +kernel
theorem dX0_gapsWithout_135 : decode cX0_gapsWithout 135 = .ok (.invokevirtual 101, 3) := by decide +kernel
theorem dX0_gapsWithout_138 : decode cX0_gapsWithout 138 = .ok (.lmul, 1) := by decide +kernel
theorem dX0_gapsWithout_139 : decode cX0_gapsWithout 139 = .ok (.ladd, 1) := by decide +kernel
theorem dX0_gapsWithout_140 : decode cX0_gapsWithout 140 = .ok (.lreturn, 1) := by decide +kernel
theorem dX0_twoLines_0 : decode cX0_twoLines 0 = .ok (.aload_n 0, 1) := by decide +kernel
theorem dX0_twoLines_1 : decode cX0_twoLines 1 = .ok (.getfield 24, 3) := by decide +kernel
theorem dX0_twoLines_4 : decode cX0_twoLines 4 = .ok (.iload_n 1, 1) := by decide +kernel
theorem dX0_twoLines_5 : decode cX0_twoLines 5 = .ok (.aaload, 1) := by decide +kernel
theorem dX0_twoLines_6 : decode cX0_twoLines 6 = .ok (.iload_n 3, 1) := by decide +kernel
theorem dX0_twoLines_7 : decode cX0_twoLines 7 = .ok (.laload, 1) := by decide +kernel
theorem dX0_twoLines_8 : decode cX0_twoLines 8 = .ok (.aload_n 0, 1) := by decide +kernel
theorem dX0_twoLines_9 : decode cX0_twoLines 9 = .ok (.getfield 24, 3) := by decide +kernel
theorem dX0_twoLines_12 : decode cX0_twoLines 12 = .ok (.iload_n 2, 1) := by decide +kernel
theorem dX0_twoLines_13 : decode cX0_twoLines 13 = .ok (.aaload, 1) := by decide +kernel
theorem dX0_twoLines_14 : decode cX0_twoLines 14 = .ok (.iload 4, 2) := by decide +kernel
theorem dX0_twoLines_16 : decode cX0_twoLines 16 = .ok (.laload, 1) := by decide +kernel
theorem dX0_twoLines_17 : decode cX0_twoLines 17 = .ok (.lmul, 1) := by decide +kernel
theorem dX0_twoLines_18 : decode cX0_twoLines 18 = .ok (.aload_n 0, 1) := by decide +kernel
theorem dX0_twoLines_19 : decode cX0_twoLines 19 = .ok (.getfield 24, 3) := by decide +kernel
theorem dX0_twoLines_22 : decode cX0_twoLines 22 = .ok (.iload_n 1, 1) := by decide +kernel
theorem dX0_twoLines_23 : decode cX0_twoLines 23 = .ok (.aaload, 1) := by decide +kernel
theorem dX0_twoLines_24 : decode cX0_twoLines 24 = .ok (.iload 4, 2) := by decide +kernel
theorem dX0_twoLines_26 : decode cX0_twoLines 26 = .ok (.laload, 1) := by decide +kernel
theorem dX0_twoLines_27 : decode cX0_twoLines 27 = .ok (.aload_n 0, 1) := by decide +kernel
theorem dX0_twoLines_28 : decode cX0_twoLines 28 = .ok (.getfield 24, 3) := by decide +kernel
theorem dX0_twoLines_31 : decode cX0_twoLines 31 = .ok (.iload_n 2, 1) := by decide +kernel
theorem dX0_twoLines_32 : decode cX0_twoLines 32 = .ok (.aaload, 1) := by decide +kernel
theorem dX0_twoLines_33 : decode cX0_twoLines 33 = .ok (.iload_n 3, 1) := by decide +kernel
theorem dX0_twoLines_34 : decode cX0_twoLines 34 = .ok (.laload, 1) := by decide +kernel
theorem dX0_twoLines_35 : decode cX0_twoLines 35 = .ok (.lmul, 1) := by decide +kernel
theorem dX0_twoLines_36 : decode cX0_twoLines 36 = .ok (.lsub, 1) := by decide +kernel
theorem dX0_twoLines_37 : decode cX0_twoLines 37 = .ok (.lreturn, 1) := by decide +kernel
theorem dX0_makePositive_0 : decode cX0_makePositive 0 = .ok (.aload_n 0, 1) := by decide +kernel
theorem dX0_makePositive_1 : decode cX0_makePositive 1 = .ok (.iload_n 1, 1) := by decide +kernel
theorem dX0_makePositive_2 : decode cX0_makePositive 2 = .ok (.invokevirtual 105, 3) := by decide +kernel
theorem dX0_makePositive_5 : decode cX0_makePositive 5 = .ok (.lstore_n 2, 1) := by decide +kernel
theorem dX0_makePositive_6 : decode cX0_makePositive 6 = .ok (.iconst 0, 1) := by decide +kernel
theorem dX0_makePositive_7 : decode cX0_makePositive 7 = .ok (.istore 4, 2) := by decide +kernel
theorem dX0_makePositive_9 : decode cX0_makePositive 9 = .ok (.iload 4, 2) := by decide +kernel
theorem dX0_makePositive_11 : decode cX0_makePositive 11 = .ok (.iconst 4, 1) := by decide +kernel
theorem dX0_makePositive_12 : decode cX0_makePositive 12 = .ok (.if_icmp .ge 49, 3) := by decide +kernel
theorem dX0_makePositive_15 : decode cX0_makePositive 15 = .ok (.aload_n 0, 1) := by decide +kernel
theorem dX0_makePositive_16 : decode cX0_makePositive 16 = .ok (.getfield 18, 3) := by decide +kernel
theorem dX0_makePositive_19 : decode cX0_makePositive 19 = .ok (.getfield 93, 3) := by decide +kernel
theorem dX0_makePositive_22 : decode cX0_makePositive 22 = .ok (.iload 4, 2) := by decide +kernel
theorem dX0_makePositive_24 : decode cX0_makePositive 24 = .ok (.dup2, 1) := by decide +kernel
theorem dX0_makePositive_25 : decode cX0_makePositive 25 = .ok (.laload, 1) := by decide +kernel
theorem dX0_makePositive_26 : decode cX0_makePositive 26 = .ok (.lload_n 2, 1) := by decide +kernel
theorem dX0_makePositive_27 : decode cX0_makePositive 27 = .ok (.lmul, 1) := by decide +kernel
theorem dX0_makePositive_28 : decode cX0_makePositive 28 = .ok (.lastore, 1) := by decide +kernel
theorem dX0_makePositive_29 : decode cX0_makePositive 29 = .ok (.iload_n 1, 1) := by decide +kernel
theorem dX0_makePositive_30 : decode cX0_makePositive 30 = .ok (.iload 4, 2) := by decide +kernel
theorem dX0_makePositive_32 : decode cX0_makePositive 32 = .ok (.invokestatic 81, 3) := by decide +kernel
theorem dX0_makePositive_35 : decode cX0_makePositive 35 = .ok (.ifCond .eq 20, 3) := by decide +kernel
theorem dX0_makePositive_38 : decode cX0_makePositive 38 = .ok (.aload_n 0, 1) := by decide +kernel
theorem dX0_makePositive_39 : decode cX0_makePositive 39 = .ok (.getfield 18, 3) := by decide +kernel
theorem dX0_makePositive_42 : decode cX0_makePositive 42 = .ok (.getfield 93, 3) := by decide +kernel
theorem dX0_makePositive_45 : decode cX0_makePositive 45 = .ok (.iload 4, 2) := by decide +kernel
theorem dX0_makePositive_47 : decode cX0_makePositive 47 = .ok (.laload, 1) := by decide +kernel
theorem dX0_makePositive_48 : decode cX0_makePositive 48 = .ok (.lconst 0, 1) := by decide +kernel
theorem dX0_makePositive_49 : decode cX0_makePositive 49 = .ok (.lcmp, 1) := by decide +kernel
theorem dX0_makePositive_50 : decode cX0_makePositive 50 = .ok (.ifCond .gt 5, 3) := by decide +kernel
theorem dX0_makePositive_53 : decode cX0_makePositive 53 = .ok (.iconst 0, 1) := by decide +kernel
theorem dX0_makePositive_54 : decode cX0_makePositive 54 = .ok (.ireturn, 1) := by decide +kernel
theorem dX0_makePositive_55 : decode cX0_makePositive 55 = .ok (.iinc 4 1, 3) := by decide +kernel
theorem dX0_makePositive_58 : decode cX0_makePositive 58 = .ok (.goto (-49), 3) := by decide +kernel
theorem dX0_makePositive_61 : decode cX0_makePositive 61 = .ok (.iconst 1, 1) := by decide +kernel
theorem dX0_makePositive_62 : decode cX0_makePositive 62 = .ok (.ireturn, 1) := by decide +kernel
theorem dX0_signOfFirst_0 : decode cX0_signOfFirst 0 = .ok (.iconst 0, 1) := by decide +kernel
theorem dX0_signOfFirst_1 : decode cX0_signOfFirst 1 = .ok (.istore_n 2, 1) := by decide +kernel
theorem dX0_signOfFirst_2 : decode cX0_signOfFirst 2 = .ok (.iload_n 2, 1) := by decide +kernel
theorem dX0_signOfFirst_3 : decode cX0_signOfFirst 3 = .ok (.iconst 4, 1) := by decide +kernel
theorem dX0_signOfFirst_4 : decode cX0_signOfFirst 4 = .ok (.if_icmp .ge 39, 3) := by decide +kernel
theorem dX0_signOfFirst_7 : decode cX0_signOfFirst 7 = .ok (.iload_n 1, 1) := by decide +kernel
theorem dX0_signOfFirst_8 : decode cX0_signOfFirst 8 = .ok (.iload_n 2, 1) := by decide +kernel
theorem dX0_signOfFirst_9 : decode cX0_signOfFirst 9 = .ok (.invokestatic 81, 3) := by decide +kernel
theorem dX0_signOfFirst_12 : decode cX0_signOfFirst 12 = .ok (.ifCond .eq 25, 3) := by decide +kernel
theorem dX0_signOfFirst_15 : decode cX0_signOfFirst 15 = .ok (.aload_n 0, 1) := by decide +kernel
theorem dX0_signOfFirst_16 : decode cX0_signOfFirst 16 = .ok (.getfield 18, 3) := by decide +kernel
theorem dX0_signOfFirst_19 : decode cX0_signOfFirst 19 = .ok (.getfield 93, 3) := by decide +kernel
theorem dX0_signOfFirst_22 : decode cX0_signOfFirst 22 = .ok (.iload_n 2, 1) := by decide +kernel
theorem dX0_signOfFirst_23 : decode cX0_signOfFirst 23 = .ok (.laload, 1) := by decide +kernel
theorem dX0_signOfFirst_24 : decode cX0_signOfFirst 24 = .ok (.lconst 0, 1) := by decide +kernel
theorem dX0_signOfFirst_25 : decode cX0_signOfFirst 25 = .ok (.lcmp, 1) := by decide +kernel
theorem dX0_signOfFirst_26 : decode cX0_signOfFirst 26 = .ok (.ifCond .ge 9, 3) := by decide +kernel
theorem dX0_signOfFirst_29 : decode cX0_signOfFirst 29 = .ok (.ldc2_w 109, 3) := by decide +kernel
theorem dX0_signOfFirst_32 : decode cX0_signOfFirst 32 = .ok (.goto 4, 3) := by decide +kernel
theorem dX0_signOfFirst_35 : decode cX0_signOfFirst 35 = .ok (.lconst 1, 1) := by decide +kernel
theorem dX0_signOfFirst_36 : decode cX0_signOfFirst 36 = .ok (.lreturn, 1) := by decide +kernel
theorem dX0_signOfFirst_37 : decode cX0_signOfFirst 37 = .ok (.iinc 2 1, 3) := by decide +kernel
theorem dX0_signOfFirst_40 : decode cX0_signOfFirst 40 = .ok (.goto (-38), 3) := by decide +kernel
theorem dX0_signOfFirst_43 : decode cX0_signOfFirst 43 = .ok (.lconst 1, 1) := by decide +kernel
theorem dX0_signOfFirst_44 : decode cX0_signOfFirst 44 = .ok (.lreturn, 1) := by decide +kernel
theorem dX0_keepSpare_0 : decode cX0_keepSpare 0 = .ok (.aload_n 0, 1) := by decide +kernel
theorem dX0_keepSpare_1 : decode cX0_keepSpare 1 = .ok (.getfield 27, 3) := by decide +kernel
theorem dX0_keepSpare_4 : decode cX0_keepSpare 4 = .ok (.istore_n 1, 1) := by decide +kernel
theorem dX0_keepSpare_5 : decode cX0_keepSpare 5 = .ok (.aload_n 0, 1) := by decide +kernel
theorem dX0_keepSpare_6 : decode cX0_keepSpare 6 = .ok (.getfield 27, 3) := by decide +kernel
theorem dX0_keepSpare_9 : decode cX0_keepSpare 9 = .ok (.iconst 1, 1) := by decide +kernel
theorem dX0_keepSpare_10 : decode cX0_keepSpare 10 = .ok (.isub, 1) := by decide +kernel
theorem dX0_keepSpare_11 : decode cX0_keepSpare 11 = .ok (.istore_n 2, 1) := by decide +kernel
theorem dX0_keepSpare_12 : decode cX0_keepSpare 12 = .ok (.iload_n 2, 1) := by decide +kernel
theorem dX0_keepSpare_13 : decode cX0_keepSpare 13 = .ok (.ifCond .lt 47, 3) := by decide +kernel
theorem dX0_keepSpare_16 : decode cX0_keepSpare 16 = .ok (.aload_n 0, 1) := by decide +kernel
theorem dX0_keepSpare_17 : decode cX0_keepSpare 17 = .ok (.getfield 11, 3) := by decide +kernel
theorem dX0_keepSpare_20 : decode cX0_keepSpare 20 = .ok (.iload_n 2, 1) := by decide +kernel
theorem dX0_keepSpare_21 : decode cX0_keepSpare 21 = .ok (.aaload, 1) := by decide +kernel
theorem dX0_keepSpare_22 : decode cX0_keepSpare 22 = .ok (.astore_n 3, 1) := by decide +kernel
theorem dX0_keepSpare_23 : decode cX0_keepSpare 23 = .ok (.aload_n 3, 1) := by decide +kernel
theorem dX0_keepSpare_24 : decode cX0_keepSpare 24 = .ok (.ifnonnull 7, 3) := by decide +kernel
theorem dX0_keepSpare_27 : decode cX0_keepSpare 27 = .ok (.iconst 1, 1) := by decide +kernel
theorem dX0_keepSpare_28 : decode cX0_keepSpare 28 = .ok (.goto 11, 3) := by decide +kernel
theorem dX0_keepSpare_31 : decode cX0_keepSpare 31 = .ok (.aload_n 0, 1) := by decide +kernel
theorem dX0_keepSpare_32 : decode cX0_keepSpare 32 = .ok (.getfield 18, 3) := by decide +kernel
theorem dX0_keepSpare_35 : decode cX0_keepSpare 35 = .ok (.aload_n 3, 1) := by decide +kernel
theorem dX0_keepSpare_36 : decode cX0_keepSpare 36 = .ok (.invokevirtual 35, 3) := by decide +kernel
theorem dX0_keepSpare_39 : decode cX0_keepSpare 39 = .ok (.istore 4, 2) := by decide +kernel
theorem dX0_keepSpare_41 : decode cX0_keepSpare 41 = .ok (.iload 4, 2) := by decide +kernel
theorem dX0_keepSpare_43 : decode cX0_keepSpare 43 = .ok (.ifCond .ne 4, 3) := by decide +kernel
theorem dX0_keepSpare_46 : decode cX0_keepSpare 46 = .ok (.return_, 1) := by decide +kernel
theorem dX0_keepSpare_47 : decode cX0_keepSpare 47 = .ok (.iload 4, 2) := by decide +kernel
theorem dX0_keepSpare_49 : decode cX0_keepSpare 49 = .ok (.ifCond .ge 5, 3) := by decide +kernel
theorem dX0_keepSpare_52 : decode cX0_keepSpare 52 = .ok (.iload_n 2, 1) := by decide +kernel
theorem dX0_keepSpare_53 : decode cX0_keepSpare 53 = .ok (.istore_n 1, 1) := by decide +kernel
theorem dX0_keepSpare_54 : decode cX0_keepSpare 54 = .ok (.iinc 2 (-1), 3) := by decide +kernel
theorem dX0_keepSpare_57 : decode cX0_keepSpare 57 = .ok (.goto (-45), 3) := by decide +kernel
theorem dX0_keepSpare_60 : decode cX0_keepSpare 60 = .ok (.aload_n 0, 1) := by decide +kernel
theorem dX0_keepSpare_61 : decode cX0_keepSpare 61 = .ok (.getfield 27, 3) := by decide +kernel
theorem dX0_keepSpare_64 : decode cX0_keepSpare 64 = .ok (.bipush 69, 2) := by decide +kernel
theorem dX0_keepSpare_66 : decode cX0_keepSpare 66 = .ok (.if_icmp .ge 8, 3) := by decide +kernel
theorem dX0_keepSpare_69 : decode cX0_keepSpare 69 = .ok (.aload_n 0, 1) := by decide +kernel
theorem dX0_keepSpare_70 : decode cX0_keepSpare 70 = .ok (.iload_n 1, 1) := by decide +kernel
theorem dX0_keepSpare_71 : decode cX0_keepSpare 71 = .ok (.invokevirtual 111, 3) := by decide +kernel
theorem dX0_keepSpare_74 : decode cX0_keepSpare 74 = .ok (.return_, 1) := by decide +kernel
theorem dX0_insertSpare_0 : decode cX0_insertSpare 0 = .ok (.aload_n 0, 1) := by decide +kernel
theorem dX0_insertSpare_1 : decode cX0_insertSpare 1 = .ok (.getfield 11, 3) := by decide +kernel
theorem dX0_insertSpare_4 : decode cX0_insertSpare 4 = .ok (.aload_n 0, 1) := by decide +kernel
theorem dX0_insertSpare_5 : decode cX0_insertSpare 5 = .ok (.getfield 27, 3) := by decide +kernel
theorem dX0_insertSpare_8 : decode cX0_insertSpare 8 = .ok (.aaload, 1) := by decide +kernel
theorem dX0_insertSpare_9 : decode cX0_insertSpare 9 = .ok (.astore_n 2, 1) := by decide +kernel
theorem dX0_insertSpare_10 : decode cX0_insertSpare 10 = .ok (.aload_n 0, 1) := by decide +kernel
theorem dX0_insertSpare_11 : decode cX0_insertSpare 11 = .ok (.getfield 27, 3) := by decide +kernel
theorem dX0_insertSpare_14 : decode cX0_insertSpare 14 = .ok (.istore_n 3, 1) := by decide +kernel
theorem dX0_insertSpare_15 : decode cX0_insertSpare 15 = .ok (.iload_n 3, 1) := by decide +kernel
theorem dX0_insertSpare_16 : decode cX0_insertSpare 16 = .ok (.iload_n 1, 1) := by decide +kernel
theorem dX0_insertSpare_17 : decode cX0_insertSpare 17 = .ok (.if_icmp .le 23, 3) := by decide +kernel
theorem dX0_insertSpare_20 : decode cX0_insertSpare 20 = .ok (.aload_n 0, 1) := by decide +kernel
theorem dX0_insertSpare_21 : decode cX0_insertSpare 21 = .ok (.getfield 11, 3) := by decide +kernel
theorem dX0_insertSpare_24 : decode cX0_insertSpare 24 = .ok (.iload_n 3, 1) := by decide +kernel
theorem dX0_insertSpare_25 : decode cX0_insertSpare 25 = .ok (.aload_n 0, 1) := by decide +kernel
theorem dX0_insertSpare_26 : decode cX0_insertSpare 26 = .ok (.getfield 11, 3) := by decide +kernel
theorem dX0_insertSpare_29 : decode cX0_insertSpare 29 = .ok (.iload_n 3, 1) := by decide +kernel
theorem dX0_insertSpare_30 : decode cX0_insertSpare 30 = .ok (.iconst 1, 1) := by decide +kernel
theorem dX0_insertSpare_31 : decode cX0_insertSpare 31 = .ok (.isub, 1) := by decide +kernel
theorem dX0_insertSpare_32 : decode cX0_insertSpare 32 = .ok (.aaload, 1) := by decide +kernel
theorem dX0_insertSpare_33 : decode cX0_insertSpare 33 = .ok (.aastore, 1) := by decide +kernel
theorem dX0_insertSpare_34 : decode cX0_insertSpare 34 = .ok (.iinc 3 (-1), 3) := by decide +kernel
theorem dX0_insertSpare_37 : decode cX0_insertSpare 37 = .ok (.goto (-22), 3) := by decide +kernel
theorem dX0_insertSpare_40 : decode cX0_insertSpare 40 = .ok (.aload_n 0, 1) := by decide +kernel
theorem dX0_insertSpare_41 : decode cX0_insertSpare 41 = .ok (.getfield 11, 3) := by decide +kernel
theorem dX0_insertSpare_44 : decode cX0_insertSpare 44 = .ok (.iload_n 1, 1) := by decide +kernel
theorem dX0_insertSpare_45 : decode cX0_insertSpare 45 = .ok (.aload_n 0, 1) := by decide +kernel
theorem dX0_insertSpare_46 : decode cX0_insertSpare 46 = .ok (.getfield 18, 3) := by decide +kernel
theorem dX0_insertSpare_49 : decode cX0_insertSpare 49 = .ok (.aastore, 1) := by decide +kernel
theorem dX0_insertSpare_50 : decode cX0_insertSpare 50 = .ok (.aload_n 0, 1) := by decide +kernel
theorem dX0_insertSpare_51 : decode cX0_insertSpare 51 = .ok (.aload_n 2, 1) := by decide +kernel
theorem dX0_insertSpare_52 : decode cX0_insertSpare 52 = .ok (.ifnonnull 13, 3) := by decide +kernel
theorem dX0_insertSpare_55 : decode cX0_insertSpare 55 = .ok (.new 9, 3) := by decide +kernel
theorem dX0_insertSpare_58 : decode cX0_insertSpare 58 = .ok (.dup, 1) := by decide +kernel
theorem dX0_insertSpare_59 : decode cX0_insertSpare 59 = .ok (.invokespecial 17, 3) := by decide +kernel
theorem dX0_insertSpare_62 : decode cX0_insertSpare 62 = .ok (.goto 4, 3) := by decide +kernel
theorem dX0_insertSpare_65 : decode cX0_insertSpare 65 = .ok (.aload_n 2, 1) := by decide +kernel
theorem dX0_insertSpare_66 : decode cX0_insertSpare 66 = .ok (.putfield 18, 3) := by decide +kernel
theorem dX0_insertSpare_69 : decode cX0_insertSpare 69 = .ok (.aload_n 0, 1) := by decide +kernel
theorem dX0_insertSpare_70 : decode cX0_insertSpare 70 = .ok (.dup, 1) := by decide +kernel
theorem dX0_insertSpare_71 : decode cX0_insertSpare 71 = .ok (.getfield 27, 3) := by decide +kernel
theorem dX0_insertSpare_74 : decode cX0_insertSpare 74 = .ok (.iconst 1, 1) := by decide +kernel
theorem dX0_insertSpare_75 : decode cX0_insertSpare 75 = .ok (.iadd, 1) := by decide +kernel
theorem dX0_insertSpare_76 : decode cX0_insertSpare 76 = .ok (.putfield 27, 3) := by decide +kernel
theorem dX0_insertSpare_79 : decode cX0_insertSpare 79 = .ok (.return_, 1) := by decide +kernel
theorem dX1_init_0 : decode cX1_init 0 = .ok (.aload_n 0, 1) := by decide +kernel
theorem dX1_init_1 : decode cX1_init 1 = .ok (.invokespecial 3, 3) := by decide +kernel
theorem dX1_init_4 : decode cX1_init 4 = .ok (.return_, 1) := by decide +kernel
theorem dX1_run_0 : decode cX1_run 0 = .ok (.aload_n 0, 1) := by decide +kernel
theorem dX1_run_1 : decode cX1_run 1 = .ok (.aload_n 1, 1) := by decide +kernel
theorem dX1_run_2 : decode cX1_run 2 = .ok (.invokevirtual 9, 3) := by decide +kernel
theorem dX1_run_5 : decode cX1_run 5 = .ok (.putfield 15, 3) := by decide +kernel
theorem dX1_run_8 : decode cX1_run 8 = .ok (.aload_n 0, 1) := by decide +kernel
theorem dX1_run_9 : decode cX1_run 9 = .ok (.aload_n 2, 1) := by decide +kernel
theorem dX1_run_10 : decode cX1_run 10 = .ok (.invokevirtual 9, 3) := by decide +kernel
theorem dX1_run_13 : decode cX1_run 13 = .ok (.putfield 21, 3) := by decide +kernel
theorem dX1_run_16 : decode cX1_run 16 = .ok (.aload_n 0, 1) := by decide +kernel
theorem dX1_run_17 : decode cX1_run 17 = .ok (.iconst 0, 1) := by decide +kernel
theorem dX1_run_18 : decode cX1_run 18 = .ok (.putfield 24, 3) := by decide +kernel
theorem dX1_run_21 : decode cX1_run 21 = .ok (.iconst 1, 1) := by decide +kernel
theorem dX1_run_22 : decode cX1_run 22 = .ok (.istore_n 3, 1) := by decide +kernel
theorem dX1_run_23 : decode cX1_run 23 = .ok (.iconst 0, 1) := by decide +kernel
theorem dX1_run_24 : decode cX1_run 24 = .ok (.istore 4, 2) := by decide +kernel
theorem dX1_run_26 : decode cX1_run 26 = .ok (.iload 4, 2) := by decide +kernel
theorem dX1_run_28 : decode cX1_run 28 = .ok (.bipush 8, 2) := by decide +kernel
theorem dX1_run_30 : decode cX1_run 30 = .ok (.if_icmp .ge 91, 3) := by decide +kernel
theorem dX1_run_33 : decode cX1_run 33 = .ok (.iload_n 3, 1) := by decide +kernel
theorem dX1_run_34 : decode cX1_run 34 = .ok (.ifCond .eq 87, 3) := by decide +kernel
theorem dX1_run_37 : decode cX1_run 37 = .ok (.aload_n 1, 1) := by decide +kernel
theorem dX1_run_38 : decode cX1_run 38 = .ok (.aload_n 0, 1) := by decide +kernel
theorem dX1_run_39 : decode cX1_run 39 = .ok (.getfield 15, 3) := by decide +kernel
theorem dX1_run_42 : decode cX1_run 42 = .ok (.aload_n 0, 1) := by decide +kernel
theorem dX1_run_43 : decode cX1_run 43 = .ok (.getfield 21, 3) := by decide +kernel
theorem dX1_run_46 : decode cX1_run 46 = .ok (.invokevirtual 27, 3) := by decide +kernel
theorem dX1_run_49 : decode cX1_run 49 = .ok (.istore 5, 2) := by decide +kernel
theorem dX1_run_51 : decode cX1_run 51 = .ok (.aload_n 2, 1) := by decide +kernel
theorem dX1_run_52 : decode cX1_run 52 = .ok (.aload_n 0, 1) := by decide +kernel
theorem dX1_run_53 : decode cX1_run 53 = .ok (.getfield 21, 3) := by decide +kernel
theorem dX1_run_56 : decode cX1_run 56 = .ok (.aload_n 0, 1) := by decide +kernel
theorem dX1_run_57 : decode cX1_run 57 = .ok (.getfield 15, 3) := by decide +kernel
theorem dX1_run_60 : decode cX1_run 60 = .ok (.invokevirtual 27, 3) := by decide +kernel
theorem dX1_run_63 : decode cX1_run 63 = .ok (.istore 6, 2) := by decide +kernel
theorem dX1_run_65 : decode cX1_run 65 = .ok (.iload 5, 2) := by decide +kernel
theorem dX1_run_67 : decode cX1_run 67 = .ok (.aload_n 0, 1) := by decide +kernel
theorem dX1_run_68 : decode cX1_run 68 = .ok (.getfield 15, 3) := by decide +kernel
theorem dX1_run_71 : decode cX1_run 71 = .ok (.if_icmp .ne 12, 3) := by decide +kernel
theorem dX1_run_74 : decode cX1_run 74 = .ok (.iload 6, 2) := by decide +kernel
theorem dX1_run_76 : decode cX1_run 76 = .ok (.aload_n 0, 1) := by decide +kernel
theorem dX1_run_77 : decode cX1_run 77 = .ok (.getfield 21, 3) := by decide +kernel
theorem dX1_run_80 : decode cX1_run 80 = .ok (.if_icmp .eq 7, 3) := by decide +kernel
theorem dX1_run_83 : decode cX1_run 83 = .ok (.iconst 1, 1) := by decide +kernel
theorem dX1_run_84 : decode cX1_run 84 = .ok (.goto 4, 3) := by decide +kernel
theorem dX1_run_87 : decode cX1_run 87 = .ok (.iconst 0, 1) := by decide +kernel
theorem dX1_run_88 : decode cX1_run 88 = .ok (.istore_n 3, 1) := by decide +kernel
theorem dX1_run_89 : decode cX1_run 89 = .ok (.iload_n 3, 1) := by decide +kernel
theorem dX1_run_90 : decode cX1_run 90 = .ok (.ifCond .eq 13, 3) := by decide +kernel
theorem dX1_run_93 : decode cX1_run 93 = .ok (.aload_n 0, 1) := by decide +kernel
theorem dX1_run_94 : decode cX1_run 94 = .ok (.dup, 1) := by decide +kernel
theorem dX1_run_95 : decode cX1_run 95 = .ok (.getfield 24, 3) := by decide +kernel
theorem dX1_run_98 : decode cX1_run 98 = .ok (.iconst 1, 1) := by decide +kernel
theorem dX1_run_99 : decode cX1_run 99 = .ok (.iadd, 1) := by decide +kernel
theorem dX1_run_100 : decode cX1_run 100 = .ok (.putfield 24, 3) := by decide +kernel
theorem dX1_run_103 : decode cX1_run 103 = .ok (.aload_n 0, 1) := by decide +kernel
theorem dX1_run_104 : decode cX1_run 104 = .ok (.iload 5, 2) := by decide +kernel
theorem dX1_run_106 : decode cX1_run 106 = .ok (.putfield 15, 3) := by decide +kernel
theorem dX1_run_109 : decode cX1_run 109 = .ok (.aload_n 0, 1) := by decide +kernel
theorem dX1_run_110 : decode cX1_run 110 = .ok (.iload 6, 2) := by decide +kernel
theorem dX1_run_112 : decode cX1_run 112 = .ok (.putfield 21, 3) := by decide +kernel
theorem dX1_run_115 : decode cX1_run 115 = .ok (.iinc 4 1, 3) := by decide +kernel
theorem dX1_run_118 : decode cX1_run 118 = .ok (.goto (-92), 3) := by decide +kernel
theorem dX1_run_121 : decode cX1_run 121 = .ok (.return_, 1) := by decide +kernel
theorem dX2_init_0 : decode cX2_init 0 = .ok (.aload_n 0, 1) := by decide +kernel
theorem dX2_init_1 : decode cX2_init 1 = .ok (.invokespecial 3, 3) := by decide +kernel
theorem dX2_init_4 : decode cX2_init 4 = .ok (.aload_n 0, 1) := by decide +kernel
theorem dX2_init_5 : decode cX2_init 5 = .ok (.iconst 4, 1) := by decide +kernel
theorem dX2_init_6 : decode cX2_init 6 = .ok (.newarray .long, 2) := by decide +kernel
theorem dX2_init_8 : decode cX2_init 8 = .ok (.putfield 9, 3) := by decide +kernel
theorem dX2_init_11 : decode cX2_init 11 = .ok (.return_, 1) := by decide +kernel
theorem dX2_sumUp_0 : decode cX2_sumUp 0 = .ok (.aload_n 0, 1) := by decide +kernel
theorem dX2_sumUp_1 : decode cX2_sumUp 1 = .ok (.lconst 0, 1) := by decide +kernel
theorem dX2_sumUp_2 : decode cX2_sumUp 2 = .ok (.putfield 15, 3) := by decide +kernel
theorem dX2_sumUp_5 : decode cX2_sumUp 5 = .ok (.aload_n 0, 1) := by decide +kernel
theorem dX2_sumUp_6 : decode cX2_sumUp 6 = .ok (.iconst 0, 1) := by decide +kernel
theorem dX2_sumUp_7 : decode cX2_sumUp 7 = .ok (.putfield 19, 3) := by decide +kernel
theorem dX2_sumUp_10 : decode cX2_sumUp 10 = .ok (.iconst 0, 1) := by decide +kernel
theorem dX2_sumUp_11 : decode cX2_sumUp 11 = .ok (.istore_n 1, 1) := by decide +kernel
theorem dX2_sumUp_12 : decode cX2_sumUp 12 = .ok (.iload_n 1, 1) := by decide +kernel
theorem dX2_sumUp_13 : decode cX2_sumUp 13 = .ok (.iconst 4, 1) := by decide +kernel
theorem dX2_sumUp_14 : decode cX2_sumUp 14 = .ok (.if_icmp .ge 47, 3) := by decide +kernel
theorem dX2_sumUp_17 : decode cX2_sumUp 17 = .ok (.aload_n 0, 1) := by decide +kernel
theorem dX2_sumUp_18 : decode cX2_sumUp 18 = .ok (.dup, 1) := by decide +kernel
theorem dX2_sumUp_19 : decode cX2_sumUp 19 = .ok (.getfield 15, 3) := by decide +kernel
theorem dX2_sumUp_22 : decode cX2_sumUp 22 = .ok (.aload_n 0, 1) := by decide +kernel
theorem dX2_sumUp_23 : decode cX2_sumUp 23 = .ok (.getfield 9, 3) := by decide +kernel
theorem dX2_sumUp_26 : decode cX2_sumUp 26 = .ok (.iload_n 1, 1) := by decide +kernel
theorem dX2_sumUp_27 : decode cX2_sumUp 27 = .ok (.laload, 1) := by decide +kernel
theorem dX2_sumUp_28 : decode cX2_sumUp 28 = .ok (.ladd, 1) := by decide +kernel
theorem dX2_sumUp_29 : decode cX2_sumUp 29 = .ok (.putfield 15, 3) := by decide +kernel
theorem dX2_sumUp_32 : decode cX2_sumUp 32 = .ok (.aload_n 0, 1) := by decide +kernel
theorem dX2_sumUp_33 : decode cX2_sumUp 33 = .ok (.getfield 9, 3) := by decide +kernel
theorem dX2_sumUp_36 : decode cX2_sumUp 36 = .ok (.iload_n 1, 1) := by decide +kernel
theorem dX2_sumUp_37 : decode cX2_sumUp 37 = .ok (.laload, 1) := by decide +kernel
theorem dX2_sumUp_38 : decode cX2_sumUp 38 = .ok (.lconst 0, 1) := by decide +kernel
theorem dX2_sumUp_39 : decode cX2_sumUp 39 = .ok (.lcmp, 1) := by decide +kernel
theorem dX2_sumUp_40 : decode cX2_sumUp 40 = .ok (.ifCond .le 15, 3) := by decide +kernel
theorem dX2_sumUp_43 : decode cX2_sumUp 43 = .ok (.aload_n 0, 1) := by decide +kernel
theorem dX2_sumUp_44 : decode cX2_sumUp 44 = .ok (.dup, 1) := by decide +kernel
theorem dX2_sumUp_45 : decode cX2_sumUp 45 = .ok (.getfield 19, 3) := by decide +kernel
theorem dX2_sumUp_48 : decode cX2_sumUp 48 = .ok (.iconst 1, 1) := by decide +kernel
theorem dX2_sumUp_49 : decode cX2_sumUp 49 = .ok (.iload_n 1, 1) := by decide +kernel
theorem dX2_sumUp_50 : decode cX2_sumUp 50 = .ok (.ishl, 1) := by decide +kernel
theorem dX2_sumUp_51 : decode cX2_sumUp 51 = .ok (.ior, 1) := by decide +kernel
theorem dX2_sumUp_52 : decode cX2_sumUp 52 = .ok (.putfield 19, 3) := by decide +kernel
theorem dX2_sumUp_55 : decode cX2_sumUp 55 = .ok (.iinc 1 1, 3) := by decide +kernel
theorem dX2_sumUp_58 : decode cX2_sumUp 58 = .ok (.goto (-46), 3) := by decide +kernel
theorem dX2_sumUp_61 : decode cX2_sumUp 61 = .ok (.return_, 1) := by decide +kernel
theorem dX2_orderTo_0 : decode cX2_orderTo 0 = .ok (.iconst 0, 1) := by decide +kernel
theorem dX2_orderTo_1 : decode cX2_orderTo 1 = .ok (.istore_n 2, 1) := by decide +kernel
theorem dX2_orderTo_2 : decode cX2_orderTo 2 = .ok (.iload_n 2, 1) := by decide +kernel
theorem dX2_orderTo_3 : decode cX2_orderTo 3 = .ok (.iconst 4, 1) := by decide +kernel
theorem dX2_orderTo_4 : decode cX2_orderTo 4 = .ok (.if_icmp .ge 54, 3) := by decide +kernel
theorem dX2_orderTo_7 : decode cX2_orderTo 7 = .ok (.aload_n 0, 1) := by decide +kernel
theorem dX2_orderTo_8 : decode cX2_orderTo 8 = .ok (.getfield 9, 3) := by decide +kernel
theorem dX2_orderTo_11 : decode cX2_orderTo 11 = .ok (.iload_n 2, 1) := by decide +kernel
theorem dX2_orderTo_12 : decode cX2_orderTo 12 = .ok (.laload, 1) := by decide +kernel
theorem dX2_orderTo_13 : decode cX2_orderTo 13 = .ok (.aload_n 1, 1) := by decide +kernel
theorem dX2_orderTo_14 : decode cX2_orderTo 14 = .ok (.getfield 15, 3) := by decide +kernel
theorem dX2_orderTo_17 : decode cX2_orderTo 17 = .ok (.lmul, 1) := by decide +kernel
theorem dX2_orderTo_18 : decode cX2_orderTo 18 = .ok (.lstore_n 3, 1) := by decide +kernel
theorem dX2_orderTo_19 : decode cX2_orderTo 19 = .ok (.aload_n 1, 1) := by decide +kernel
theorem dX2_orderTo_20 : decode cX2_orderTo 20 = .ok (.getfield 9, 3) := by decide +kernel
theorem dX2_orderTo_23 : decode cX2_orderTo 23 = .ok (.iload_n 2, 1) := by decide +kernel
theorem dX2_orderTo_24 : decode cX2_orderTo 24 = .ok (.laload, 1) := by decide +kernel
theorem dX2_orderTo_25 : decode cX2_orderTo 25 = .ok (.aload_n 0, 1) := by decide +kernel
theorem dX2_orderTo_26 : decode cX2_orderTo 26 = .ok (.getfield 15, 3) := by decide +kernel
theorem dX2_orderTo_29 : decode cX2_orderTo 29 = .ok (.lmul, 1) := by decide +kernel
theorem dX2_orderTo_30 : decode cX2_orderTo 30 = .ok (.lstore 5, 2) := by decide +kernel
theorem dX2_orderTo_32 : decode cX2_orderTo 32 = .ok (.lload_n 3, 1) := by decide +kernel
theorem dX2_orderTo_33 : decode cX2_orderTo 33 = .ok (.lload 5, 2) := by decide +kernel
theorem dX2_orderTo_35 : decode cX2_orderTo 35 = .ok (.lcmp, 1) := by decide +kernel
theorem dX2_orderTo_36 : decode cX2_orderTo 36 = .ok (.ifCond .eq 16, 3) := by decide +kernel
theorem dX2_orderTo_39 : decode cX2_orderTo 39 = .ok (.lload_n 3, 1) := by decide +kernel
theorem dX2_orderTo_40 : decode cX2_orderTo 40 = .ok (.lload 5, 2) := by decide +kernel
theorem dX2_orderTo_42 : decode cX2_orderTo 42 = .ok (.lcmp, 1) := by decide +kernel
theorem dX2_orderTo_43 : decode cX2_orderTo 43 = .ok (.ifCond .le 7, 3) := by decide +kernel
theorem dX2_orderTo_46 : decode cX2_orderTo 46 = .ok (.iconst (-1), 1) := by decide +kernel
theorem dX2_orderTo_47 : decode cX2_orderTo 47 = .ok (.goto 4, 3) := by decide +kernel
theorem dX2_orderTo_50 : decode cX2_orderTo 50 = .ok (.iconst 1, 1) := by decide +kernel
theorem dX2_orderTo_51 : decode cX2_orderTo 51 = .ok (.ireturn, 1) := by decide +kernel
theorem dX2_orderTo_52 : decode cX2_orderTo 52 = .ok (.iinc 2 1, 3) := by decide +kernel
theorem dX2_orderTo_55 : decode cX2_orderTo 55 = .ok (.goto (-53), 3) := by decide +kernel
theorem dX2_orderTo_58 : decode cX2_orderTo 58 = .ok (.iconst 0, 1) := by decide +kernel
theorem dX2_orderTo_59 : decode cX2_orderTo 59 = .ok (.ireturn, 1) := by decide +kernel
theorem dX2_fits_0 : decode cX2_fits 0 = .ok (.aload_n 0, 1) := by decide +kernel
theorem dX2_fits_1 : decode cX2_fits 1 = .ok (.getfield 19, 3) := by decide +kernel
theorem dX2_fits_4 : decode cX2_fits 4 = .ok (.aload_n 1, 1) := by decide +kernel
theorem dX2_fits_5 : decode cX2_fits 5 = .ok (.getfield 23, 3) := by decide +kernel
theorem dX2_fits_8 : decode cX2_fits 8 = .ok (.iconst (-1), 1) := by decide +kernel
theorem dX2_fits_9 : decode cX2_fits 9 = .ok (.ixor, 1) := by decide +kernel
theorem dX2_fits_10 : decode cX2_fits 10 = .ok (.iand, 1) := by decide +kernel
theorem dX2_fits_11 : decode cX2_fits 11 = .ok (.ifCond .ne 21, 3) := by decide +kernel
theorem dX2_fits_14 : decode cX2_fits 14 = .ok (.aload_n 1, 1) := by decide +kernel
theorem dX2_fits_15 : decode cX2_fits 15 = .ok (.getfield 19, 3) := by decide +kernel
theorem dX2_fits_18 : decode cX2_fits 18 = .ok (.aload_n 0, 1) := by decide +kernel
theorem dX2_fits_19 : decode cX2_fits 19 = .ok (.getfield 23, 3) := by decide +kernel
theorem dX2_fits_22 : decode cX2_fits 22 = .ok (.iconst (-1), 1) := by decide +kernel
theorem dX2_fits_23 : decode cX2_fits 23 = .ok (.ixor, 1) := by decide +kernel
theorem dX2_fits_24 : decode cX2_fits 24 = .ok (.iand, 1) := by decide +kernel
theorem dX2_fits_25 : decode cX2_fits 25 = .ok (.ifCond .ne 7, 3) := by decide +kernel
theorem dX2_fits_28 : decode cX2_fits 28 = .ok (.iconst 1, 1) := by decide +kernel
theorem dX2_fits_29 : decode cX2_fits 29 = .ok (.goto 4, 3) := by decide +kernel
theorem dX2_fits_32 : decode cX2_fits 32 = .ok (.iconst 0, 1) := by decide +kernel
theorem dX2_fits_33 : decode cX2_fits 33 = .ok (.ireturn, 1) := by decide +kernel
theorem dX3_init_0 : decode cX3_init 0 = .ok (.aload_n 0, 1) := by decide +kernel
theorem dX3_init_1 : decode cX3_init 1 = .ok (.invokespecial 3, 3) := by decide +kernel
theorem dX3_init_4 : decode cX3_init 4 = .ok (.aload_n 0, 1) := by decide +kernel
theorem dX3_init_5 : decode cX3_init 5 = .ok (.iconst 1, 1) := by decide +kernel
theorem dX3_init_6 : decode cX3_init 6 = .ok (.putfield 9, 3) := by decide +kernel
theorem dX3_init_9 : decode cX3_init 9 = .ok (.aload_n 0, 1) := by decide +kernel
theorem dX3_init_10 : decode cX3_init 10 = .ok (.new 15, 3) := by decide +kernel
theorem dX3_init_13 : decode cX3_init 13 = .ok (.dup, 1) := by decide +kernel
theorem dX3_init_14 : decode cX3_init 14 = .ok (.invokespecial 17, 3) := by decide +kernel
theorem dX3_init_17 : decode cX3_init 17 = .ok (.putfield 18, 3) := by decide +kernel
theorem dX3_init_20 : decode cX3_init 20 = .ok (.aload_n 0, 1) := by decide +kernel
theorem dX3_init_21 : decode cX3_init 21 = .ok (.bipush 16, 2) := by decide +kernel
theorem dX3_init_23 : decode cX3_init 23 = .ok (.newarray .int, 2) := by decide +kernel
theorem dX3_init_25 : decode cX3_init 25 = .ok (.putfield 22, 3) := by decide +kernel
theorem dX3_init_28 : decode cX3_init 28 = .ok (.aload_n 0, 1) := by decide +kernel
theorem dX3_init_29 : decode cX3_init 29 = .ok (.iconst 4, 1) := by decide +kernel
theorem dX3_init_30 : decode cX3_init 30 = .ok (.newarray .int, 2) := by decide +kernel
theorem dX3_init_32 : decode cX3_init 32 = .ok (.putfield 26, 3) := by decide +kernel
theorem dX3_init_35 : decode cX3_init 35 = .ok (.aload_n 0, 1) := by decide +kernel
theorem dX3_init_36 : decode cX3_init 36 = .ok (.new 29, 3) := by decide +kernel
theorem dX3_init_39 : decode cX3_init 39 = .ok (.dup, 1) := by decide +kernel
theorem dX3_init_40 : decode cX3_init 40 = .ok (.invokespecial 31, 3) := by decide +kernel
theorem dX3_init_43 : decode cX3_init 43 = .ok (.putfield 32, 3) := by decide +kernel
theorem dX3_init_46 : decode cX3_init 46 = .ok (.return_, 1) := by decide +kernel
theorem dX3_startAnew_0 : decode cX3_startAnew 0 = .ok (.aload_n 0, 1) := by decide +kernel
theorem dX3_startAnew_1 : decode cX3_startAnew 1 = .ok (.iload_n 1, 1) := by decide +kernel
theorem dX3_startAnew_2 : decode cX3_startAnew 2 = .ok (.putfield 9, 3) := by decide +kernel
theorem dX3_startAnew_5 : decode cX3_startAnew 5 = .ok (.iconst 0, 1) := by decide +kernel
theorem dX3_startAnew_6 : decode cX3_startAnew 6 = .ok (.istore_n 2, 1) := by decide +kernel
theorem dX3_startAnew_7 : decode cX3_startAnew 7 = .ok (.iload_n 2, 1) := by decide +kernel
theorem dX3_startAnew_8 : decode cX3_startAnew 8 = .ok (.aload_n 0, 1) := by decide +kernel
theorem dX3_startAnew_9 : decode cX3_startAnew 9 = .ok (.getfield 22, 3) := by decide +kernel
theorem dX3_startAnew_12 : decode cX3_startAnew 12 = .ok (.arraylength, 1) := by decide +kernel
theorem dX3_startAnew_13 : decode cX3_startAnew 13 = .ok (.if_icmp .ge 16, 3) := by decide +kernel
theorem dX3_startAnew_16 : decode cX3_startAnew 16 = .ok (.aload_n 0, 1) := by decide +kernel
theorem dX3_startAnew_17 : decode cX3_startAnew 17 = .ok (.getfield 22, 3) := by decide +kernel
theorem dX3_startAnew_20 : decode cX3_startAnew 20 = .ok (.iload_n 2, 1) := by decide +kernel
theorem dX3_startAnew_21 : decode cX3_startAnew 21 = .ok (.iconst 0, 1) := by decide +kernel
theorem dX3_startAnew_22 : decode cX3_startAnew 22 = .ok (.iastore, 1) := by decide +kernel
theorem dX3_startAnew_23 : decode cX3_startAnew 23 = .ok (.iinc 2 1, 3) := by decide +kernel
theorem dX3_startAnew_26 : decode cX3_startAnew 26 = .ok (.goto (-19), 3) := by decide +kernel
theorem dX3_startAnew_29 : decode cX3_startAnew 29 = .ok (.return_, 1) := by decide +kernel
theorem dX3_hasChoice_0 : decode cX3_hasChoice 0 = .ok (.iload_n 1, 1) := by decide +kernel
theorem dX3_hasChoice_1 : decode cX3_hasChoice 1 = .ok (.ifCond .lt 15, 3) := by decide +kernel
theorem dX3_hasChoice_4 : decode cX3_hasChoice 4 = .ok (.iload_n 1, 1) := by decide +kernel
theorem dX3_hasChoice_5 : decode cX3_hasChoice 5 = .ok (.aload_n 0, 1) := by decide +kernel
theorem dX3_hasChoice_6 : decode cX3_hasChoice 6 = .ok (.getfield 9, 3) := by decide +kernel
theorem dX3_hasChoice_9 : decode cX3_hasChoice 9 = .ok (.if_icmp .ge 7, 3) := by decide +kernel
theorem dX3_hasChoice_12 : decode cX3_hasChoice 12 = .ok (.iconst 1, 1) := by decide +kernel
theorem dX3_hasChoice_13 : decode cX3_hasChoice 13 = .ok (.goto 4, 3) := by decide +kernel
theorem dX3_hasChoice_16 : decode cX3_hasChoice 16 = .ok (.iconst 0, 1) := by decide +kernel
theorem dX3_hasChoice_17 : decode cX3_hasChoice 17 = .ok (.ireturn, 1) := by decide +kernel
theorem dX3_allBits_0 : decode cX3_allBits 0 = .ok (.iconst 1, 1) := by decide +kernel
theorem dX3_allBits_1 : decode cX3_allBits 1 = .ok (.aload_n 0, 1) := by decide +kernel
theorem dX3_allBits_2 : decode cX3_allBits 2 = .ok (.getfield 9, 3) := by decide +kernel
theorem dX3_allBits_5 : decode cX3_allBits 5 = .ok (.ishl, 1) := by decide +kernel
theorem dX3_allBits_6 : decode cX3_allBits 6 = .ok (.iconst 1, 1) := by decide +kernel
theorem dX3_allBits_7 : decode cX3_allBits 7 = .ok (.isub, 1) := by decide +kernel
theorem dX3_allBits_8 : decode cX3_allBits 8 = .ok (.ireturn, 1) := by decide +kernel
theorem dX3_payFor_0 : decode cX3_payFor 0 = .ok (.aload_n 0, 1) := by decide +kernel
theorem dX3_payFor_1 : decode cX3_payFor 1 = .ok (.getfield 22, 3) := by decide +kernel
theorem dX3_payFor_4 : decode cX3_payFor 4 = .ok (.iload_n 1, 1) := by decide +kernel
theorem dX3_payFor_5 : decode cX3_payFor 5 = .ok (.iconst 4, 1) := by decide +kernel
theorem dX3_payFor_6 : decode cX3_payFor 6 = .ok (.imul, 1) := by decide +kernel
theorem dX3_payFor_7 : decode cX3_payFor 7 = .ok (.iload_n 2, 1) := by decide +kernel
theorem dX3_payFor_8 : decode cX3_payFor 8 = .ok (.iadd, 1) := by decide +kernel
theorem dX3_payFor_9 : decode cX3_payFor 9 = .ok (.iaload, 1) := by decide +kernel
theorem dX3_payFor_10 : decode cX3_payFor 10 = .ok (.ireturn, 1) := by decide +kernel
theorem dX3_setPay_0 : decode cX3_setPay 0 = .ok (.aload_n 0, 1) := by decide +kernel
theorem dX3_setPay_1 : decode cX3_setPay 1 = .ok (.getfield 22, 3) := by decide +kernel
theorem dX3_setPay_4 : decode cX3_setPay 4 = .ok (.iload_n 1, 1) := by decide +kernel
theorem dX3_setPay_5 : decode cX3_setPay 5 = .ok (.iconst 4, 1) := by decide +kernel
theorem dX3_setPay_6 : decode cX3_setPay 6 = .ok (.imul, 1) := by decide +kernel
theorem dX3_setPay_7 : decode cX3_setPay 7 = .ok (.iload_n 2, 1) := by decide +kernel
theorem dX3_setPay_8 : decode cX3_setPay 8 = .ok (.iadd, 1) := by decide +kernel
theorem dX3_setPay_9 : decode cX3_setPay 9 = .ok (.iload_n 3, 1) := by decide +kernel
theorem dX3_setPay_10 : decode cX3_setPay 10 = .ok (.iastore, 1) := by decide +kernel
theorem dX3_setPay_11 : decode cX3_setPay 11 = .ok (.return_, 1) := by decide +kernel
theorem dX3_changeWeight_0 : decode cX3_changeWeight 0 = .ok (.aload_n 0, 1) := by decide +kernel
theorem dX3_changeWeight_1 : decode cX3_changeWeight 1 = .ok (.getfield 26, 3) := by decide +kernel
theorem dX3_changeWeight_4 : decode cX3_changeWeight 4 = .ok (.iload_n 1, 1) := by decide +kernel
theorem dX3_changeWeight_5 : decode cX3_changeWeight 5 = .ok (.iaload, 1) := by decide +kernel
theorem dX3_changeWeight_6 : decode cX3_changeWeight 6 = .ok (.istore_n 3, 1) := by decide +kernel
theorem dX3_changeWeight_7 : decode cX3_changeWeight 7 = .ok (.aload_n 0, 1) := by decide +kernel
theorem dX3_changeWeight_8 : decode cX3_changeWeight 8 = .ok (.getfield 26, 3) := by decide +kernel
theorem dX3_changeWeight_11 : decode cX3_changeWeight 11 = .ok (.iload_n 1, 1) := by decide +kernel
theorem dX3_changeWeight_12 : decode cX3_changeWeight 12 = .ok (.iload_n 2, 1) := by decide +kernel
theorem dX3_changeWeight_13 : decode cX3_changeWeight 13 = .ok (.iastore, 1) := by decide +kernel
theorem dX3_changeWeight_14 : decode cX3_changeWeight 14 = .ok (.iload_n 3, 1) := by decide +kernel
theorem dX3_changeWeight_15 : decode cX3_changeWeight 15 = .ok (.ireturn, 1) := by decide +kernel
theorem dX3_trayMix_0 : decode cX3_trayMix 0 = .ok (.iconst 0, 1) := by decide +kernel
theorem dX3_trayMix_1 : decode cX3_trayMix 1 = .ok (.istore_n 2, 1) := by decide +kernel
theorem dX3_trayMix_2 : decode cX3_trayMix 2 = .ok (.iload_n 2, 1) := by decide +kernel
theorem dX3_trayMix_3 : decode cX3_trayMix 3 = .ok (.iconst 4, 1) := by decide +kernel
theorem dX3_trayMix_4 : decode cX3_trayMix 4 = .ok (.if_icmp .ge 37, 3) := by decide +kernel
theorem dX3_trayMix_7 : decode cX3_trayMix 7 = .ok (.aload_n 0, 1) := by decide +kernel
theorem dX3_trayMix_8 : decode cX3_trayMix 8 = .ok (.getfield 32, 3) := by decide +kernel
theorem dX3_trayMix_11 : decode cX3_trayMix 11 = .ok (.getfield 36, 3) := by decide +kernel
theorem dX3_trayMix_14 : decode cX3_trayMix 14 = .ok (.iload_n 2, 1) := by decide +kernel
theorem dX3_trayMix_15 : decode cX3_trayMix 15 = .ok (.iload_n 2, 1) := by decide +kernel
theorem dX3_trayMix_16 : decode cX3_trayMix 16 = .ok (.aload_n 0, 1) := by decide +kernel
theorem dX3_trayMix_17 : decode cX3_trayMix 17 = .ok (.getfield 9, 3) := by decide +kernel
theorem dX3_trayMix_20 : decode cX3_trayMix 20 = .ok (.if_icmp .ge 13, 3) := by decide +kernel
theorem dX3_trayMix_23 : decode cX3_trayMix 23 = .ok (.aload_n 0, 1) := by decide +kernel
theorem dX3_trayMix_24 : decode cX3_trayMix 24 = .ok (.getfield 26, 3) := by decide +kernel
theorem dX3_trayMix_27 : decode cX3_trayMix 27 = .ok (.iload_n 2, 1) := by decide +kernel
theorem dX3_trayMix_28 : decode cX3_trayMix 28 = .ok (.iaload, 1) := by decide +kernel
theorem dX3_trayMix_29 : decode cX3_trayMix 29 = .ok (.i2l, 1) := by decide +kernel
theorem dX3_trayMix_30 : decode cX3_trayMix 30 = .ok (.goto 4, 3) := by decide +kernel
theorem dX3_trayMix_33 : decode cX3_trayMix 33 = .ok (.lconst 0, 1) := by decide +kernel
theorem dX3_trayMix_34 : decode cX3_trayMix 34 = .ok (.lastore, 1) := by decide +kernel
theorem dX3_trayMix_35 : decode cX3_trayMix 35 = .ok (.iinc 2 1, 3) := by decide +kernel
theorem dX3_trayMix_38 : decode cX3_trayMix 38 = .ok (.goto (-36), 3) := by decide +kernel
theorem dX3_trayMix_41 : decode cX3_trayMix 41 = .ok (.aload_n 0, 1) := by decide +kernel
theorem dX3_trayMix_42 : decode cX3_trayMix 42 = .ok (.getfield 32, 3) := by decide +kernel
theorem dX3_trayMix_45 : decode cX3_trayMix 45 = .ok (.invokevirtual 40, 3) := by decide +kernel
theorem dX3_trayMix_48 : decode cX3_trayMix 48 = .ok (.aload_n 0, 1) := by decide +kernel
theorem dX3_trayMix_49 : decode cX3_trayMix 49 = .ok (.getfield 32, 3) := by decide +kernel
theorem dX3_trayMix_52 : decode cX3_trayMix 52 = .ok (.getfield 43, 3) := by decide +kernel
theorem dX3_trayMix_55 : decode cX3_trayMix 55 = .ok (.lconst 0, 1) := by decide +kernel
theorem dX3_trayMix_56 : decode cX3_trayMix 56 = .ok (.lcmp, 1) := by decide +kernel
theorem dX3_trayMix_57 : decode cX3_trayMix 57 = .ok (.ifCond .ne 5, 3) := by decide +kernel
theorem dX3_trayMix_60 : decode cX3_trayMix 60 = .ok (.aconst_null, 1) := by decide +kernel
theorem dX3_trayMix_61 : decode cX3_trayMix 61 = .ok (.areturn, 1) := by decide +kernel
theorem dX3_trayMix_62 : decode cX3_trayMix 62 = .ok (.aload_n 0, 1) := by decide +kernel
theorem dX3_trayMix_63 : decode cX3_trayMix 63 = .ok (.getfield 32, 3) := by decide +kernel
theorem dX3_trayMix_66 : decode cX3_trayMix 66 = .ok (.aload_n 1, 1) := by decide +kernel
theorem dX3_trayMix_67 : decode cX3_trayMix 67 = .ok (.aload_n 0, 1) := by decide +kernel
theorem dX3_trayMix_68 : decode cX3_trayMix 68 = .ok (.getfield 32, 3) := by decide +kernel
theorem dX3_trayMix_71 : decode cX3_trayMix 71 = .ok (.invokevirtual 47, 3) := by decide +kernel
theorem dX3_trayMix_74 : decode cX3_trayMix 74 = .ok (.putfield 51, 3) := by decide +kernel
theorem dX3_trayMix_77 : decode cX3_trayMix 77 = .ok (.aload_n 0, 1) := by decide +kernel
theorem dX3_trayMix_78 : decode cX3_trayMix 78 = .ok (.getfield 32, 3) := by decide +kernel
theorem dX3_trayMix_81 : decode cX3_trayMix 81 = .ok (.areturn, 1) := by decide +kernel
theorem dX3_worthOf_0 : decode cX3_worthOf 0 = .ok (.lconst 0, 1) := by decide +kernel
theorem dX3_worthOf_1 : decode cX3_worthOf 1 = .ok (.lstore_n 3, 1) := by decide +kernel
theorem dX3_worthOf_2 : decode cX3_worthOf 2 = .ok (.iconst 0, 1) := by decide +kernel
theorem dX3_worthOf_3 : decode cX3_worthOf 3 = .ok (.istore 5, 2) := by decide +kernel
theorem dX3_worthOf_5 : decode cX3_worthOf 5 = .ok (.iload 5, 2) := by decide +kernel
theorem dX3_worthOf_7 : decode cX3_worthOf 7 = .ok (.iconst 4, 1) := by decide +kernel
theorem dX3_worthOf_8 : decode cX3_worthOf 8 = .ok (.if_icmp .ge 28, 3) := by decide +kernel
theorem dX3_worthOf_11 : decode cX3_worthOf 11 = .ok (.lload_n 3, 1) := by decide +kernel
theorem dX3_worthOf_12 : decode cX3_worthOf 12 = .ok (.aload_n 2, 1) := by decide +kernel
theorem dX3_worthOf_13 : decode cX3_worthOf 13 = .ok (.getfield 36, 3) := by decide +kernel
theorem dX3_worthOf_16 : decode cX3_worthOf 16 = .ok (.iload 5, 2) := by decide +kernel
theorem dX3_worthOf_18 : decode cX3_worthOf 18 = .ok (.laload, 1) := by decide +kernel
theorem dX3_worthOf_19 : decode cX3_worthOf 19 = .ok (.aload_n 0, 1) := by decide +kernel
theorem dX3_worthOf_20 : decode cX3_worthOf 20 = .ok (.iload_n 1, 1) := by decide +kernel
theorem dX3_worthOf_21 : decode cX3_worthOf 21 = .ok (.iload 5, 2) := by decide +kernel
theorem dX3_worthOf_23 : decode cX3_worthOf 23 = .ok (.invokevirtual 54, 3) := by decide +kernel
theorem dX3_worthOf_26 : decode cX3_worthOf 26 = .ok (.i2l, 1) := by decide +kernel
theorem dX3_worthOf_27 : decode cX3_worthOf 27 = .ok (.lmul, 1) := by decide +kernel
theorem dX3_worthOf_28 : decode cX3_worthOf 28 = .ok (.ladd, 1) := by decide +kernel
theorem dX3_worthOf_29 : decode cX3_worthOf 29 = .ok (.lstore_n 3, 1) := by decide +kernel
theorem dX3_worthOf_30 : decode cX3_worthOf 30 = .ok (.iinc 5 1, 3) := by decide +kernel
theorem dX3_worthOf_33 : decode cX3_worthOf 33 = .ok (.goto (-28), 3) := by decide +kernel
theorem dX3_worthOf_36 : decode cX3_worthOf 36 = .ok (.lload_n 3, 1) := by decide +kernel
theorem dX3_worthOf_37 : decode cX3_worthOf 37 = .ok (.lreturn, 1) := by decide +kernel
theorem dX3_answersTo_0 : decode cX3_answersTo 0 = .ok (.aload_n 0, 1) := by decide +kernel
theorem dX3_answersTo_1 : decode cX3_answersTo 1 = .ok (.iconst 0, 1) := by decide +kernel
theorem dX3_answersTo_2 : decode cX3_answersTo 2 = .ok (.aload_n 1, 1) := by decide +kernel
theorem dX3_answersTo_3 : decode cX3_answersTo 3 = .ok (.invokevirtual 58, 3) := by decide +kernel
theorem dX3_answersTo_6 : decode cX3_answersTo 6 = .ok (.lstore_n 2, 1) := by decide +kernel
theorem dX3_answersTo_7 : decode cX3_answersTo 7 = .ok (.iconst 1, 1) := by decide +kernel
theorem dX3_answersTo_8 : decode cX3_answersTo 8 = .ok (.istore 4, 2) := by decide +kernel
theorem dX3_answersTo_10 : decode cX3_answersTo 10 = .ok (.iconst 1, 1) := by decide +kernel
theorem dX3_answersTo_11 : decode cX3_answersTo 11 = .ok (.istore 5, 2) := by decide +kernel
theorem dX3_answersTo_13 : decode cX3_answersTo 13 = .ok (.iload 5, 2) := by decide +kernel
theorem dX3_answersTo_15 : decode cX3_answersTo 15 = .ok (.aload_n 0, 1) := by decide +kernel
theorem dX3_answersTo_16 : decode cX3_answersTo 16 = .ok (.getfield 9, 3) := by decide +kernel
theorem dX3_answersTo_19 : decode cX3_answersTo 19 = .ok (.if_icmp .ge 47, 3) := by decide +kernel
theorem dX3_answersTo_22 : decode cX3_answersTo 22 = .ok (.aload_n 0, 1) := by decide +kernel
theorem dX3_answersTo_23 : decode cX3_answersTo 23 = .ok (.iload 5, 2) := by decide +kernel
theorem dX3_answersTo_25 : decode cX3_answersTo 25 = .ok (.aload_n 1, 1) := by decide +kernel
theorem dX3_answersTo_26 : decode cX3_answersTo 26 = .ok (.invokevirtual 58, 3) := by decide +kernel
theorem dX3_answersTo_29 : decode cX3_answersTo 29 = .ok (.lstore 6, 2) := by decide +kernel
theorem dX3_answersTo_31 : decode cX3_answersTo 31 = .ok (.lload 6, 2) := by decide +kernel
theorem dX3_answersTo_33 : decode cX3_answersTo 33 = .ok (.lload_n 2, 1) := by decide +kernel
theorem dX3_answersTo_34 : decode cX3_answersTo 34 = .ok (.lcmp, 1) := by decide +kernel
theorem dX3_answersTo_35 : decode cX3_answersTo 35 = .ok (.ifCond .le 9, 3) := by decide +kernel
theorem dX3_answersTo_38 : decode cX3_answersTo 38 = .ok (.lload 6, 2) := by decide +kernel
theorem dX3_answersTo_40 : decode cX3_answersTo 40 = .ok (.lstore_n 2, 1) := by decide +kernel
theorem dX3_answersTo_41 : decode cX3_answersTo 41 = .ok (.iconst 0, 1) := by decide +kernel
theorem dX3_answersTo_42 : decode cX3_answersTo 42 = .ok (.istore 4, 2) := by decide +kernel
theorem dX3_answersTo_44 : decode cX3_answersTo 44 = .ok (.lload 6, 2) := by decide +kernel
theorem dX3_answersTo_46 : decode cX3_answersTo 46 = .ok (.lload_n 2, 1) := by decide +kernel
theorem dX3_answersTo_47 : decode cX3_answersTo 47 = .ok (.lcmp, 1) := by decide +kernel
theorem dX3_answersTo_48 : decode cX3_answersTo 48 = .ok (.ifCond .ne 12, 3) := by decide +kernel
theorem dX3_answersTo_51 : decode cX3_answersTo 51 = .ok (.iload 4, 2) := by decide +kernel
theorem dX3_answersTo_53 : decode cX3_answersTo 53 = .ok (.iconst 1, 1) := by decide +kernel
theorem dX3_answersTo_54 : decode cX3_answersTo 54 = .ok (.iload 5, 2) := by decide +kernel
theorem dX3_answersTo_56 : decode cX3_answersTo 56 = .ok (.ishl, 1) := by decide +kernel
theorem dX3_answersTo_57 : decode cX3_answersTo 57 = .ok (.ior, 1) := by decide +kernel
theorem dX3_answersTo_58 : decode cX3_answersTo 58 = .ok (.istore 4, 2) := by decide +kernel
theorem dX3_answersTo_60 : decode cX3_answersTo 60 = .ok (.iinc 5 1, 3) := by decide +kernel
theorem dX3_answersTo_63 : decode cX3_answersTo 63 = .ok (.goto (-50), 3) := by decide +kernel
theorem dX3_answersTo_66 : decode cX3_answersTo 66 = .ok (.iload 4, 2) := by decide +kernel
theorem dX3_answersTo_68 : decode cX3_answersTo 68 = .ok (.ireturn, 1) := by decide +kernel
theorem dX3_meanPart_0 : decode cX3_meanPart 0 = .ok (.lconst 0, 1) := by decide +kernel
theorem dX3_meanPart_1 : decode cX3_meanPart 1 = .ok (.lstore 4, 2) := by decide +kernel
theorem dX3_meanPart_3 : decode cX3_meanPart 3 = .ok (.iconst 0, 1) := by decide +kernel
theorem dX3_meanPart_4 : decode cX3_meanPart 4 = .ok (.istore 6, 2) := by decide +kernel
theorem dX3_meanPart_6 : decode cX3_meanPart 6 = .ok (.iload 6, 2) := by decide +kernel
theorem dX3_meanPart_8 : decode cX3_meanPart 8 = .ok (.aload_n 0, 1) := by decide +kernel
theorem dX3_meanPart_9 : decode cX3_meanPart 9 = .ok (.getfield 9, 3) := by decide +kernel
theorem dX3_meanPart_12 : decode cX3_meanPart 12 = .ok (.if_icmp .ge 29, 3) := by decide +kernel
theorem dX3_meanPart_15 : decode cX3_meanPart 15 = .ok (.lload 4, 2) := by decide +kernel
theorem dX3_meanPart_17 : decode cX3_meanPart 17 = .ok (.aload_n 1, 1) := by decide +kernel
theorem dX3_meanPart_18 : decode cX3_meanPart 18 = .ok (.getfield 36, 3) := by decide +kernel
theorem dX3_meanPart_21 : decode cX3_meanPart 21 = .ok (.iload 6, 2) := by decide +kernel
theorem dX3_meanPart_23 : decode cX3_meanPart 23 = .ok (.laload, 1) := by decide +kernel
theorem dX3_meanPart_24 : decode cX3_meanPart 24 = .ok (.aload_n 0, 1) := by decide +kernel
theorem dX3_meanPart_25 : decode cX3_meanPart 25 = .ok (.iload 6, 2) := by decide +kernel
theorem dX3_meanPart_27 : decode cX3_meanPart 27 = .ok (.aload_n 2, 1) := by decide +kernel
theorem dX3_meanPart_28 : decode cX3_meanPart 28 = .ok (.invokevirtual 58, 3) := by decide +kernel
theorem dX3_meanPart_31 : decode cX3_meanPart 31 = .ok (.lmul, 1) := by decide +kernel
theorem dX3_meanPart_32 : decode cX3_meanPart 32 = .ok (.ladd, 1) := by decide +kernel
theorem dX3_meanPart_33 : decode cX3_meanPart 33 = .ok (.lstore 4, 2) := by decide +kernel
theorem dX3_meanPart_35 : decode cX3_meanPart 35 = .ok (.iinc 6 1, 3) := by decide +kernel
theorem dX3_meanPart_38 : decode cX3_meanPart 38 = .ok (.goto (-32), 3) := by decide +kernel
theorem dX3_meanPart_41 : decode cX3_meanPart 41 = .ok (.lload 4, 2) := by decide +kernel
theorem dX3_meanPart_43 : decode cX3_meanPart 43 = .ok (.aload_n 1, 1) := by decide +kernel
theorem dX3_meanPart_44 : decode cX3_meanPart 44 = .ok (.getfield 43, 3) := by decide +kernel
theorem dX3_meanPart_47 : decode cX3_meanPart 47 = .ok (.aload_n 2, 1) := by decide +kernel
theorem dX3_meanPart_48 : decode cX3_meanPart 48 = .ok (.getfield 43, 3) := by decide +kernel
theorem dX3_meanPart_51 : decode cX3_meanPart 51 = .ok (.lmul, 1) := by decide +kernel
theorem dX3_meanPart_52 : decode cX3_meanPart 52 = .ok (.iload_n 3, 1) := by decide +kernel
theorem dX3_meanPart_53 : decode cX3_meanPart 53 = .ok (.invokestatic 62, 3) := by decide +kernel
theorem dX3_meanPart_56 : decode cX3_meanPart 56 = .ok (.lreturn, 1) := by decide +kernel
theorem dX3_paysMore_0 : decode cX3_paysMore 0 = .ok (.iconst 0, 1) := by decide +kernel
theorem dX3_paysMore_1 : decode cX3_paysMore 1 = .ok (.istore 4, 2) := by decide +kernel
theorem dX3_paysMore_3 : decode cX3_paysMore 3 = .ok (.iload 4, 2) := by decide +kernel
theorem dX3_paysMore_5 : decode cX3_paysMore 5 = .ok (.iconst 4, 1) := by decide +kernel
theorem dX3_paysMore_6 : decode cX3_paysMore 6 = .ok (.if_icmp .ge 37, 3) := by decide +kernel
theorem dX3_paysMore_9 : decode cX3_paysMore 9 = .ok (.iload_n 3, 1) := by decide +kernel
theorem dX3_paysMore_10 : decode cX3_paysMore 10 = .ok (.iload 4, 2) := by decide +kernel
theorem dX3_paysMore_12 : decode cX3_paysMore 12 = .ok (.invokestatic 66, 3) := by decide +kernel
theorem dX3_paysMore_15 : decode cX3_paysMore 15 = .ok (.ifCond .eq 22, 3) := by decide +kernel
theorem dX3_paysMore_18 : decode cX3_paysMore 18 = .ok (.aload_n 0, 1) := by decide +kernel
theorem dX3_paysMore_19 : decode cX3_paysMore 19 = .ok (.iload_n 1, 1) := by decide +kernel
theorem dX3_paysMore_20 : decode cX3_paysMore 20 = .ok (.iload 4, 2) := by decide +kernel
theorem dX3_paysMore_22 : decode cX3_paysMore 22 = .ok (.invokevirtual 54, 3) := by decide +kernel
theorem dX3_paysMore_25 : decode cX3_paysMore 25 = .ok (.aload_n 0, 1) := by decide +kernel
theorem dX3_paysMore_26 : decode cX3_paysMore 26 = .ok (.iload_n 2, 1) := by decide +kernel
theorem dX3_paysMore_27 : decode cX3_paysMore 27 = .ok (.iload 4, 2) := by decide +kernel
theorem dX3_paysMore_29 : decode cX3_paysMore 29 = .ok (.invokevirtual 54, 3) := by decide +kernel
theorem dX3_paysMore_32 : decode cX3_paysMore 32 = .ok (.if_icmp .gt 5, 3) := by decide +kernel
theorem dX3_paysMore_35 : decode cX3_paysMore 35 = .ok (.iconst 0, 1) := by decide +kernel
theorem dX3_paysMore_36 : decode cX3_paysMore 36 = .ok (.ireturn, 1) := by decide +kernel
theorem dX3_paysMore_37 : decode cX3_paysMore 37 = .ok (.iinc 4 1, 3) := by decide +kernel
theorem dX3_paysMore_40 : decode cX3_paysMore 40 = .ok (.goto (-37), 3) := by decide +kernel
theorem dX3_paysMore_43 : decode cX3_paysMore 43 = .ok (.iconst 1, 1) := by decide +kernel
theorem dX3_paysMore_44 : decode cX3_paysMore 44 = .ok (.ireturn, 1) := by decide +kernel
theorem dX3_firstBetter_0 : decode cX3_firstBetter 0 = .ok (.iconst 0, 1) := by decide +kernel
theorem dX3_firstBetter_1 : decode cX3_firstBetter 1 = .ok (.istore 4, 2) := by decide +kernel
theorem dX3_firstBetter_3 : decode cX3_firstBetter 3 = .ok (.iload 4, 2) := by decide +kernel
theorem dX3_firstBetter_5 : decode cX3_firstBetter 5 = .ok (.iconst 4, 1) := by decide +kernel
theorem dX3_firstBetter_6 : decode cX3_firstBetter 6 = .ok (.if_icmp .ge 32, 3) := by decide +kernel
theorem dX3_firstBetter_9 : decode cX3_firstBetter 9 = .ok (.iload_n 2, 1) := by decide +kernel
theorem dX3_firstBetter_10 : decode cX3_firstBetter 10 = .ok (.iload 4, 2) := by decide +kernel
theorem dX3_firstBetter_12 : decode cX3_firstBetter 12 = .ok (.invokestatic 66, 3) := by decide +kernel
theorem dX3_firstBetter_15 : decode cX3_firstBetter 15 = .ok (.ifCond .eq 17, 3) := by decide +kernel
theorem dX3_firstBetter_18 : decode cX3_firstBetter 18 = .ok (.aload_n 0, 1) := by decide +kernel
theorem dX3_firstBetter_19 : decode cX3_firstBetter 19 = .ok (.iload 4, 2) := by decide +kernel
theorem dX3_firstBetter_21 : decode cX3_firstBetter 21 = .ok (.iload_n 1, 1) := by decide +kernel
theorem dX3_firstBetter_22 : decode cX3_firstBetter 22 = .ok (.iload_n 3, 1) := by decide +kernel
theorem dX3_firstBetter_23 : decode cX3_firstBetter 23 = .ok (.invokevirtual 70, 3) := by decide +kernel
theorem dX3_firstBetter_26 : decode cX3_firstBetter 26 = .ok (.ifCond .eq 6, 3) := by decide +kernel
theorem dX3_firstBetter_29 : decode cX3_firstBetter 29 = .ok (.iload 4, 2) := by decide +kernel
theorem dX3_firstBetter_31 : decode cX3_firstBetter 31 = .ok (.ireturn, 1) := by decide +kernel
theorem dX3_firstBetter_32 : decode cX3_firstBetter 32 = .ok (.iinc 4 1, 3) := by decide +kernel
theorem dX3_firstBetter_35 : decode cX3_firstBetter 35 = .ok (.goto (-32), 3) := by decide +kernel
theorem dX3_firstBetter_38 : decode cX3_firstBetter 38 = .ok (.bipush (-9), 2) := by decide +kernel
theorem dX3_firstBetter_40 : decode cX3_firstBetter 40 = .ok (.ireturn, 1) := by decide +kernel
theorem dX3_notWorse_0 : decode cX3_notWorse 0 = .ok (.iconst 0, 1) := by decide +kernel
theorem dX3_notWorse_1 : decode cX3_notWorse 1 = .ok (.istore_n 3, 1) := by decide +kernel
theorem dX3_notWorse_2 : decode cX3_notWorse 2 = .ok (.iconst 0, 1) := by decide +kernel
theorem dX3_notWorse_3 : decode cX3_notWorse 3 = .ok (.istore 4, 2) := by decide +kernel
theorem dX3_notWorse_5 : decode cX3_notWorse 5 = .ok (.iload 4, 2) := by decide +kernel
theorem dX3_notWorse_7 : decode cX3_notWorse 7 = .ok (.iconst 4, 1) := by decide +kernel
theorem dX3_notWorse_8 : decode cX3_notWorse 8 = .ok (.if_icmp .ge 38, 3) := by decide +kernel
theorem dX3_notWorse_11 : decode cX3_notWorse 11 = .ok (.iload_n 1, 1) := by decide +kernel
theorem dX3_notWorse_12 : decode cX3_notWorse 12 = .ok (.iload 4, 2) := by decide +kernel
theorem dX3_notWorse_14 : decode cX3_notWorse 14 = .ok (.invokestatic 66, 3) := by decide +kernel
theorem dX3_notWorse_17 : decode cX3_notWorse 17 = .ok (.ifCond .eq 23, 3) := by decide +kernel
theorem dX3_notWorse_20 : decode cX3_notWorse 20 = .ok (.aload_n 0, 1) := by decide +kernel
theorem dX3_notWorse_21 : decode cX3_notWorse 21 = .ok (.iload 4, 2) := by decide +kernel
theorem dX3_notWorse_23 : decode cX3_notWorse 23 = .ok (.iload_n 1, 1) := by decide +kernel
theorem dX3_notWorse_24 : decode cX3_notWorse 24 = .ok (.iload_n 2, 1) := by decide +kernel
theorem dX3_notWorse_25 : decode cX3_notWorse 25 = .ok (.invokevirtual 74, 3) := by decide +kernel
theorem dX3_notWorse_28 : decode cX3_notWorse 28 = .ok (.bipush (-9), 2) := by decide +kernel
theorem dX3_notWorse_30 : decode cX3_notWorse 30 = .ok (.if_icmp .ne 10, 3) := by decide +kernel
theorem dX3_notWorse_33 : decode cX3_notWorse 33 = .ok (.iload_n 3, 1) := by decide +kernel
theorem dX3_notWorse_34 : decode cX3_notWorse 34 = .ok (.iconst 1, 1) := by decide +kernel
theorem dX3_notWorse_35 : decode cX3_notWorse 35 = .ok (.iload 4, 2) := by decide +kernel
theorem dX3_notWorse_37 : decode cX3_notWorse 37 = .ok (.ishl, 1) := by decide +kernel
theorem dX3_notWorse_38 : decode cX3_notWorse 38 = .ok (.ior, 1) := by decide +kernel
theorem dX3_notWorse_39 : decode cX3_notWorse 39 = .ok (.istore_n 3, 1) := by decide +kernel
theorem dX3_notWorse_40 : decode cX3_notWorse 40 = .ok (.iinc 4 1, 3) := by decide +kernel
theorem dX3_notWorse_43 : decode cX3_notWorse 43 = .ok (.goto (-38), 3) := by decide +kernel
theorem dX3_notWorse_46 : decode cX3_notWorse 46 = .ok (.iload_n 3, 1) := by decide +kernel
theorem dX3_notWorse_47 : decode cX3_notWorse 47 = .ok (.ireturn, 1) := by decide +kernel
theorem dX3_leastFor_0 : decode cX3_leastFor 0 = .ok (.aload_n 0, 1) := by decide +kernel
theorem dX3_leastFor_1 : decode cX3_leastFor 1 = .ok (.iload_n 1, 1) := by decide +kernel
theorem dX3_leastFor_2 : decode cX3_leastFor 2 = .ok (.iconst 0, 1) := by decide +kernel
theorem dX3_leastFor_3 : decode cX3_leastFor 3 = .ok (.invokevirtual 54, 3) := by decide +kernel
theorem dX3_leastFor_6 : decode cX3_leastFor 6 = .ok (.istore_n 3, 1) := by decide +kernel
theorem dX3_leastFor_7 : decode cX3_leastFor 7 = .ok (.iconst 1, 1) := by decide +kernel
theorem dX3_leastFor_8 : decode cX3_leastFor 8 = .ok (.istore 4, 2) := by decide +kernel
theorem dX3_leastFor_10 : decode cX3_leastFor 10 = .ok (.iload 4, 2) := by decide +kernel
theorem dX3_leastFor_12 : decode cX3_leastFor 12 = .ok (.iload_n 2, 1) := by decide +kernel
theorem dX3_leastFor_13 : decode cX3_leastFor 13 = .ok (.if_icmp .ge 21, 3) := by decide +kernel
theorem dX3_leastFor_16 : decode cX3_leastFor 16 = .ok (.iload_n 3, 1) := by decide +kernel
theorem dX3_leastFor_17 : decode cX3_leastFor 17 = .ok (.aload_n 0, 1) := by decide +kernel
theorem dX3_leastFor_18 : decode cX3_leastFor 18 = .ok (.iload_n 1, 1) := by decide +kernel
theorem dX3_leastFor_19 : decode cX3_leastFor 19 = .ok (.iload 4, 2) := by decide +kernel
theorem dX3_leastFor_21 : decode cX3_leastFor 21 = .ok (.invokevirtual 54, 3) := by decide +kernel
theorem dX3_leastFor_24 : decode cX3_leastFor 24 = .ok (.invokestatic 78, 3) := by decide +kernel
theorem dX3_leastFor_27 : decode cX3_leastFor 27 = .ok (.istore_n 3, 1) := by decide +kernel
theorem dX3_leastFor_28 : decode cX3_leastFor 28 = .ok (.iinc 4 1, 3) := by decide +kernel
theorem dX3_leastFor_31 : decode cX3_leastFor 31 = .ok (.goto (-21), 3) := by decide +kernel
theorem dX3_leastFor_34 : decode cX3_leastFor 34 = .ok (.iload_n 3, 1) := by decide +kernel
theorem dX3_leastFor_35 : decode cX3_leastFor 35 = .ok (.ireturn, 1) := by decide +kernel
theorem dX3_leastAgainst_0 : decode cX3_leastAgainst 0 = .ok (.aload_n 0, 1) := by decide +kernel
theorem dX3_leastAgainst_1 : decode cX3_leastAgainst 1 = .ok (.iconst 0, 1) := by decide +kernel
theorem dX3_leastAgainst_2 : decode cX3_leastAgainst 2 = .ok (.iload_n 1, 1) := by decide +kernel
theorem dX3_leastAgainst_3 : decode cX3_leastAgainst 3 = .ok (.invokevirtual 54, 3) := by decide +kernel
theorem dX3_leastAgainst_6 : decode cX3_leastAgainst 6 = .ok (.istore_n 2, 1) := by decide +kernel
theorem dX3_leastAgainst_7 : decode cX3_leastAgainst 7 = .ok (.iconst 1, 1) := by decide +kernel
theorem dX3_leastAgainst_8 : decode cX3_leastAgainst 8 = .ok (.istore_n 3, 1) := by decide +kernel
theorem dX3_leastAgainst_9 : decode cX3_leastAgainst 9 = .ok (.iload_n 3, 1) := by decide +kernel
theorem dX3_leastAgainst_10 : decode cX3_leastAgainst 10 = .ok (.aload_n 0, 1) := by decide +kernel
theorem dX3_leastAgainst_11 : decode cX3_leastAgainst 11 = .ok (.getfield 9, 3) := by decide +kernel
theorem dX3_leastAgainst_14 : decode cX3_leastAgainst 14 = .ok (.if_icmp .ge 20, 3) := by decide +kernel
theorem dX3_leastAgainst_17 : decode cX3_leastAgainst 17 = .ok (.iload_n 2, 1) := by decide +kernel
theorem dX3_leastAgainst_18 : decode cX3_leastAgainst 18 = .ok (.aload_n 0, 1) := by decide +kernel
theorem dX3_leastAgainst_19 : decode cX3_leastAgainst 19 = .ok (.iload_n 3, 1) := by decide +kernel
theorem dX3_leastAgainst_20 : decode cX3_leastAgainst 20 = .ok (.iload_n 1, 1) := by decide +kernel
theorem dX3_leastAgainst_21 : decode cX3_leastAgainst 21 = .ok (.invokevirtual 54, 3) := by decide +kernel
theorem dX3_leastAgainst_24 : decode cX3_leastAgainst 24 = .ok (.invokestatic 78, 3) := by decide +kernel
theorem dX3_leastAgainst_27 : decode cX3_leastAgainst 27 = .ok (.istore_n 2, 1) := by decide +kernel
theorem dX3_leastAgainst_28 : decode cX3_leastAgainst 28 = .ok (.iinc 3 1, 3) := by decide +kernel
theorem dX3_leastAgainst_31 : decode cX3_leastAgainst 31 = .ok (.goto (-22), 3) := by decide +kernel
theorem dX3_leastAgainst_34 : decode cX3_leastAgainst 34 = .ok (.iload_n 2, 1) := by decide +kernel
theorem dX3_leastAgainst_35 : decode cX3_leastAgainst 35 = .ok (.ireturn, 1) := by decide +kernel
theorem dX3_mostAgainst_0 : decode cX3_mostAgainst 0 = .ok (.aload_n 0, 1) := by decide +kernel
theorem dX3_mostAgainst_1 : decode cX3_mostAgainst 1 = .ok (.iconst 0, 1) := by decide +kernel
theorem dX3_mostAgainst_2 : decode cX3_mostAgainst 2 = .ok (.iload_n 1, 1) := by decide +kernel
theorem dX3_mostAgainst_3 : decode cX3_mostAgainst 3 = .ok (.invokevirtual 54, 3) := by decide +kernel
theorem dX3_mostAgainst_6 : decode cX3_mostAgainst 6 = .ok (.istore_n 2, 1) := by decide +kernel
theorem dX3_mostAgainst_7 : decode cX3_mostAgainst 7 = .ok (.iconst 1, 1) := by decide +kernel
theorem dX3_mostAgainst_8 : decode cX3_mostAgainst 8 = .ok (.istore_n 3, 1) := by decide +kernel
theorem dX3_mostAgainst_9 : decode cX3_mostAgainst 9 = .ok (.iload_n 3, 1) := by decide +kernel
theorem dX3_mostAgainst_10 : decode cX3_mostAgainst 10 = .ok (.aload_n 0, 1) := by decide +kernel
theorem dX3_mostAgainst_11 : decode cX3_mostAgainst 11 = .ok (.getfield 9, 3) := by decide +kernel
theorem dX3_mostAgainst_14 : decode cX3_mostAgainst 14 = .ok (.if_icmp .ge 20, 3) := by decide +kernel
theorem dX3_mostAgainst_17 : decode cX3_mostAgainst 17 = .ok (.iload_n 2, 1) := by decide +kernel
theorem dX3_mostAgainst_18 : decode cX3_mostAgainst 18 = .ok (.aload_n 0, 1) := by decide +kernel
theorem dX3_mostAgainst_19 : decode cX3_mostAgainst 19 = .ok (.iload_n 3, 1) := by decide +kernel
theorem dX3_mostAgainst_20 : decode cX3_mostAgainst 20 = .ok (.iload_n 1, 1) := by decide +kernel
theorem dX3_mostAgainst_21 : decode cX3_mostAgainst 21 = .ok (.invokevirtual 54, 3) := by decide +kernel
theorem dX3_mostAgainst_24 : decode cX3_mostAgainst 24 = .ok (.invokestatic 83, 3) := by decide +kernel
theorem dX3_mostAgainst_27 : decode cX3_mostAgainst 27 = .ok (.istore_n 2, 1) := by decide +kernel
theorem dX3_mostAgainst_28 : decode cX3_mostAgainst 28 = .ok (.iinc 3 1, 3) := by decide +kernel
theorem dX3_mostAgainst_31 : decode cX3_mostAgainst 31 = .ok (.goto (-22), 3) := by decide +kernel
theorem dX3_mostAgainst_34 : decode cX3_mostAgainst 34 = .ok (.iload_n 2, 1) := by decide +kernel
theorem dX3_mostAgainst_35 : decode cX3_mostAgainst 35 = .ok (.ireturn, 1) := by decide +kernel
theorem dX3_surePay_0 : decode cX3_surePay 0 = .ok (.aload_n 0, 1) := by decide +kernel
theorem dX3_surePay_1 : decode cX3_surePay 1 = .ok (.iconst 0, 1) := by decide +kernel
theorem dX3_surePay_2 : decode cX3_surePay 2 = .ok (.iload_n 1, 1) := by decide +kernel
theorem dX3_surePay_3 : decode cX3_surePay 3 = .ok (.invokevirtual 86, 3) := by decide +kernel
theorem dX3_surePay_6 : decode cX3_surePay 6 = .ok (.istore_n 2, 1) := by decide +kernel
theorem dX3_surePay_7 : decode cX3_surePay 7 = .ok (.iconst 1, 1) := by decide +kernel
theorem dX3_surePay_8 : decode cX3_surePay 8 = .ok (.istore_n 3, 1) := by decide +kernel
theorem dX3_surePay_9 : decode cX3_surePay 9 = .ok (.iload_n 3, 1) := by decide +kernel
theorem dX3_surePay_10 : decode cX3_surePay 10 = .ok (.aload_n 0, 1) := by decide +kernel
theorem dX3_surePay_11 : decode cX3_surePay 11 = .ok (.getfield 9, 3) := by decide +kernel
theorem dX3_surePay_14 : decode cX3_surePay 14 = .ok (.if_icmp .ge 20, 3) := by decide +kernel
theorem dX3_surePay_17 : decode cX3_surePay 17 = .ok (.iload_n 2, 1) := by decide +kernel
theorem dX3_surePay_18 : decode cX3_surePay 18 = .ok (.aload_n 0, 1) := by decide +kernel
theorem dX3_surePay_19 : decode cX3_surePay 19 = .ok (.iload_n 3, 1) := by decide +kernel
theorem dX3_surePay_20 : decode cX3_surePay 20 = .ok (.iload_n 1, 1) := by decide +kernel
theorem dX3_surePay_21 : decode cX3_surePay 21 = .ok (.invokevirtual 86, 3) := by decide +kernel
theorem dX3_surePay_24 : decode cX3_surePay 24 = .ok (.invokestatic 83, 3) := by decide +kernel
theorem dX3_surePay_27 : decode cX3_surePay 27 = .ok (.istore_n 2, 1) := by decide +kernel
theorem dX3_surePay_28 : decode cX3_surePay 28 = .ok (.iinc 3 1, 3) := by decide +kernel
theorem dX3_surePay_31 : decode cX3_surePay 31 = .ok (.goto (-22), 3) := by decide +kernel
theorem dX3_surePay_34 : decode cX3_surePay 34 = .ok (.iload_n 2, 1) := by decide +kernel
theorem dX3_surePay_35 : decode cX3_surePay 35 = .ok (.ireturn, 1) := by decide +kernel
theorem dX3_holdPay_0 : decode cX3_holdPay 0 = .ok (.aload_n 0, 1) := by decide +kernel
theorem dX3_holdPay_1 : decode cX3_holdPay 1 = .ok (.iconst 0, 1) := by decide +kernel
theorem dX3_holdPay_2 : decode cX3_holdPay 2 = .ok (.invokevirtual 89, 3) := by decide +kernel
theorem dX3_holdPay_5 : decode cX3_holdPay 5 = .ok (.istore_n 2, 1) := by decide +kernel
theorem dX3_holdPay_6 : decode cX3_holdPay 6 = .ok (.iconst 1, 1) := by decide +kernel
theorem dX3_holdPay_7 : decode cX3_holdPay 7 = .ok (.istore_n 3, 1) := by decide +kernel
theorem dX3_holdPay_8 : decode cX3_holdPay 8 = .ok (.iload_n 3, 1) := by decide +kernel
theorem dX3_holdPay_9 : decode cX3_holdPay 9 = .ok (.iload_n 1, 1) := by decide +kernel
theorem dX3_holdPay_10 : decode cX3_holdPay 10 = .ok (.if_icmp .ge 19, 3) := by decide +kernel
theorem dX3_holdPay_13 : decode cX3_holdPay 13 = .ok (.iload_n 2, 1) := by decide +kernel
theorem dX3_holdPay_14 : decode cX3_holdPay 14 = .ok (.aload_n 0, 1) := by decide +kernel
theorem dX3_holdPay_15 : decode cX3_holdPay 15 = .ok (.iload_n 3, 1) := by decide +kernel
theorem dX3_holdPay_16 : decode cX3_holdPay 16 = .ok (.invokevirtual 89, 3) := by decide +kernel
theorem dX3_holdPay_19 : decode cX3_holdPay 19 = .ok (.invokestatic 78, 3) := by decide +kernel
theorem dX3_holdPay_22 : decode cX3_holdPay 22 = .ok (.istore_n 2, 1) := by decide +kernel
theorem dX3_holdPay_23 : decode cX3_holdPay 23 = .ok (.iinc 3 1, 3) := by decide +kernel
theorem dX3_holdPay_26 : decode cX3_holdPay 26 = .ok (.goto (-18), 3) := by decide +kernel
theorem dX3_holdPay_29 : decode cX3_holdPay 29 = .ok (.iload_n 2, 1) := by decide +kernel
theorem dX3_holdPay_30 : decode cX3_holdPay 30 = .ok (.ireturn, 1) := by decide +kernel
theorem dX3_farthestPay_0 : decode cX3_farthestPay 0 = .ok (.iconst 0, 1) := by decide +kernel
theorem dX3_farthestPay_1 : decode cX3_farthestPay 1 = .ok (.istore_n 1, 1) := by decide +kernel
theorem dX3_farthestPay_2 : decode cX3_farthestPay 2 = .ok (.iconst 0, 1) := by decide +kernel
theorem dX3_farthestPay_3 : decode cX3_farthestPay 3 = .ok (.istore_n 2, 1) := by decide +kernel
theorem dX3_farthestPay_4 : decode cX3_farthestPay 4 = .ok (.iload_n 2, 1) := by decide +kernel
theorem dX3_farthestPay_5 : decode cX3_farthestPay 5 = .ok (.aload_n 0, 1) := by decide +kernel
theorem dX3_farthestPay_6 : decode cX3_farthestPay 6 = .ok (.getfield 22, 3) := by decide +kernel
theorem dX3_farthestPay_9 : decode cX3_farthestPay 9 = .ok (.arraylength, 1) := by decide +kernel
theorem dX3_farthestPay_10 : decode cX3_farthestPay 10 = .ok (.if_icmp .ge 23, 3) := by decide +kernel
theorem dX3_farthestPay_13 : decode cX3_farthestPay 13 = .ok (.iload_n 1, 1) := by decide +kernel
theorem dX3_farthestPay_14 : decode cX3_farthestPay 14 = .ok (.aload_n 0, 1) := by decide +kernel
theorem dX3_farthestPay_15 : decode cX3_farthestPay 15 = .ok (.getfield 22, 3) := by decide +kernel
theorem dX3_farthestPay_18 : decode cX3_farthestPay 18 = .ok (.iload_n 2, 1) := by decide +kernel
theorem dX3_farthestPay_19 : decode cX3_farthestPay 19 = .ok (.iaload, 1) := by decide +kernel
theorem dX3_farthestPay_20 : decode cX3_farthestPay 20 = .ok (.invokestatic 93, 3) := by decide +kernel
theorem dX3_farthestPay_23 : decode cX3_farthestPay 23 = .ok (.invokestatic 83, 3) := by decide +kernel
theorem dX3_farthestPay_26 : decode cX3_farthestPay 26 = .ok (.istore_n 1, 1) := by decide +kernel
theorem dX3_farthestPay_27 : decode cX3_farthestPay 27 = .ok (.iinc 2 1, 3) := by decide +kernel
theorem dX3_farthestPay_30 : decode cX3_farthestPay 30 = .ok (.goto (-26), 3) := by decide +kernel
theorem dX3_farthestPay_33 : decode cX3_farthestPay 33 = .ok (.iload_n 1, 1) := by decide +kernel
theorem dX3_farthestPay_34 : decode cX3_farthestPay 34 = .ok (.ireturn, 1) := by decide +kernel
theorem dX3_addAgainst_0 : decode cX3_addAgainst 0 = .ok (.iconst 0, 1) := by decide +kernel
theorem dX3_addAgainst_1 : decode cX3_addAgainst 1 = .ok (.istore_n 3, 1) := by decide +kernel
theorem dX3_addAgainst_2 : decode cX3_addAgainst 2 = .ok (.iload_n 3, 1) := by decide +kernel
theorem dX3_addAgainst_3 : decode cX3_addAgainst 3 = .ok (.aload_n 0, 1) := by decide +kernel
theorem dX3_addAgainst_4 : decode cX3_addAgainst 4 = .ok (.getfield 9, 3) := by decide +kernel
theorem dX3_addAgainst_7 : decode cX3_addAgainst 7 = .ok (.if_icmp .ge 23, 3) := by decide +kernel
theorem dX3_addAgainst_10 : decode cX3_addAgainst 10 = .ok (.aload_n 0, 1) := by decide +kernel
theorem dX3_addAgainst_11 : decode cX3_addAgainst 11 = .ok (.iload_n 3, 1) := by decide +kernel
theorem dX3_addAgainst_12 : decode cX3_addAgainst 12 = .ok (.iload_n 1, 1) := by decide +kernel
theorem dX3_addAgainst_13 : decode cX3_addAgainst 13 = .ok (.aload_n 0, 1) := by decide +kernel
theorem dX3_addAgainst_14 : decode cX3_addAgainst 14 = .ok (.iload_n 3, 1) := by decide +kernel
theorem dX3_addAgainst_15 : decode cX3_addAgainst 15 = .ok (.iload_n 1, 1) := by decide +kernel
theorem dX3_addAgainst_16 : decode cX3_addAgainst 16 = .ok (.invokevirtual 54, 3) := by decide +kernel
theorem dX3_addAgainst_19 : decode cX3_addAgainst 19 = .ok (.iload_n 2, 1) := by decide +kernel
theorem dX3_addAgainst_20 : decode cX3_addAgainst 20 = .ok (.iadd, 1) := by decide +kernel
theorem dX3_addAgainst_21 : decode cX3_addAgainst 21 = .ok (.invokevirtual 96, 3) := by decide +kernel
theorem dX3_addAgainst_24 : decode cX3_addAgainst 24 = .ok (.iinc 3 1, 3) := by decide +kernel
theorem dX3_addAgainst_27 : decode cX3_addAgainst 27 = .ok (.goto (-25), 3) := by decide +kernel
theorem dX3_addAgainst_30 : decode cX3_addAgainst 30 = .ok (.return_, 1) := by decide +kernel
theorem dX3_multiplyPays_0 : decode cX3_multiplyPays 0 = .ok (.iconst 0, 1) := by decide +kernel
theorem dX3_multiplyPays_1 : decode cX3_multiplyPays 1 = .ok (.istore_n 2, 1) := by decide +kernel
theorem dX3_multiplyPays_2 : decode cX3_multiplyPays 2 = .ok (.iload_n 2, 1) := by decide +kernel
theorem dX3_multiplyPays_3 : decode cX3_multiplyPays 3 = .ok (.aload_n 0, 1) := by decide +kernel
theorem dX3_multiplyPays_4 : decode cX3_multiplyPays 4 = .ok (.getfield 22, 3) := by decide +kernel
theorem dX3_multiplyPays_7 : decode cX3_multiplyPays 7 = .ok (.arraylength, 1) := by decide +kernel
theorem dX3_multiplyPays_8 : decode cX3_multiplyPays 8 = .ok (.if_icmp .ge 19, 3) := by decide +kernel
theorem dX3_multiplyPays_11 : decode cX3_multiplyPays 11 = .ok (.aload_n 0, 1) := by decide +kernel
theorem dX3_multiplyPays_12 : decode cX3_multiplyPays 12 = .ok (.getfield 22, 3) := by decide +kernel
theorem dX3_multiplyPays_15 : decode cX3_multiplyPays 15 = .ok (.iload_n 2, 1) := by decide +kernel
theorem dX3_multiplyPays_16 : decode cX3_multiplyPays 16 = .ok (.dup2, 1) := by decide +kernel
theorem dX3_multiplyPays_17 : decode cX3_multiplyPays 17 = .ok (.iaload, 1) := by decide +kernel
theorem dX3_multiplyPays_18 : decode cX3_multiplyPays 18 = .ok (.iload_n 1, 1) := by decide +kernel
theorem dX3_multiplyPays_19 : decode cX3_multiplyPays 19 = .ok (.imul, 1) := by decide +kernel
theorem dX3_multiplyPays_20 : decode cX3_multiplyPays 20 = .ok (.iastore, 1) := by decide +kernel
theorem dX3_multiplyPays_21 : decode cX3_multiplyPays 21 = .ok (.iinc 2 1, 3) := by decide +kernel
theorem dX3_multiplyPays_24 : decode cX3_multiplyPays 24 = .ok (.goto (-22), 3) := by decide +kernel
theorem dX3_multiplyPays_27 : decode cX3_multiplyPays 27 = .ok (.return_, 1) := by decide +kernel
theorem dX3_takesFrom_0 : decode cX3_takesFrom 0 = .ok (.iconst 0, 1) := by decide +kernel
theorem dX3_takesFrom_1 : decode cX3_takesFrom 1 = .ok (.istore_n 2, 1) := by decide +kernel
theorem dX3_takesFrom_2 : decode cX3_takesFrom 2 = .ok (.iload_n 2, 1) := by decide +kernel
theorem dX3_takesFrom_3 : decode cX3_takesFrom 3 = .ok (.aload_n 0, 1) := by decide +kernel
theorem dX3_takesFrom_4 : decode cX3_takesFrom 4 = .ok (.getfield 9, 3) := by decide +kernel
theorem dX3_takesFrom_7 : decode cX3_takesFrom 7 = .ok (.if_icmp .ge 43, 3) := by decide +kernel
theorem dX3_takesFrom_10 : decode cX3_takesFrom 10 = .ok (.iconst 0, 1) := by decide +kernel
theorem dX3_takesFrom_11 : decode cX3_takesFrom 11 = .ok (.istore_n 3, 1) := by decide +kernel
theorem dX3_takesFrom_12 : decode cX3_takesFrom 12 = .ok (.iload_n 3, 1) := by decide +kernel
theorem dX3_takesFrom_13 : decode cX3_takesFrom 13 = .ok (.aload_n 1, 1) := by decide +kernel
theorem dX3_takesFrom_14 : decode cX3_takesFrom 14 = .ok (.getfield 9, 3) := by decide +kernel
theorem dX3_takesFrom_17 : decode cX3_takesFrom 17 = .ok (.if_icmp .ge 27, 3) := by decide +kernel
theorem dX3_takesFrom_20 : decode cX3_takesFrom 20 = .ok (.aload_n 0, 1) := by decide +kernel
theorem dX3_takesFrom_21 : decode cX3_takesFrom 21 = .ok (.iload_n 2, 1) := by decide +kernel
theorem dX3_takesFrom_22 : decode cX3_takesFrom 22 = .ok (.iload_n 3, 1) := by decide +kernel
theorem dX3_takesFrom_23 : decode cX3_takesFrom 23 = .ok (.invokevirtual 54, 3) := by decide +kernel
theorem dX3_takesFrom_26 : decode cX3_takesFrom 26 = .ok (.aload_n 1, 1) := by decide +kernel
theorem dX3_takesFrom_27 : decode cX3_takesFrom 27 = .ok (.iload_n 3, 1) := by decide +kernel
theorem dX3_takesFrom_28 : decode cX3_takesFrom 28 = .ok (.iload_n 2, 1) := by decide +kernel
theorem dX3_takesFrom_29 : decode cX3_takesFrom 29 = .ok (.invokevirtual 54, 3) := by decide +kernel
theorem dX3_takesFrom_32 : decode cX3_takesFrom 32 = .ok (.iadd, 1) := by decide +kernel
theorem dX3_takesFrom_33 : decode cX3_takesFrom 33 = .ok (.ifCond .eq 5, 3) := by decide +kernel
theorem dX3_takesFrom_36 : decode cX3_takesFrom 36 = .ok (.iconst 0, 1) := by decide +kernel
theorem dX3_takesFrom_37 : decode cX3_takesFrom 37 = .ok (.ireturn, 1) := by decide +kernel
theorem dX3_takesFrom_38 : decode cX3_takesFrom 38 = .ok (.iinc 3 1, 3) := by decide +kernel
theorem dX3_takesFrom_41 : decode cX3_takesFrom 41 = .ok (.goto (-29), 3) := by decide +kernel
theorem dX3_takesFrom_44 : decode cX3_takesFrom 44 = .ok (.iinc 2 1, 3) := by decide +kernel
theorem dX3_takesFrom_47 : decode cX3_takesFrom 47 = .ok (.goto (-45), 3) := by decide +kernel
theorem dX3_takesFrom_50 : decode cX3_takesFrom 50 = .ok (.iconst 1, 1) := by decide +kernel
theorem dX3_takesFrom_51 : decode cX3_takesFrom 51 = .ok (.ireturn, 1) := by decide +kernel
theorem dX3_isLike_0 : decode cX3_isLike 0 = .ok (.aload_n 0, 1) := by decide +kernel
theorem dX3_isLike_1 : decode cX3_isLike 1 = .ok (.getfield 9, 3) := by decide +kernel
theorem dX3_isLike_4 : decode cX3_isLike 4 = .ok (.aload_n 1, 1) := by decide +kernel
theorem dX3_isLike_5 : decode cX3_isLike 5 = .ok (.getfield 9, 3) := by decide +kernel
theorem dX3_isLike_8 : decode cX3_isLike 8 = .ok (.if_icmp .eq 5, 3) := by decide +kernel
theorem dX3_isLike_11 : decode cX3_isLike 11 = .ok (.iconst 0, 1) := by decide +kernel
theorem dX3_isLike_12 : decode cX3_isLike 12 = .ok (.ireturn, 1) := by decide +kernel
theorem dX3_isLike_13 : decode cX3_isLike 13 = .ok (.iconst 0, 1) := by decide +kernel
theorem dX3_isLike_14 : decode cX3_isLike 14 = .ok (.istore_n 2, 1) := by decide +kernel
theorem dX3_isLike_15 : decode cX3_isLike 15 = .ok (.iload_n 2, 1) := by decide +kernel
theorem dX3_isLike_16 : decode cX3_isLike 16 = .ok (.aload_n 0, 1) := by decide +kernel
theorem dX3_isLike_17 : decode cX3_isLike 17 = .ok (.getfield 22, 3) := by decide +kernel
theorem dX3_isLike_20 : decode cX3_isLike 20 = .ok (.arraylength, 1) := by decide +kernel
theorem dX3_isLike_21 : decode cX3_isLike 21 = .ok (.if_icmp .ge 26, 3) := by decide +kernel
theorem dX3_isLike_24 : decode cX3_isLike 24 = .ok (.aload_n 0, 1) := by decide +kernel
theorem dX3_isLike_25 : decode cX3_isLike 25 = .ok (.getfield 22, 3) := by decide +kernel
theorem dX3_isLike_28 : decode cX3_isLike 28 = .ok (.iload_n 2, 1) := by decide +kernel
theorem dX3_isLike_29 : decode cX3_isLike 29 = .ok (.iaload, 1) := by decide +kernel
theorem dX3_isLike_30 : decode cX3_isLike 30 = .ok (.aload_n 1, 1) := by decide +kernel
theorem dX3_isLike_31 : decode cX3_isLike 31 = .ok (.getfield 22, 3) := by decide +kernel
theorem dX3_isLike_34 : decode cX3_isLike 34 = .ok (.iload_n 2, 1) := by decide +kernel
theorem dX3_isLike_35 : decode cX3_isLike 35 = .ok (.iaload, 1) := by decide +kernel
theorem dX3_isLike_36 : decode cX3_isLike 36 = .ok (.if_icmp .eq 5, 3) := by decide +kernel
theorem dX3_isLike_39 : decode cX3_isLike 39 = .ok (.iconst 0, 1) := by decide +kernel
theorem dX3_isLike_40 : decode cX3_isLike 40 = .ok (.ireturn, 1) := by decide +kernel
theorem dX3_isLike_41 : decode cX3_isLike 41 = .ok (.iinc 2 1, 3) := by decide +kernel
theorem dX3_isLike_44 : decode cX3_isLike 44 = .ok (.goto (-29), 3) := by decide +kernel
theorem dX3_isLike_47 : decode cX3_isLike 47 = .ok (.iconst 1, 1) := by decide +kernel
theorem dX3_isLike_48 : decode cX3_isLike 48 = .ok (.ireturn, 1) := by decide +kernel
theorem dX4_init_0 : decode cX4_init 0 = .ok (.aload_n 0, 1) := by decide +kernel
theorem dX4_init_1 : decode cX4_init 1 = .ok (.invokespecial 1, 3) := by decide +kernel
theorem dX4_init_4 : decode cX4_init 4 = .ok (.aload_n 0, 1) := by decide +kernel
theorem dX4_init_5 : decode cX4_init 5 = .ok (.new 7, 3) := by decide +kernel
theorem dX4_init_8 : decode cX4_init 8 = .ok (.dup, 1) := by decide +kernel
theorem dX4_init_9 : decode cX4_init 9 = .ok (.invokespecial 9, 3) := by decide +kernel
theorem dX4_init_12 : decode cX4_init 12 = .ok (.putfield 10, 3) := by decide +kernel
theorem dX4_init_15 : decode cX4_init 15 = .ok (.aload_n 0, 1) := by decide +kernel
theorem dX4_init_16 : decode cX4_init 16 = .ok (.new 7, 3) := by decide +kernel
theorem dX4_init_19 : decode cX4_init 19 = .ok (.dup, 1) := by decide +kernel
theorem dX4_init_20 : decode cX4_init 20 = .ok (.invokespecial 9, 3) := by decide +kernel
theorem dX4_init_23 : decode cX4_init 23 = .ok (.putfield 16, 3) := by decide +kernel
theorem dX4_init_26 : decode cX4_init 26 = .ok (.aload_n 0, 1) := by decide +kernel
theorem dX4_init_27 : decode cX4_init 27 = .ok (.new 19, 3) := by decide +kernel
theorem dX4_init_30 : decode cX4_init 30 = .ok (.dup, 1) := by decide +kernel
theorem dX4_init_31 : decode cX4_init 31 = .ok (.invokespecial 21, 3) := by decide +kernel
theorem dX4_init_34 : decode cX4_init 34 = .ok (.putfield 22, 3) := by decide +kernel
theorem dX4_init_37 : decode cX4_init 37 = .ok (.aload_n 0, 1) := by decide +kernel
theorem dX4_init_38 : decode cX4_init 38 = .ok (.bipush 7, 2) := by decide +kernel
theorem dX4_init_40 : decode cX4_init 40 = .ok (.newarray .int, 2) := by decide +kernel
theorem dX4_init_42 : decode cX4_init 42 = .ok (.putfield 26, 3) := by decide +kernel
theorem dX4_init_45 : decode cX4_init 45 = .ok (.aload_n 0, 1) := by decide +kernel
theorem dX4_init_46 : decode cX4_init 46 = .ok (.iconst 0, 1) := by decide +kernel
theorem dX4_init_47 : decode cX4_init 47 = .ok (.putfield 30, 3) := by decide +kernel
theorem dX4_init_50 : decode cX4_init 50 = .ok (.return_, 1) := by decide +kernel
theorem dX4_game_0 : decode cX4_game 0 = .ok (.iload_n 1, 1) := by decide +kernel
theorem dX4_game_1 : decode cX4_game 1 = .ok (.iconst 1, 1) := by decide +kernel
theorem dX4_game_2 : decode cX4_game 2 = .ok (.if_icmp .lt 8, 3) := by decide +kernel
theorem dX4_game_5 : decode cX4_game 5 = .ok (.iload_n 2, 1) := by decide +kernel
theorem dX4_game_6 : decode cX4_game 6 = .ok (.iconst 1, 1) := by decide +kernel
theorem dX4_game_7 : decode cX4_game 7 = .ok (.if_icmp .ge 10, 3) := by decide +kernel
theorem dX4_game_10 : decode cX4_game 10 = .ok (.aload_n 0, 1) := by decide +kernel
theorem dX4_game_11 : decode cX4_game 11 = .ok (.bipush (-4), 2) := by decide +kernel
theorem dX4_game_13 : decode cX4_game 13 = .ok (.invokevirtual 34, 3) := by decide +kernel
theorem dX4_game_16 : decode cX4_game 16 = .ok (.ireturn, 1) := by decide +kernel
theorem dX4_game_17 : decode cX4_game 17 = .ok (.iload_n 1, 1) := by decide +kernel
theorem dX4_game_18 : decode cX4_game 18 = .ok (.iconst 4, 1) := by decide +kernel
theorem dX4_game_19 : decode cX4_game 19 = .ok (.if_icmp .gt 8, 3) := by decide +kernel
theorem dX4_game_22 : decode cX4_game 22 = .ok (.iload_n 2, 1) := by decide +kernel
theorem dX4_game_23 : decode cX4_game 23 = .ok (.iconst 4, 1) := by decide +kernel
theorem dX4_game_24 : decode cX4_game 24 = .ok (.if_icmp .le 10, 3) := by decide +kernel
theorem dX4_game_27 : decode cX4_game 27 = .ok (.aload_n 0, 1) := by decide +kernel
theorem dX4_game_28 : decode cX4_game 28 = .ok (.bipush (-6), 2) := by decide +kernel
theorem dX4_game_30 : decode cX4_game 30 = .ok (.invokevirtual 34, 3) := by decide +kernel
theorem dX4_game_33 : decode cX4_game 33 = .ok (.ireturn, 1) := by decide +kernel
theorem dX4_game_34 : decode cX4_game 34 = .ok (.aload_n 0, 1) := by decide +kernel
theorem dX4_game_35 : decode cX4_game 35 = .ok (.getfield 10, 3) := by decide +kernel
theorem dX4_game_38 : decode cX4_game 38 = .ok (.iload_n 1, 1) := by decide +kernel
theorem dX4_game_39 : decode cX4_game 39 = .ok (.invokevirtual 38, 3) := by decide +kernel
theorem dX4_game_42 : decode cX4_game 42 = .ok (.aload_n 0, 1) := by decide +kernel
theorem dX4_game_43 : decode cX4_game 43 = .ok (.getfield 16, 3) := by decide +kernel
theorem dX4_game_46 : decode cX4_game 46 = .ok (.iload_n 2, 1) := by decide +kernel
theorem dX4_game_47 : decode cX4_game 47 = .ok (.invokevirtual 38, 3) := by decide +kernel
theorem dX4_game_50 : decode cX4_game 50 = .ok (.aload_n 0, 1) := by decide +kernel
theorem dX4_game_51 : decode cX4_game 51 = .ok (.iconst 0, 1) := by decide +kernel
theorem dX4_game_52 : decode cX4_game 52 = .ok (.putfield 30, 3) := by decide +kernel
theorem dX4_game_55 : decode cX4_game 55 = .ok (.iconst 1, 1) := by decide +kernel
theorem dX4_game_56 : decode cX4_game 56 = .ok (.ireturn, 1) := by decide +kernel
theorem dX4_pay_0 : decode cX4_pay 0 = .ok (.aload_n 0, 1) := by decide +kernel
theorem dX4_pay_1 : decode cX4_pay 1 = .ok (.iload_n 1, 1) := by decide +kernel
theorem dX4_pay_2 : decode cX4_pay 2 = .ok (.iload_n 2, 1) := by decide +kernel
theorem dX4_pay_3 : decode cX4_pay 3 = .ok (.iload_n 3, 1) := by decide +kernel
theorem dX4_pay_4 : decode cX4_pay 4 = .ok (.invokevirtual 42, 3) := by decide +kernel
theorem dX4_pay_7 : decode cX4_pay 7 = .ok (.ifCond .ne 9, 3) := by decide +kernel
theorem dX4_pay_10 : decode cX4_pay 10 = .ok (.aload_n 0, 1) := by decide +kernel
theorem dX4_pay_11 : decode cX4_pay 11 = .ok (.iconst (-1), 1) := by decide +kernel
theorem dX4_pay_12 : decode cX4_pay 12 = .ok (.invokevirtual 46, 3) := by decide +kernel
theorem dX4_pay_15 : decode cX4_pay 15 = .ok (.ireturn, 1) := by decide +kernel
theorem dX4_pay_16 : decode cX4_pay 16 = .ok (.iload 4, 2) := by decide +kernel
theorem dX4_pay_18 : decode cX4_pay 18 = .ok (.bipush (-20), 2) := by decide +kernel
theorem dX4_pay_20 : decode cX4_pay 20 = .ok (.if_icmp .ge 10, 3) := by decide +kernel
theorem dX4_pay_23 : decode cX4_pay 23 = .ok (.aload_n 0, 1) := by decide +kernel
theorem dX4_pay_24 : decode cX4_pay 24 = .ok (.bipush (-4), 2) := by decide +kernel
theorem dX4_pay_26 : decode cX4_pay 26 = .ok (.invokevirtual 46, 3) := by decide +kernel
theorem dX4_pay_29 : decode cX4_pay 29 = .ok (.ireturn, 1) := by decide +kernel
theorem dX4_pay_30 : decode cX4_pay 30 = .ok (.iload 4, 2) := by decide +kernel
theorem dX4_pay_32 : decode cX4_pay 32 = .ok (.bipush 20, 2) := by decide +kernel
theorem dX4_pay_34 : decode cX4_pay 34 = .ok (.if_icmp .le 10, 3) := by decide +kernel
theorem dX4_pay_37 : decode cX4_pay 37 = .ok (.aload_n 0, 1) := by decide +kernel
theorem dX4_pay_38 : decode cX4_pay 38 = .ok (.bipush (-6), 2) := by decide +kernel
theorem dX4_pay_40 : decode cX4_pay 40 = .ok (.invokevirtual 46, 3) := by decide +kernel
theorem dX4_pay_43 : decode cX4_pay 43 = .ok (.ireturn, 1) := by decide +kernel
theorem dX4_pay_44 : decode cX4_pay 44 = .ok (.iload_n 1, 1) := by decide +kernel
theorem dX4_pay_45 : decode cX4_pay 45 = .ok (.ifCond .ne 7, 3) := by decide +kernel
theorem dX4_pay_48 : decode cX4_pay 48 = .ok (.iload_n 2, 1) := by decide +kernel
theorem dX4_pay_49 : decode cX4_pay 49 = .ok (.goto 4, 3) := by decide +kernel
theorem dX4_pay_52 : decode cX4_pay 52 = .ok (.iload_n 3, 1) := by decide +kernel
theorem dX4_pay_53 : decode cX4_pay 53 = .ok (.istore 5, 2) := by decide +kernel
theorem dX4_pay_55 : decode cX4_pay 55 = .ok (.iload_n 1, 1) := by decide +kernel
theorem dX4_pay_56 : decode cX4_pay 56 = .ok (.ifCond .ne 7, 3) := by decide +kernel
theorem dX4_pay_59 : decode cX4_pay 59 = .ok (.iload_n 3, 1) := by decide +kernel
theorem dX4_pay_60 : decode cX4_pay 60 = .ok (.goto 4, 3) := by decide +kernel
theorem dX4_pay_63 : decode cX4_pay 63 = .ok (.iload_n 2, 1) := by decide +kernel
theorem dX4_pay_64 : decode cX4_pay 64 = .ok (.istore 6, 2) := by decide +kernel
theorem dX4_pay_66 : decode cX4_pay 66 = .ok (.aload_n 0, 1) := by decide +kernel
theorem dX4_pay_67 : decode cX4_pay 67 = .ok (.iload_n 1, 1) := by decide +kernel
theorem dX4_pay_68 : decode cX4_pay 68 = .ok (.invokevirtual 49, 3) := by decide +kernel
theorem dX4_pay_71 : decode cX4_pay 71 = .ok (.iload 5, 2) := by decide +kernel
theorem dX4_pay_73 : decode cX4_pay 73 = .ok (.iload 6, 2) := by decide +kernel
theorem dX4_pay_75 : decode cX4_pay 75 = .ok (.invokevirtual 53, 3) := by decide +kernel
theorem dX4_pay_78 : decode cX4_pay 78 = .ok (.istore 7, 2) := by decide +kernel
theorem dX4_pay_80 : decode cX4_pay 80 = .ok (.aload_n 0, 1) := by decide +kernel
theorem dX4_pay_81 : decode cX4_pay 81 = .ok (.iload_n 1, 1) := by decide +kernel
theorem dX4_pay_82 : decode cX4_pay 82 = .ok (.invokevirtual 49, 3) := by decide +kernel
theorem dX4_pay_85 : decode cX4_pay 85 = .ok (.iload 5, 2) := by decide +kernel
theorem dX4_pay_87 : decode cX4_pay 87 = .ok (.iload 6, 2) := by decide +kernel
theorem dX4_pay_89 : decode cX4_pay 89 = .ok (.iload 4, 2) := by decide +kernel
theorem dX4_pay_91 : decode cX4_pay 91 = .ok (.invokevirtual 57, 3) := by decide +kernel
theorem dX4_pay_94 : decode cX4_pay 94 = .ok (.aload_n 0, 1) := by decide +kernel
theorem dX4_pay_95 : decode cX4_pay 95 = .ok (.iconst 0, 1) := by decide +kernel
theorem dX4_pay_96 : decode cX4_pay 96 = .ok (.putfield 30, 3) := by decide +kernel
theorem dX4_pay_99 : decode cX4_pay 99 = .ok (.iload 7, 2) := by decide +kernel
theorem dX4_pay_101 : decode cX4_pay 101 = .ok (.ireturn, 1) := by decide +kernel
theorem dX4_paid_0 : decode cX4_paid 0 = .ok (.aload_n 0, 1) := by decide +kernel
theorem dX4_paid_1 : decode cX4_paid 1 = .ok (.iload_n 1, 1) := by decide +kernel
theorem dX4_paid_2 : decode cX4_paid 2 = .ok (.iload_n 2, 1) := by decide +kernel
theorem dX4_paid_3 : decode cX4_paid 3 = .ok (.iload_n 3, 1) := by decide +kernel
theorem dX4_paid_4 : decode cX4_paid 4 = .ok (.invokevirtual 42, 3) := by decide +kernel
theorem dX4_paid_7 : decode cX4_paid 7 = .ok (.ifCond .ne 9, 3) := by decide +kernel
theorem dX4_paid_10 : decode cX4_paid 10 = .ok (.aload_n 0, 1) := by decide +kernel
theorem dX4_paid_11 : decode cX4_paid 11 = .ok (.iconst (-1), 1) := by decide +kernel
theorem dX4_paid_12 : decode cX4_paid 12 = .ok (.invokevirtual 46, 3) := by decide +kernel
theorem dX4_paid_15 : decode cX4_paid 15 = .ok (.ireturn, 1) := by decide +kernel
theorem dX4_paid_16 : decode cX4_paid 16 = .ok (.iload_n 1, 1) := by decide +kernel
theorem dX4_paid_17 : decode cX4_paid 17 = .ok (.ifCond .ne 15, 3) := by decide +kernel
theorem dX4_paid_20 : decode cX4_paid 20 = .ok (.aload_n 0, 1) := by decide +kernel
theorem dX4_paid_21 : decode cX4_paid 21 = .ok (.getfield 10, 3) := by decide +kernel
theorem dX4_paid_24 : decode cX4_paid 24 = .ok (.iload_n 2, 1) := by decide +kernel
theorem dX4_paid_25 : decode cX4_paid 25 = .ok (.iload_n 3, 1) := by decide +kernel
theorem dX4_paid_26 : decode cX4_paid 26 = .ok (.invokevirtual 53, 3) := by decide +kernel
theorem dX4_paid_29 : decode cX4_paid 29 = .ok (.goto 12, 3) := by decide +kernel
theorem dX4_paid_32 : decode cX4_paid 32 = .ok (.aload_n 0, 1) := by decide +kernel
theorem dX4_paid_33 : decode cX4_paid 33 = .ok (.getfield 16, 3) := by decide +kernel
theorem dX4_paid_36 : decode cX4_paid 36 = .ok (.iload_n 3, 1) := by decide +kernel
theorem dX4_paid_37 : decode cX4_paid 37 = .ok (.iload_n 2, 1) := by decide +kernel
theorem dX4_paid_38 : decode cX4_paid 38 = .ok (.invokevirtual 53, 3) := by decide +kernel
theorem dX4_paid_41 : decode cX4_paid 41 = .ok (.ireturn, 1) := by decide +kernel
theorem dX4_weight_0 : decode cX4_weight 0 = .ok (.iload_n 1, 1) := by decide +kernel
theorem dX4_weight_1 : decode cX4_weight 1 = .ok (.invokestatic 61, 3) := by decide +kernel
theorem dX4_weight_4 : decode cX4_weight 4 = .ok (.ifCond .eq 12, 3) := by decide +kernel
theorem dX4_weight_7 : decode cX4_weight 7 = .ok (.iload_n 2, 1) := by decide +kernel
theorem dX4_weight_8 : decode cX4_weight 8 = .ok (.ifCond .lt 8, 3) := by decide +kernel
theorem dX4_weight_11 : decode cX4_weight 11 = .ok (.iload_n 2, 1) := by decide +kernel
theorem dX4_weight_12 : decode cX4_weight 12 = .ok (.iconst 4, 1) := by decide +kernel
theorem dX4_weight_13 : decode cX4_weight 13 = .ok (.if_icmp .lt 9, 3) := by decide +kernel
theorem dX4_weight_16 : decode cX4_weight 16 = .ok (.aload_n 0, 1) := by decide +kernel
theorem dX4_weight_17 : decode cX4_weight 17 = .ok (.iconst (-1), 1) := by decide +kernel
theorem dX4_weight_18 : decode cX4_weight 18 = .ok (.invokevirtual 34, 3) := by decide +kernel
theorem dX4_weight_21 : decode cX4_weight 21 = .ok (.ireturn, 1) := by decide +kernel
theorem dX4_weight_22 : decode cX4_weight 22 = .ok (.iload_n 3, 1) := by decide +kernel
theorem dX4_weight_23 : decode cX4_weight 23 = .ok (.ifCond .ge 10, 3) := by decide +kernel
theorem dX4_weight_26 : decode cX4_weight 26 = .ok (.aload_n 0, 1) := by decide +kernel
theorem dX4_weight_27 : decode cX4_weight 27 = .ok (.bipush (-4), 2) := by decide +kernel
theorem dX4_weight_29 : decode cX4_weight 29 = .ok (.invokevirtual 34, 3) := by decide +kernel
theorem dX4_weight_32 : decode cX4_weight 32 = .ok (.ireturn, 1) := by decide +kernel
theorem dX4_weight_33 : decode cX4_weight 33 = .ok (.iload_n 3, 1) := by decide +kernel
theorem dX4_weight_34 : decode cX4_weight 34 = .ok (.bipush 99, 2) := by decide +kernel
theorem dX4_weight_36 : decode cX4_weight 36 = .ok (.if_icmp .le 10, 3) := by decide +kernel
theorem dX4_weight_39 : decode cX4_weight 39 = .ok (.aload_n 0, 1) := by decide +kernel
theorem dX4_weight_40 : decode cX4_weight 40 = .ok (.bipush (-6), 2) := by decide +kernel
theorem dX4_weight_42 : decode cX4_weight 42 = .ok (.invokevirtual 34, 3) := by decide +kernel
theorem dX4_weight_45 : decode cX4_weight 45 = .ok (.ireturn, 1) := by decide +kernel
theorem dX4_weight_46 : decode cX4_weight 46 = .ok (.aload_n 0, 1) := by decide +kernel
theorem dX4_weight_47 : decode cX4_weight 47 = .ok (.iload_n 1, 1) := by decide +kernel
theorem dX4_weight_48 : decode cX4_weight 48 = .ok (.invokevirtual 49, 3) := by decide +kernel
theorem dX4_weight_51 : decode cX4_weight 51 = .ok (.iload_n 2, 1) := by decide +kernel
theorem dX4_weight_52 : decode cX4_weight 52 = .ok (.iload_n 3, 1) := by decide +kernel
theorem dX4_weight_53 : decode cX4_weight 53 = .ok (.invokevirtual 65, 3) := by decide +kernel
theorem dX4_weight_56 : decode cX4_weight 56 = .ok (.ireturn, 1) := by decide +kernel
theorem dX4_mean_0 : decode cX4_mean 0 = .ok (.iload_n 1, 1) := by decide +kernel
theorem dX4_mean_1 : decode cX4_mean 1 = .ok (.invokestatic 61, 3) := by decide +kernel
theorem dX4_mean_4 : decode cX4_mean 4 = .ok (.ifCond .ne 9, 3) := by decide +kernel
theorem dX4_mean_7 : decode cX4_mean 7 = .ok (.aload_n 0, 1) := by decide +kernel
theorem dX4_mean_8 : decode cX4_mean 8 = .ok (.iconst (-1), 1) := by decide +kernel
theorem dX4_mean_9 : decode cX4_mean 9 = .ok (.invokevirtual 68, 3) := by decide +kernel
theorem dX4_mean_12 : decode cX4_mean 12 = .ok (.lreturn, 1) := by decide +kernel
theorem dX4_mean_13 : decode cX4_mean 13 = .ok (.iload_n 2, 1) := by decide +kernel
theorem dX4_mean_14 : decode cX4_mean 14 = .ok (.ifCond .lt 8, 3) := by decide +kernel
theorem dX4_mean_17 : decode cX4_mean 17 = .ok (.iload_n 2, 1) := by decide +kernel
theorem dX4_mean_18 : decode cX4_mean 18 = .ok (.iconst 1, 1) := by decide +kernel
theorem dX4_mean_19 : decode cX4_mean 19 = .ok (.if_icmp .le 10, 3) := by decide +kernel
theorem dX4_mean_22 : decode cX4_mean 22 = .ok (.aload_n 0, 1) := by decide +kernel
theorem dX4_mean_23 : decode cX4_mean 23 = .ok (.bipush (-2), 2) := by decide +kernel
theorem dX4_mean_25 : decode cX4_mean 25 = .ok (.invokevirtual 68, 3) := by decide +kernel
theorem dX4_mean_28 : decode cX4_mean 28 = .ok (.lreturn, 1) := by decide +kernel
theorem dX4_mean_29 : decode cX4_mean 29 = .ok (.aload_n 0, 1) := by decide +kernel
theorem dX4_mean_30 : decode cX4_mean 30 = .ok (.iload_n 1, 1) := by decide +kernel
theorem dX4_mean_31 : decode cX4_mean 31 = .ok (.invokevirtual 72, 3) := by decide +kernel
theorem dX4_mean_34 : decode cX4_mean 34 = .ok (.astore_n 3, 1) := by decide +kernel
theorem dX4_mean_35 : decode cX4_mean 35 = .ok (.aload_n 0, 1) := by decide +kernel
theorem dX4_mean_36 : decode cX4_mean 36 = .ok (.iconst 1, 1) := by decide +kernel
theorem dX4_mean_37 : decode cX4_mean 37 = .ok (.iload_n 1, 1) := by decide +kernel
theorem dX4_mean_38 : decode cX4_mean 38 = .ok (.isub, 1) := by decide +kernel
theorem dX4_mean_39 : decode cX4_mean 39 = .ok (.invokevirtual 72, 3) := by decide +kernel
theorem dX4_mean_42 : decode cX4_mean 42 = .ok (.astore 4, 2) := by decide +kernel
theorem dX4_mean_44 : decode cX4_mean 44 = .ok (.aload_n 3, 1) := by decide +kernel
theorem dX4_mean_45 : decode cX4_mean 45 = .ok (.ifnull 8, 3) := by decide +kernel
theorem dX4_mean_48 : decode cX4_mean 48 = .ok (.aload 4, 2) := by decide +kernel
theorem dX4_mean_50 : decode cX4_mean 50 = .ok (.ifnonnull 10, 3) := by decide +kernel
theorem dX4_mean_53 : decode cX4_mean 53 = .ok (.aload_n 0, 1) := by decide +kernel
theorem dX4_mean_54 : decode cX4_mean 54 = .ok (.bipush (-5), 2) := by decide +kernel
theorem dX4_mean_56 : decode cX4_mean 56 = .ok (.invokevirtual 68, 3) := by decide +kernel
theorem dX4_mean_59 : decode cX4_mean 59 = .ok (.lreturn, 1) := by decide +kernel
theorem dX4_mean_60 : decode cX4_mean 60 = .ok (.aload_n 0, 1) := by decide +kernel
theorem dX4_mean_61 : decode cX4_mean 61 = .ok (.iload_n 1, 1) := by decide +kernel
theorem dX4_mean_62 : decode cX4_mean 62 = .ok (.invokevirtual 49, 3) := by decide +kernel
theorem dX4_mean_65 : decode cX4_mean 65 = .ok (.aload_n 3, 1) := by decide +kernel
theorem dX4_mean_66 : decode cX4_mean 66 = .ok (.aload 4, 2) := by decide +kernel
theorem dX4_mean_68 : decode cX4_mean 68 = .ok (.iload_n 2, 1) := by decide +kernel
theorem dX4_mean_69 : decode cX4_mean 69 = .ok (.invokevirtual 76, 3) := by decide +kernel
theorem dX4_mean_72 : decode cX4_mean 72 = .ok (.lreturn, 1) := by decide +kernel
theorem dX4_answers_0 : decode cX4_answers 0 = .ok (.iload_n 1, 1) := by decide +kernel
theorem dX4_answers_1 : decode cX4_answers 1 = .ok (.invokestatic 61, 3) := by decide +kernel
theorem dX4_answers_4 : decode cX4_answers 4 = .ok (.ifCond .ne 9, 3) := by decide +kernel
theorem dX4_answers_7 : decode cX4_answers 7 = .ok (.aload_n 0, 1) := by decide +kernel
theorem dX4_answers_8 : decode cX4_answers 8 = .ok (.iconst (-1), 1) := by decide +kernel
theorem dX4_answers_9 : decode cX4_answers 9 = .ok (.invokevirtual 34, 3) := by decide +kernel
theorem dX4_answers_12 : decode cX4_answers 12 = .ok (.ireturn, 1) := by decide +kernel
theorem dX4_answers_13 : decode cX4_answers 13 = .ok (.aload_n 0, 1) := by decide +kernel
theorem dX4_answers_14 : decode cX4_answers 14 = .ok (.iconst 1, 1) := by decide +kernel
theorem dX4_answers_15 : decode cX4_answers 15 = .ok (.iload_n 1, 1) := by decide +kernel
theorem dX4_answers_16 : decode cX4_answers 16 = .ok (.isub, 1) := by decide +kernel
theorem dX4_answers_17 : decode cX4_answers 17 = .ok (.invokevirtual 72, 3) := by decide +kernel
theorem dX4_answers_20 : decode cX4_answers 20 = .ok (.astore_n 2, 1) := by decide +kernel
theorem dX4_answers_21 : decode cX4_answers 21 = .ok (.aload_n 2, 1) := by decide +kernel
theorem dX4_answers_22 : decode cX4_answers 22 = .ok (.ifnonnull 12, 3) := by decide +kernel
theorem dX4_answers_25 : decode cX4_answers 25 = .ok (.aload_n 0, 1) := by decide +kernel
theorem dX4_answers_26 : decode cX4_answers 26 = .ok (.bipush (-5), 2) := by decide +kernel
theorem dX4_answers_28 : decode cX4_answers 28 = .ok (.invokevirtual 34, 3) := by decide +kernel
theorem dX4_answers_31 : decode cX4_answers 31 = .ok (.goto 7, 3) := by decide +kernel
theorem dX4_answers_34 : decode cX4_answers 34 = .ok (.aload_n 2, 1) := by decide +kernel
theorem dX4_answers_35 : decode cX4_answers 35 = .ok (.getfield 80, 3) := by decide +kernel
theorem dX4_answers_38 : decode cX4_answers 38 = .ok (.ireturn, 1) := by decide +kernel
theorem dX4_is_0 : decode cX4_is 0 = .ok (.aload_n 0, 1) := by decide +kernel
theorem dX4_is_1 : decode cX4_is 1 = .ok (.iconst 0, 1) := by decide +kernel
theorem dX4_is_2 : decode cX4_is 2 = .ok (.invokevirtual 72, 3) := by decide +kernel
theorem dX4_is_5 : decode cX4_is 5 = .ok (.astore_n 1, 1) := by decide +kernel
theorem dX4_is_6 : decode cX4_is 6 = .ok (.aload_n 0, 1) := by decide +kernel
theorem dX4_is_7 : decode cX4_is 7 = .ok (.iconst 1, 1) := by decide +kernel
theorem dX4_is_8 : decode cX4_is 8 = .ok (.invokevirtual 72, 3) := by decide +kernel
theorem dX4_is_11 : decode cX4_is 11 = .ok (.astore_n 2, 1) := by decide +kernel
theorem dX4_is_12 : decode cX4_is 12 = .ok (.aload_n 1, 1) := by decide +kernel
theorem dX4_is_13 : decode cX4_is 13 = .ok (.ifnull 7, 3) := by decide +kernel
theorem dX4_is_16 : decode cX4_is 16 = .ok (.aload_n 2, 1) := by decide +kernel
theorem dX4_is_17 : decode cX4_is 17 = .ok (.ifnonnull 10, 3) := by decide +kernel
theorem dX4_is_20 : decode cX4_is 20 = .ok (.aload_n 0, 1) := by decide +kernel
theorem dX4_is_21 : decode cX4_is 21 = .ok (.bipush (-5), 2) := by decide +kernel
theorem dX4_is_23 : decode cX4_is 23 = .ok (.invokevirtual 34, 3) := by decide +kernel
theorem dX4_is_26 : decode cX4_is 26 = .ok (.ireturn, 1) := by decide +kernel
theorem dX4_is_27 : decode cX4_is 27 = .ok (.aload_n 1, 1) := by decide +kernel
theorem dX4_is_28 : decode cX4_is 28 = .ok (.aload_n 2, 1) := by decide +kernel
theorem dX4_is_29 : decode cX4_is 29 = .ok (.invokevirtual 86, 3) := by decide +kernel
theorem dX4_is_32 : decode cX4_is 32 = .ok (.ifCond .eq 7, 3) := by decide +kernel
theorem dX4_is_35 : decode cX4_is 35 = .ok (.iconst 1, 1) := by decide +kernel
theorem dX4_is_36 : decode cX4_is 36 = .ok (.goto 4, 3) := by decide +kernel
theorem dX4_is_39 : decode cX4_is 39 = .ok (.iconst 0, 1) := by decide +kernel
theorem dX4_is_40 : decode cX4_is 40 = .ok (.ireturn, 1) := by decide +kernel
theorem dX4_why_0 : decode cX4_why 0 = .ok (.aload_n 0, 1) := by decide +kernel
theorem dX4_why_1 : decode cX4_why 1 = .ok (.iconst 0, 1) := by decide +kernel
theorem dX4_why_2 : decode cX4_why 2 = .ok (.invokevirtual 72, 3) := by decide +kernel
theorem dX4_why_5 : decode cX4_why 5 = .ok (.astore_n 1, 1) := by decide +kernel
theorem dX4_why_6 : decode cX4_why 6 = .ok (.aload_n 0, 1) := by decide +kernel
theorem dX4_why_7 : decode cX4_why 7 = .ok (.iconst 1, 1) := by decide +kernel
theorem dX4_why_8 : decode cX4_why 8 = .ok (.invokevirtual 72, 3) := by decide +kernel
theorem dX4_why_11 : decode cX4_why 11 = .ok (.astore_n 2, 1) := by decide +kernel
theorem dX4_why_12 : decode cX4_why 12 = .ok (.aload_n 1, 1) := by decide +kernel
theorem dX4_why_13 : decode cX4_why 13 = .ok (.ifnull 7, 3) := by decide +kernel
theorem dX4_why_16 : decode cX4_why 16 = .ok (.aload_n 2, 1) := by decide +kernel
theorem dX4_why_17 : decode cX4_why 17 = .ok (.ifnonnull 6, 3) := by decide +kernel
theorem dX4_why_20 : decode cX4_why 20 = .ok (.bipush (-9), 2) := by decide +kernel
theorem dX4_why_22 : decode cX4_why 22 = .ok (.ireturn, 1) := by decide +kernel
theorem dX4_why_23 : decode cX4_why 23 = .ok (.aload_n 1, 1) := by decide +kernel
theorem dX4_why_24 : decode cX4_why 24 = .ok (.getfield 90, 3) := by decide +kernel
theorem dX4_why_27 : decode cX4_why 27 = .ok (.aload_n 2, 1) := by decide +kernel
theorem dX4_why_28 : decode cX4_why 28 = .ok (.getfield 80, 3) := by decide +kernel
theorem dX4_why_31 : decode cX4_why 31 = .ok (.iconst (-1), 1) := by decide +kernel
theorem dX4_why_32 : decode cX4_why 32 = .ok (.ixor, 1) := by decide +kernel
theorem dX4_why_33 : decode cX4_why 33 = .ok (.iand, 1) := by decide +kernel
theorem dX4_why_34 : decode cX4_why 34 = .ok (.invokestatic 93, 3) := by decide +kernel
theorem dX4_why_37 : decode cX4_why 37 = .ok (.istore_n 3, 1) := by decide +kernel
theorem dX4_why_38 : decode cX4_why 38 = .ok (.iload_n 3, 1) := by decide +kernel
theorem dX4_why_39 : decode cX4_why 39 = .ok (.bipush (-9), 2) := by decide +kernel
theorem dX4_why_41 : decode cX4_why 41 = .ok (.if_icmp .eq 5, 3) := by decide +kernel
theorem dX4_why_44 : decode cX4_why 44 = .ok (.iload_n 3, 1) := by decide +kernel
theorem dX4_why_45 : decode cX4_why 45 = .ok (.ireturn, 1) := by decide +kernel
theorem dX4_why_46 : decode cX4_why 46 = .ok (.aload_n 2, 1) := by decide +kernel
theorem dX4_why_47 : decode cX4_why 47 = .ok (.getfield 90, 3) := by decide +kernel
theorem dX4_why_50 : decode cX4_why 50 = .ok (.aload_n 1, 1) := by decide +kernel
theorem dX4_why_51 : decode cX4_why 51 = .ok (.getfield 80, 3) := by decide +kernel
theorem dX4_why_54 : decode cX4_why 54 = .ok (.iconst (-1), 1) := by decide +kernel
theorem dX4_why_55 : decode cX4_why 55 = .ok (.ixor, 1) := by decide +kernel
theorem dX4_why_56 : decode cX4_why 56 = .ok (.iand, 1) := by decide +kernel
theorem dX4_why_57 : decode cX4_why 57 = .ok (.invokestatic 93, 3) := by decide +kernel
theorem dX4_why_60 : decode cX4_why 60 = .ok (.istore 4, 2) := by decide +kernel
theorem dX4_why_62 : decode cX4_why 62 = .ok (.iload 4, 2) := by decide +kernel
theorem dX4_why_64 : decode cX4_why 64 = .ok (.bipush (-9), 2) := by decide +kernel
theorem dX4_why_66 : decode cX4_why 66 = .ok (.if_icmp .ne 8, 3) := by decide +kernel
theorem dX4_why_69 : decode cX4_why 69 = .ok (.bipush (-9), 2) := by decide +kernel
theorem dX4_why_71 : decode cX4_why 71 = .ok (.goto 8, 3) := by decide +kernel
theorem dX4_why_74 : decode cX4_why 74 = .ok (.bipush 10, 2) := by decide +kernel
theorem dX4_why_76 : decode cX4_why 76 = .ok (.iload 4, 2) := by decide +kernel
theorem dX4_why_78 : decode cX4_why 78 = .ok (.iadd, 1) := by decide +kernel
theorem dX4_why_79 : decode cX4_why 79 = .ok (.ireturn, 1) := by decide +kernel
theorem dX4_worse_0 : decode cX4_worse 0 = .ok (.iload_n 1, 1) := by decide +kernel
theorem dX4_worse_1 : decode cX4_worse 1 = .ok (.invokestatic 61, 3) := by decide +kernel
theorem dX4_worse_4 : decode cX4_worse 4 = .ok (.ifCond .eq 15, 3) := by decide +kernel
theorem dX4_worse_7 : decode cX4_worse 7 = .ok (.aload_n 0, 1) := by decide +kernel
theorem dX4_worse_8 : decode cX4_worse 8 = .ok (.iload_n 1, 1) := by decide +kernel
theorem dX4_worse_9 : decode cX4_worse 9 = .ok (.invokevirtual 49, 3) := by decide +kernel
theorem dX4_worse_12 : decode cX4_worse 12 = .ok (.iload_n 2, 1) := by decide +kernel
theorem dX4_worse_13 : decode cX4_worse 13 = .ok (.invokevirtual 96, 3) := by decide +kernel
theorem dX4_worse_16 : decode cX4_worse 16 = .ok (.ifCond .ne 9, 3) := by decide +kernel
theorem dX4_worse_19 : decode cX4_worse 19 = .ok (.aload_n 0, 1) := by decide +kernel
theorem dX4_worse_20 : decode cX4_worse 20 = .ok (.iconst (-1), 1) := by decide +kernel
theorem dX4_worse_21 : decode cX4_worse 21 = .ok (.invokevirtual 34, 3) := by decide +kernel
theorem dX4_worse_24 : decode cX4_worse 24 = .ok (.ireturn, 1) := by decide +kernel
theorem dX4_worse_25 : decode cX4_worse 25 = .ok (.aload_n 0, 1) := by decide +kernel
theorem dX4_worse_26 : decode cX4_worse 26 = .ok (.iload_n 1, 1) := by decide +kernel
theorem dX4_worse_27 : decode cX4_worse 27 = .ok (.invokevirtual 49, 3) := by decide +kernel
theorem dX4_worse_30 : decode cX4_worse 30 = .ok (.iload_n 2, 1) := by decide +kernel
theorem dX4_worse_31 : decode cX4_worse 31 = .ok (.aload_n 0, 1) := by decide +kernel
theorem dX4_worse_32 : decode cX4_worse 32 = .ok (.iload_n 1, 1) := by decide +kernel
theorem dX4_worse_33 : decode cX4_worse 33 = .ok (.invokevirtual 49, 3) := by decide +kernel
theorem dX4_worse_36 : decode cX4_worse 36 = .ok (.invokevirtual 99, 3) := by decide +kernel
theorem dX4_worse_39 : decode cX4_worse 39 = .ok (.aload_n 0, 1) := by decide +kernel
theorem dX4_worse_40 : decode cX4_worse 40 = .ok (.iconst 1, 1) := by decide +kernel
theorem dX4_worse_41 : decode cX4_worse 41 = .ok (.iload_n 1, 1) := by decide +kernel
theorem dX4_worse_42 : decode cX4_worse 42 = .ok (.isub, 1) := by decide +kernel
theorem dX4_worse_43 : decode cX4_worse 43 = .ok (.invokevirtual 49, 3) := by decide +kernel
theorem dX4_worse_46 : decode cX4_worse 46 = .ok (.invokevirtual 99, 3) := by decide +kernel
theorem dX4_worse_49 : decode cX4_worse 49 = .ok (.invokevirtual 103, 3) := by decide +kernel
theorem dX4_worse_52 : decode cX4_worse 52 = .ok (.ireturn, 1) := by decide +kernel
theorem dX4_left_0 : decode cX4_left 0 = .ok (.iload_n 1, 1) := by decide +kernel
theorem dX4_left_1 : decode cX4_left 1 = .ok (.invokestatic 61, 3) := by decide +kernel
theorem dX4_left_4 : decode cX4_left 4 = .ok (.ifCond .ne 9, 3) := by decide +kernel
theorem dX4_left_7 : decode cX4_left 7 = .ok (.aload_n 0, 1) := by decide +kernel
theorem dX4_left_8 : decode cX4_left 8 = .ok (.iconst (-1), 1) := by decide +kernel
theorem dX4_left_9 : decode cX4_left 9 = .ok (.invokevirtual 34, 3) := by decide +kernel
theorem dX4_left_12 : decode cX4_left 12 = .ok (.ireturn, 1) := by decide +kernel
theorem dX4_left_13 : decode cX4_left 13 = .ok (.aload_n 0, 1) := by decide +kernel
theorem dX4_left_14 : decode cX4_left 14 = .ok (.getfield 22, 3) := by decide +kernel
theorem dX4_left_17 : decode cX4_left 17 = .ok (.aload_n 0, 1) := by decide +kernel
theorem dX4_left_18 : decode cX4_left 18 = .ok (.getfield 10, 3) := by decide +kernel
theorem dX4_left_21 : decode cX4_left 21 = .ok (.aload_n 0, 1) := by decide +kernel
theorem dX4_left_22 : decode cX4_left 22 = .ok (.getfield 16, 3) := by decide +kernel
theorem dX4_left_25 : decode cX4_left 25 = .ok (.invokevirtual 107, 3) := by decide +kernel
theorem dX4_left_28 : decode cX4_left 28 = .ok (.iload_n 1, 1) := by decide +kernel
theorem dX4_left_29 : decode cX4_left 29 = .ok (.ifCond .ne 13, 3) := by decide +kernel
theorem dX4_left_32 : decode cX4_left 32 = .ok (.aload_n 0, 1) := by decide +kernel
theorem dX4_left_33 : decode cX4_left 33 = .ok (.getfield 22, 3) := by decide +kernel
theorem dX4_left_36 : decode cX4_left 36 = .ok (.getfield 111, 3) := by decide +kernel
theorem dX4_left_39 : decode cX4_left 39 = .ok (.goto 10, 3) := by decide +kernel
theorem dX4_left_42 : decode cX4_left 42 = .ok (.aload_n 0, 1) := by decide +kernel
theorem dX4_left_43 : decode cX4_left 43 = .ok (.getfield 22, 3) := by decide +kernel
theorem dX4_left_46 : decode cX4_left 46 = .ok (.getfield 114, 3) := by decide +kernel
theorem dX4_left_49 : decode cX4_left 49 = .ok (.ireturn, 1) := by decide +kernel
theorem dX4_times_0 : decode cX4_times 0 = .ok (.aload_n 0, 1) := by decide +kernel
theorem dX4_times_1 : decode cX4_times 1 = .ok (.getfield 22, 3) := by decide +kernel
theorem dX4_times_4 : decode cX4_times 4 = .ok (.aload_n 0, 1) := by decide +kernel
theorem dX4_times_5 : decode cX4_times 5 = .ok (.getfield 10, 3) := by decide +kernel
theorem dX4_times_8 : decode cX4_times 8 = .ok (.aload_n 0, 1) := by decide +kernel
theorem dX4_times_9 : decode cX4_times 9 = .ok (.getfield 16, 3) := by decide +kernel
theorem dX4_times_12 : decode cX4_times 12 = .ok (.invokevirtual 107, 3) := by decide +kernel
theorem dX4_times_15 : decode cX4_times 15 = .ok (.aload_n 0, 1) := by decide +kernel
theorem dX4_times_16 : decode cX4_times 16 = .ok (.getfield 22, 3) := by decide +kernel
theorem dX4_times_19 : decode cX4_times 19 = .ok (.getfield 117, 3) := by decide +kernel
theorem dX4_times_22 : decode cX4_times 22 = .ok (.ireturn, 1) := by decide +kernel
theorem dX4_sure_0 : decode cX4_sure 0 = .ok (.iload_n 1, 1) := by decide +kernel
theorem dX4_sure_1 : decode cX4_sure 1 = .ok (.invokestatic 61, 3) := by decide +kernel
theorem dX4_sure_4 : decode cX4_sure 4 = .ok (.ifCond .ne 9, 3) := by decide +kernel
theorem dX4_sure_7 : decode cX4_sure 7 = .ok (.aload_n 0, 1) := by decide +kernel
theorem dX4_sure_8 : decode cX4_sure 8 = .ok (.iconst (-1), 1) := by decide +kernel
theorem dX4_sure_9 : decode cX4_sure 9 = .ok (.invokevirtual 46, 3) := by decide +kernel
theorem dX4_sure_12 : decode cX4_sure 12 = .ok (.ireturn, 1) := by decide +kernel
theorem dX4_sure_13 : decode cX4_sure 13 = .ok (.aload_n 0, 1) := by decide +kernel
theorem dX4_sure_14 : decode cX4_sure 14 = .ok (.iload_n 1, 1) := by decide +kernel
theorem dX4_sure_15 : decode cX4_sure 15 = .ok (.invokevirtual 49, 3) := by decide +kernel
theorem dX4_sure_18 : decode cX4_sure 18 = .ok (.aload_n 0, 1) := by decide +kernel
theorem dX4_sure_19 : decode cX4_sure 19 = .ok (.iconst 1, 1) := by decide +kernel
theorem dX4_sure_20 : decode cX4_sure 20 = .ok (.iload_n 1, 1) := by decide +kernel
theorem dX4_sure_21 : decode cX4_sure 21 = .ok (.isub, 1) := by decide +kernel
theorem dX4_sure_22 : decode cX4_sure 22 = .ok (.invokevirtual 49, 3) := by decide +kernel
theorem dX4_sure_25 : decode cX4_sure 25 = .ok (.getfield 120, 3) := by decide +kernel
theorem dX4_sure_28 : decode cX4_sure 28 = .ok (.invokevirtual 123, 3) := by decide +kernel
theorem dX4_sure_31 : decode cX4_sure 31 = .ok (.ireturn, 1) := by decide +kernel
theorem dX4_hold_0 : decode cX4_hold 0 = .ok (.iload_n 1, 1) := by decide +kernel
theorem dX4_hold_1 : decode cX4_hold 1 = .ok (.invokestatic 61, 3) := by decide +kernel
theorem dX4_hold_4 : decode cX4_hold 4 = .ok (.ifCond .ne 9, 3) := by decide +kernel
theorem dX4_hold_7 : decode cX4_hold 7 = .ok (.aload_n 0, 1) := by decide +kernel
theorem dX4_hold_8 : decode cX4_hold 8 = .ok (.iconst (-1), 1) := by decide +kernel
theorem dX4_hold_9 : decode cX4_hold 9 = .ok (.invokevirtual 46, 3) := by decide +kernel
theorem dX4_hold_12 : decode cX4_hold 12 = .ok (.ireturn, 1) := by decide +kernel
theorem dX4_hold_13 : decode cX4_hold 13 = .ok (.aload_n 0, 1) := by decide +kernel
theorem dX4_hold_14 : decode cX4_hold 14 = .ok (.iload_n 1, 1) := by decide +kernel
theorem dX4_hold_15 : decode cX4_hold 15 = .ok (.invokevirtual 49, 3) := by decide +kernel
theorem dX4_hold_18 : decode cX4_hold 18 = .ok (.aload_n 0, 1) := by decide +kernel
theorem dX4_hold_19 : decode cX4_hold 19 = .ok (.iconst 1, 1) := by decide +kernel
theorem dX4_hold_20 : decode cX4_hold 20 = .ok (.iload_n 1, 1) := by decide +kernel
theorem dX4_hold_21 : decode cX4_hold 21 = .ok (.isub, 1) := by decide +kernel
theorem dX4_hold_22 : decode cX4_hold 22 = .ok (.invokevirtual 49, 3) := by decide +kernel
theorem dX4_hold_25 : decode cX4_hold 25 = .ok (.getfield 120, 3) := by decide +kernel
theorem dX4_hold_28 : decode cX4_hold 28 = .ok (.invokevirtual 126, 3) := by decide +kernel
theorem dX4_hold_31 : decode cX4_hold 31 = .ok (.ireturn, 1) := by decide +kernel
theorem dX4_corners_0 : decode cX4_corners 0 = .ok (.iload_n 1, 1) := by decide +kernel
theorem dX4_corners_1 : decode cX4_corners 1 = .ok (.invokestatic 61, 3) := by decide +kernel
theorem dX4_corners_4 : decode cX4_corners 4 = .ok (.ifCond .ne 9, 3) := by decide +kernel
theorem dX4_corners_7 : decode cX4_corners 7 = .ok (.aload_n 0, 1) := by decide +kernel
theorem dX4_corners_8 : decode cX4_corners 8 = .ok (.iconst (-1), 1) := by decide +kernel
theorem dX4_corners_9 : decode cX4_corners 9 = .ok (.invokevirtual 34, 3) := by decide +kernel
theorem dX4_corners_12 : decode cX4_corners 12 = .ok (.ireturn, 1) := by decide +kernel
theorem dX4_corners_13 : decode cX4_corners 13 = .ok (.aload_n 0, 1) := by decide +kernel
theorem dX4_corners_14 : decode cX4_corners 14 = .ok (.invokevirtual 129, 3) := by decide +kernel
theorem dX4_corners_17 : decode cX4_corners 17 = .ok (.aload_n 0, 1) := by decide +kernel
theorem dX4_corners_18 : decode cX4_corners 18 = .ok (.iload_n 1, 1) := by decide +kernel
theorem dX4_corners_19 : decode cX4_corners 19 = .ok (.invokevirtual 49, 3) := by decide +kernel
theorem dX4_corners_22 : decode cX4_corners 22 = .ok (.getfield 132, 3) := by decide +kernel
theorem dX4_corners_25 : decode cX4_corners 25 = .ok (.getfield 136, 3) := by decide +kernel
theorem dX4_corners_28 : decode cX4_corners 28 = .ok (.ireturn, 1) := by decide +kernel
theorem dX4_corner_0 : decode cX4_corner 0 = .ok (.iload_n 1, 1) := by decide +kernel
theorem dX4_corner_1 : decode cX4_corner 1 = .ok (.invokestatic 61, 3) := by decide +kernel
theorem dX4_corner_4 : decode cX4_corner 4 = .ok (.ifCond .eq 15, 3) := by decide +kernel
theorem dX4_corner_7 : decode cX4_corner 7 = .ok (.aload_n 0, 1) := by decide +kernel
theorem dX4_corner_8 : decode cX4_corner 8 = .ok (.iload_n 1, 1) := by decide +kernel
theorem dX4_corner_9 : decode cX4_corner 9 = .ok (.invokevirtual 49, 3) := by decide +kernel
theorem dX4_corner_12 : decode cX4_corner 12 = .ok (.iload_n 3, 1) := by decide +kernel
theorem dX4_corner_13 : decode cX4_corner 13 = .ok (.invokevirtual 96, 3) := by decide +kernel
theorem dX4_corner_16 : decode cX4_corner 16 = .ok (.ifCond .ne 9, 3) := by decide +kernel
theorem dX4_corner_19 : decode cX4_corner 19 = .ok (.aload_n 0, 1) := by decide +kernel
theorem dX4_corner_20 : decode cX4_corner 20 = .ok (.iconst (-1), 1) := by decide +kernel
theorem dX4_corner_21 : decode cX4_corner 21 = .ok (.invokevirtual 34, 3) := by decide +kernel
theorem dX4_corner_24 : decode cX4_corner 24 = .ok (.ireturn, 1) := by decide +kernel
theorem dX4_corner_25 : decode cX4_corner 25 = .ok (.aload_n 0, 1) := by decide +kernel
theorem dX4_corner_26 : decode cX4_corner 26 = .ok (.invokevirtual 129, 3) := by decide +kernel
theorem dX4_corner_29 : decode cX4_corner 29 = .ok (.aload_n 0, 1) := by decide +kernel
theorem dX4_corner_30 : decode cX4_corner 30 = .ok (.iload_n 1, 1) := by decide +kernel
theorem dX4_corner_31 : decode cX4_corner 31 = .ok (.invokevirtual 49, 3) := by decide +kernel
theorem dX4_corner_34 : decode cX4_corner 34 = .ok (.getfield 132, 3) := by decide +kernel
theorem dX4_corner_37 : decode cX4_corner 37 = .ok (.iload_n 2, 1) := by decide +kernel
theorem dX4_corner_38 : decode cX4_corner 38 = .ok (.invokevirtual 141, 3) := by decide +kernel
theorem dX4_corner_41 : decode cX4_corner 41 = .ok (.astore 5, 2) := by decide +kernel
theorem dX4_corner_43 : decode cX4_corner 43 = .ok (.aload 5, 2) := by decide +kernel
theorem dX4_corner_45 : decode cX4_corner 45 = .ok (.ifnonnull 9, 3) := by decide +kernel
theorem dX4_corner_48 : decode cX4_corner 48 = .ok (.aload_n 0, 1) := by decide +kernel
theorem dX4_corner_49 : decode cX4_corner 49 = .ok (.iconst (-1), 1) := by decide +kernel
theorem dX4_corner_50 : decode cX4_corner 50 = .ok (.invokevirtual 34, 3) := by decide +kernel
theorem dX4_corner_53 : decode cX4_corner 53 = .ok (.ireturn, 1) := by decide +kernel
theorem dX4_corner_54 : decode cX4_corner 54 = .ok (.iload 4, 2) := by decide +kernel
theorem dX4_corner_56 : decode cX4_corner 56 = .ok (.ifCond .lt 9, 3) := by decide +kernel
theorem dX4_corner_59 : decode cX4_corner 59 = .ok (.iload 4, 2) := by decide +kernel
theorem dX4_corner_61 : decode cX4_corner 61 = .ok (.iconst 2, 1) := by decide +kernel
theorem dX4_corner_62 : decode cX4_corner 62 = .ok (.if_icmp .le 10, 3) := by decide +kernel
theorem dX4_corner_65 : decode cX4_corner 65 = .ok (.aload_n 0, 1) := by decide +kernel
theorem dX4_corner_66 : decode cX4_corner 66 = .ok (.bipush (-2), 2) := by decide +kernel
theorem dX4_corner_68 : decode cX4_corner 68 = .ok (.invokevirtual 34, 3) := by decide +kernel
theorem dX4_corner_71 : decode cX4_corner 71 = .ok (.ireturn, 1) := by decide +kernel
theorem dX4_corner_72 : decode cX4_corner 72 = .ok (.iload 4, 2) := by decide +kernel
theorem dX4_corner_74 : decode cX4_corner 74 = .ok (.iconst 2, 1) := by decide +kernel
theorem dX4_corner_75 : decode cX4_corner 75 = .ok (.if_icmp .ne 11, 3) := by decide +kernel
theorem dX4_corner_78 : decode cX4_corner 78 = .ok (.aload 5, 2) := by decide +kernel
theorem dX4_corner_80 : decode cX4_corner 80 = .ok (.getfield 80, 3) := by decide +kernel
theorem dX4_corner_83 : decode cX4_corner 83 = .ok (.goto 21, 3) := by decide +kernel
theorem dX4_corner_86 : decode cX4_corner 86 = .ok (.aload 5, 2) := by decide +kernel
theorem dX4_corner_88 : decode cX4_corner 88 = .ok (.getfield 144, 3) := by decide +kernel
theorem dX4_corner_91 : decode cX4_corner 91 = .ok (.iload_n 3, 1) := by decide +kernel
theorem dX4_corner_92 : decode cX4_corner 92 = .ok (.laload, 1) := by decide +kernel
theorem dX4_corner_93 : decode cX4_corner 93 = .ok (.aload 5, 2) := by decide +kernel
theorem dX4_corner_95 : decode cX4_corner 95 = .ok (.getfield 148, 3) := by decide +kernel
theorem dX4_corner_98 : decode cX4_corner 98 = .ok (.iload 4, 2) := by decide +kernel
theorem dX4_corner_100 : decode cX4_corner 100 = .ok (.invokestatic 152, 3) := by decide +kernel
theorem dX4_corner_103 : decode cX4_corner 103 = .ok (.l2i, 1) := by decide +kernel
theorem dX4_corner_104 : decode cX4_corner 104 = .ok (.ireturn, 1) := by decide +kernel
theorem dX4_balances_0 : decode cX4_balances 0 = .ok (.aload_n 0, 1) := by decide +kernel
theorem dX4_balances_1 : decode cX4_balances 1 = .ok (.invokevirtual 129, 3) := by decide +kernel
theorem dX4_balances_4 : decode cX4_balances 4 = .ok (.aload_n 0, 1) := by decide +kernel
theorem dX4_balances_5 : decode cX4_balances 5 = .ok (.bipush 69, 2) := by decide +kernel
theorem dX4_balances_7 : decode cX4_balances 7 = .ok (.iconst 0, 1) := by decide +kernel
theorem dX4_balances_8 : decode cX4_balances 8 = .ok (.invokevirtual 156, 3) := by decide +kernel
theorem dX4_balances_11 : decode cX4_balances 11 = .ok (.ireturn, 1) := by decide +kernel
theorem dX4_balance_0 : decode cX4_balance 0 = .ok (.aload_n 0, 1) := by decide +kernel
theorem dX4_balance_1 : decode cX4_balance 1 = .ok (.invokevirtual 129, 3) := by decide +kernel
theorem dX4_balance_4 : decode cX4_balance 4 = .ok (.aload_n 0, 1) := by decide +kernel
theorem dX4_balance_5 : decode cX4_balance 5 = .ok (.iload_n 1, 1) := by decide +kernel
theorem dX4_balance_6 : decode cX4_balance 6 = .ok (.invokevirtual 159, 3) := by decide +kernel
theorem dX4_balance_9 : decode cX4_balance 9 = .ok (.istore_n 3, 1) := by decide +kernel
theorem dX4_balance_10 : decode cX4_balance 10 = .ok (.iload_n 3, 1) := by decide +kernel
theorem dX4_balance_11 : decode cX4_balance 11 = .ok (.bipush (-9), 2) := by decide +kernel
theorem dX4_balance_13 : decode cX4_balance 13 = .ok (.if_icmp .ne 9, 3) := by decide +kernel
theorem dX4_balance_16 : decode cX4_balance 16 = .ok (.aload_n 0, 1) := by decide +kernel
theorem dX4_balance_17 : decode cX4_balance 17 = .ok (.iconst (-1), 1) := by decide +kernel
theorem dX4_balance_18 : decode cX4_balance 18 = .ok (.invokevirtual 68, 3) := by decide +kernel
theorem dX4_balance_21 : decode cX4_balance 21 = .ok (.lreturn, 1) := by decide +kernel
theorem dX4_balance_22 : decode cX4_balance 22 = .ok (.aload_n 0, 1) := by decide +kernel
theorem dX4_balance_23 : decode cX4_balance 23 = .ok (.getfield 10, 3) := by decide +kernel
theorem dX4_balance_26 : decode cX4_balance 26 = .ok (.getfield 132, 3) := by decide +kernel
theorem dX4_balance_29 : decode cX4_balance 29 = .ok (.iload_n 3, 1) := by decide +kernel
theorem dX4_balance_30 : decode cX4_balance 30 = .ok (.bipush 69, 2) := by decide +kernel
theorem dX4_balance_32 : decode cX4_balance 32 = .ok (.idiv, 1) := by decide +kernel
theorem dX4_balance_33 : decode cX4_balance 33 = .ok (.invokevirtual 141, 3) := by decide +kernel
theorem dX4_balance_36 : decode cX4_balance 36 = .ok (.astore 4, 2) := by decide +kernel
theorem dX4_balance_38 : decode cX4_balance 38 = .ok (.aload_n 0, 1) := by decide +kernel
theorem dX4_balance_39 : decode cX4_balance 39 = .ok (.getfield 16, 3) := by decide +kernel
theorem dX4_balance_42 : decode cX4_balance 42 = .ok (.getfield 132, 3) := by decide +kernel
theorem dX4_balance_45 : decode cX4_balance 45 = .ok (.iload_n 3, 1) := by decide +kernel
theorem dX4_balance_46 : decode cX4_balance 46 = .ok (.bipush 69, 2) := by decide +kernel
theorem dX4_balance_48 : decode cX4_balance 48 = .ok (.irem, 1) := by decide +kernel
theorem dX4_balance_49 : decode cX4_balance 49 = .ok (.invokevirtual 141, 3) := by decide +kernel
theorem dX4_balance_52 : decode cX4_balance 52 = .ok (.astore 5, 2) := by decide +kernel
theorem dX4_balance_54 : decode cX4_balance 54 = .ok (.aload 4, 2) := by decide +kernel
theorem dX4_balance_56 : decode cX4_balance 56 = .ok (.ifnull 8, 3) := by decide +kernel
theorem dX4_balance_59 : decode cX4_balance 59 = .ok (.aload 5, 2) := by decide +kernel
theorem dX4_balance_61 : decode cX4_balance 61 = .ok (.ifnonnull 9, 3) := by decide +kernel
theorem dX4_balance_64 : decode cX4_balance 64 = .ok (.aload_n 0, 1) := by decide +kernel
theorem dX4_balance_65 : decode cX4_balance 65 = .ok (.iconst (-1), 1) := by decide +kernel
theorem dX4_balance_66 : decode cX4_balance 66 = .ok (.invokevirtual 68, 3) := by decide +kernel
theorem dX4_balance_69 : decode cX4_balance 69 = .ok (.lreturn, 1) := by decide +kernel
theorem dX4_balance_70 : decode cX4_balance 70 = .ok (.iload_n 2, 1) := by decide +kernel
theorem dX4_balance_71 : decode cX4_balance 71 = .ok (.ifCond .lt 9, 3) := by decide +kernel
theorem dX4_balance_74 : decode cX4_balance 74 = .ok (.iload_n 2, 1) := by decide +kernel
theorem dX4_balance_75 : decode cX4_balance 75 = .ok (.bipush 6, 2) := by decide +kernel
theorem dX4_balance_77 : decode cX4_balance 77 = .ok (.if_icmp .le 10, 3) := by decide +kernel
theorem dX4_balance_80 : decode cX4_balance 80 = .ok (.aload_n 0, 1) := by decide +kernel
theorem dX4_balance_81 : decode cX4_balance 81 = .ok (.bipush (-2), 2) := by decide +kernel
theorem dX4_balance_83 : decode cX4_balance 83 = .ok (.invokevirtual 68, 3) := by decide +kernel
theorem dX4_balance_86 : decode cX4_balance 86 = .ok (.lreturn, 1) := by decide +kernel
theorem dX4_balance_87 : decode cX4_balance 87 = .ok (.iload_n 2, 1) := by decide +kernel
theorem dX4_balance_88 : decode cX4_balance 88 = .ok (.tableswitch 73 0 4 #[36, 42, 48, 58, 58], 36) := by decide +kernel
theorem dX4_balance_124 : decode cX4_balance 124 = .ok (.iload_n 3, 1) := by decide +kernel
theorem dX4_balance_125 : decode cX4_balance 125 = .ok (.bipush 69, 2) := by decide +kernel
theorem dX4_balance_127 : decode cX4_balance 127 = .ok (.idiv, 1) := by decide +kernel
theorem dX4_balance_128 : decode cX4_balance 128 = .ok (.i2l, 1) := by decide +kernel
theorem dX4_balance_129 : decode cX4_balance 129 = .ok (.lreturn, 1) := by decide +kernel
theorem dX4_balance_130 : decode cX4_balance 130 = .ok (.iload_n 3, 1) := by decide +kernel
theorem dX4_balance_131 : decode cX4_balance 131 = .ok (.bipush 69, 2) := by decide +kernel
theorem dX4_balance_133 : decode cX4_balance 133 = .ok (.irem, 1) := by decide +kernel
theorem dX4_balance_134 : decode cX4_balance 134 = .ok (.i2l, 1) := by decide +kernel
theorem dX4_balance_135 : decode cX4_balance 135 = .ok (.lreturn, 1) := by decide +kernel
theorem dX4_balance_136 : decode cX4_balance 136 = .ok (.aload_n 0, 1) := by decide +kernel
theorem dX4_balance_137 : decode cX4_balance 137 = .ok (.aload 4, 2) := by decide +kernel
theorem dX4_balance_139 : decode cX4_balance 139 = .ok (.aload 5, 2) := by decide +kernel
theorem dX4_balance_141 : decode cX4_balance 141 = .ok (.invokevirtual 162, 3) := by decide +kernel
theorem dX4_balance_144 : decode cX4_balance 144 = .ok (.i2l, 1) := by decide +kernel
theorem dX4_balance_145 : decode cX4_balance 145 = .ok (.lreturn, 1) := by decide +kernel
theorem dX4_balance_146 : decode cX4_balance 146 = .ok (.aload_n 0, 1) := by decide +kernel
theorem dX4_balance_147 : decode cX4_balance 147 = .ok (.getfield 10, 3) := by decide +kernel
theorem dX4_balance_150 : decode cX4_balance 150 = .ok (.aload 4, 2) := by decide +kernel
theorem dX4_balance_152 : decode cX4_balance 152 = .ok (.aload 5, 2) := by decide +kernel
theorem dX4_balance_154 : decode cX4_balance 154 = .ok (.iload_n 2, 1) := by decide +kernel
theorem dX4_balance_155 : decode cX4_balance 155 = .ok (.iconst 3, 1) := by decide +kernel
theorem dX4_balance_156 : decode cX4_balance 156 = .ok (.isub, 1) := by decide +kernel
theorem dX4_balance_157 : decode cX4_balance 157 = .ok (.invokevirtual 76, 3) := by decide +kernel
theorem dX4_balance_160 : decode cX4_balance 160 = .ok (.lreturn, 1) := by decide +kernel
theorem dX4_balance_161 : decode cX4_balance 161 = .ok (.aload_n 0, 1) := by decide +kernel
theorem dX4_balance_162 : decode cX4_balance 162 = .ok (.getfield 16, 3) := by decide +kernel
theorem dX4_balance_165 : decode cX4_balance 165 = .ok (.aload 5, 2) := by decide +kernel
theorem dX4_balance_167 : decode cX4_balance 167 = .ok (.aload 4, 2) := by decide +kernel
theorem dX4_balance_169 : decode cX4_balance 169 = .ok (.iload_n 2, 1) := by decide +kernel
theorem dX4_balance_170 : decode cX4_balance 170 = .ok (.iconst 5, 1) := by decide +kernel
theorem dX4_balance_171 : decode cX4_balance 171 = .ok (.isub, 1) := by decide +kernel
theorem dX4_balance_172 : decode cX4_balance 172 = .ok (.invokevirtual 76, 3) := by decide +kernel
theorem dX4_balance_175 : decode cX4_balance 175 = .ok (.lreturn, 1) := by decide +kernel
theorem dX4_find_0 : decode cX4_find 0 = .ok (.aload_n 0, 1) := by decide +kernel
theorem dX4_find_1 : decode cX4_find 1 = .ok (.iconst 0, 1) := by decide +kernel
theorem dX4_find_2 : decode cX4_find 2 = .ok (.invokevirtual 72, 3) := by decide +kernel
theorem dX4_find_5 : decode cX4_find 5 = .ok (.astore_n 1, 1) := by decide +kernel
theorem dX4_find_6 : decode cX4_find 6 = .ok (.aload_n 0, 1) := by decide +kernel
theorem dX4_find_7 : decode cX4_find 7 = .ok (.iconst 1, 1) := by decide +kernel
theorem dX4_find_8 : decode cX4_find 8 = .ok (.invokevirtual 72, 3) := by decide +kernel
theorem dX4_find_11 : decode cX4_find 11 = .ok (.astore_n 2, 1) := by decide +kernel
theorem dX4_find_12 : decode cX4_find 12 = .ok (.aload_n 1, 1) := by decide +kernel
theorem dX4_find_13 : decode cX4_find 13 = .ok (.ifnull 7, 3) := by decide +kernel
theorem dX4_find_16 : decode cX4_find 16 = .ok (.aload_n 2, 1) := by decide +kernel
theorem dX4_find_17 : decode cX4_find 17 = .ok (.ifnonnull 10, 3) := by decide +kernel
theorem dX4_find_20 : decode cX4_find 20 = .ok (.aload_n 0, 1) := by decide +kernel
theorem dX4_find_21 : decode cX4_find 21 = .ok (.bipush (-5), 2) := by decide +kernel
theorem dX4_find_23 : decode cX4_find 23 = .ok (.invokevirtual 34, 3) := by decide +kernel
theorem dX4_find_26 : decode cX4_find 26 = .ok (.ireturn, 1) := by decide +kernel
theorem dX4_find_27 : decode cX4_find 27 = .ok (.aload_n 0, 1) := by decide +kernel
theorem dX4_find_28 : decode cX4_find 28 = .ok (.invokevirtual 129, 3) := by decide +kernel
theorem dX4_find_31 : decode cX4_find 31 = .ok (.aload_n 0, 1) := by decide +kernel
theorem dX4_find_32 : decode cX4_find 32 = .ok (.getfield 10, 3) := by decide +kernel
theorem dX4_find_35 : decode cX4_find 35 = .ok (.getfield 132, 3) := by decide +kernel
theorem dX4_find_38 : decode cX4_find 38 = .ok (.aload_n 1, 1) := by decide +kernel
theorem dX4_find_39 : decode cX4_find 39 = .ok (.invokevirtual 166, 3) := by decide +kernel
theorem dX4_find_42 : decode cX4_find 42 = .ok (.istore_n 3, 1) := by decide +kernel
theorem dX4_find_43 : decode cX4_find 43 = .ok (.aload_n 0, 1) := by decide +kernel
theorem dX4_find_44 : decode cX4_find 44 = .ok (.getfield 16, 3) := by decide +kernel
theorem dX4_find_47 : decode cX4_find 47 = .ok (.getfield 132, 3) := by decide +kernel
theorem dX4_find_50 : decode cX4_find 50 = .ok (.aload_n 2, 1) := by decide +kernel
theorem dX4_find_51 : decode cX4_find 51 = .ok (.invokevirtual 166, 3) := by decide +kernel
theorem dX4_find_54 : decode cX4_find 54 = .ok (.istore 4, 2) := by decide +kernel
theorem dX4_find_56 : decode cX4_find 56 = .ok (.iload_n 3, 1) := by decide +kernel
theorem dX4_find_57 : decode cX4_find 57 = .ok (.bipush (-9), 2) := by decide +kernel
theorem dX4_find_59 : decode cX4_find 59 = .ok (.if_icmp .eq 18, 3) := by decide +kernel
theorem dX4_find_62 : decode cX4_find 62 = .ok (.iload 4, 2) := by decide +kernel
theorem dX4_find_64 : decode cX4_find 64 = .ok (.bipush (-9), 2) := by decide +kernel
theorem dX4_find_66 : decode cX4_find 66 = .ok (.if_icmp .eq 11, 3) := by decide +kernel
theorem dX4_find_69 : decode cX4_find 69 = .ok (.aload_n 1, 1) := by decide +kernel
theorem dX4_find_70 : decode cX4_find 70 = .ok (.aload_n 2, 1) := by decide +kernel
theorem dX4_find_71 : decode cX4_find 71 = .ok (.invokevirtual 86, 3) := by decide +kernel
theorem dX4_find_74 : decode cX4_find 74 = .ok (.ifCond .ne 6, 3) := by decide +kernel
theorem dX4_find_77 : decode cX4_find 77 = .ok (.bipush (-9), 2) := by decide +kernel
theorem dX4_find_79 : decode cX4_find 79 = .ok (.ireturn, 1) := by decide +kernel
theorem dX4_find_80 : decode cX4_find 80 = .ok (.aload_n 0, 1) := by decide +kernel
theorem dX4_find_81 : decode cX4_find 81 = .ok (.iload_n 3, 1) := by decide +kernel
theorem dX4_find_82 : decode cX4_find 82 = .ok (.iload 4, 2) := by decide +kernel
theorem dX4_find_84 : decode cX4_find 84 = .ok (.invokevirtual 156, 3) := by decide +kernel
theorem dX4_find_87 : decode cX4_find 87 = .ok (.ireturn, 1) := by decide +kernel
theorem dX4_turn_0 : decode cX4_turn 0 = .ok (.aload_n 0, 1) := by decide +kernel
theorem dX4_turn_1 : decode cX4_turn 1 = .ok (.getfield 10, 3) := by decide +kernel
theorem dX4_turn_4 : decode cX4_turn 4 = .ok (.astore_n 1, 1) := by decide +kernel
theorem dX4_turn_5 : decode cX4_turn 5 = .ok (.aload_n 0, 1) := by decide +kernel
theorem dX4_turn_6 : decode cX4_turn 6 = .ok (.aload_n 0, 1) := by decide +kernel
theorem dX4_turn_7 : decode cX4_turn 7 = .ok (.getfield 16, 3) := by decide +kernel
theorem dX4_turn_10 : decode cX4_turn 10 = .ok (.putfield 10, 3) := by decide +kernel
theorem dX4_turn_13 : decode cX4_turn 13 = .ok (.aload_n 0, 1) := by decide +kernel
theorem dX4_turn_14 : decode cX4_turn 14 = .ok (.aload_n 1, 1) := by decide +kernel
theorem dX4_turn_15 : decode cX4_turn 15 = .ok (.putfield 16, 3) := by decide +kernel
theorem dX4_turn_18 : decode cX4_turn 18 = .ok (.iconst 1, 1) := by decide +kernel
theorem dX4_turn_19 : decode cX4_turn 19 = .ok (.ireturn, 1) := by decide +kernel
theorem dX4_raise_0 : decode cX4_raise 0 = .ok (.iload_n 1, 1) := by decide +kernel
theorem dX4_raise_1 : decode cX4_raise 1 = .ok (.invokestatic 61, 3) := by decide +kernel
theorem dX4_raise_4 : decode cX4_raise 4 = .ok (.ifCond .eq 17, 3) := by decide +kernel
theorem dX4_raise_7 : decode cX4_raise 7 = .ok (.aload_n 0, 1) := by decide +kernel
theorem dX4_raise_8 : decode cX4_raise 8 = .ok (.iconst 1, 1) := by decide +kernel
theorem dX4_raise_9 : decode cX4_raise 9 = .ok (.iload_n 1, 1) := by decide +kernel
theorem dX4_raise_10 : decode cX4_raise 10 = .ok (.isub, 1) := by decide +kernel
theorem dX4_raise_11 : decode cX4_raise 11 = .ok (.invokevirtual 49, 3) := by decide +kernel
theorem dX4_raise_14 : decode cX4_raise 14 = .ok (.iload_n 2, 1) := by decide +kernel
theorem dX4_raise_15 : decode cX4_raise 15 = .ok (.invokevirtual 96, 3) := by decide +kernel
theorem dX4_raise_18 : decode cX4_raise 18 = .ok (.ifCond .ne 9, 3) := by decide +kernel
theorem dX4_raise_21 : decode cX4_raise 21 = .ok (.aload_n 0, 1) := by decide +kernel
theorem dX4_raise_22 : decode cX4_raise 22 = .ok (.iconst (-1), 1) := by decide +kernel
theorem dX4_raise_23 : decode cX4_raise 23 = .ok (.invokevirtual 34, 3) := by decide +kernel
theorem dX4_raise_26 : decode cX4_raise 26 = .ok (.ireturn, 1) := by decide +kernel
theorem dX4_raise_27 : decode cX4_raise 27 = .ok (.aload_n 0, 1) := by decide +kernel
theorem dX4_raise_28 : decode cX4_raise 28 = .ok (.iload_n 1, 1) := by decide +kernel
theorem dX4_raise_29 : decode cX4_raise 29 = .ok (.invokevirtual 49, 3) := by decide +kernel
theorem dX4_raise_32 : decode cX4_raise 32 = .ok (.astore 4, 2) := by decide +kernel
theorem dX4_raise_34 : decode cX4_raise 34 = .ok (.aload 4, 2) := by decide +kernel
theorem dX4_raise_36 : decode cX4_raise 36 = .ok (.iload_n 2, 1) := by decide +kernel
theorem dX4_raise_37 : decode cX4_raise 37 = .ok (.invokevirtual 170, 3) := by decide +kernel
theorem dX4_raise_40 : decode cX4_raise 40 = .ok (.i2l, 1) := by decide +kernel
theorem dX4_raise_41 : decode cX4_raise 41 = .ok (.iload_n 3, 1) := by decide +kernel
theorem dX4_raise_42 : decode cX4_raise 42 = .ok (.i2l, 1) := by decide +kernel
theorem dX4_raise_43 : decode cX4_raise 43 = .ok (.ladd, 1) := by decide +kernel
theorem dX4_raise_44 : decode cX4_raise 44 = .ok (.ldc2_w 173, 3) := by decide +kernel
theorem dX4_raise_47 : decode cX4_raise 47 = .ok (.lcmp, 1) := by decide +kernel
theorem dX4_raise_48 : decode cX4_raise 48 = .ok (.ifCond .ge 10, 3) := by decide +kernel
theorem dX4_raise_51 : decode cX4_raise 51 = .ok (.aload_n 0, 1) := by decide +kernel
theorem dX4_raise_52 : decode cX4_raise 52 = .ok (.bipush (-4), 2) := by decide +kernel
theorem dX4_raise_54 : decode cX4_raise 54 = .ok (.invokevirtual 34, 3) := by decide +kernel
theorem dX4_raise_57 : decode cX4_raise 57 = .ok (.ireturn, 1) := by decide +kernel
theorem dX4_raise_58 : decode cX4_raise 58 = .ok (.aload 4, 2) := by decide +kernel
theorem dX4_raise_60 : decode cX4_raise 60 = .ok (.iload_n 2, 1) := by decide +kernel
theorem dX4_raise_61 : decode cX4_raise 61 = .ok (.invokevirtual 175, 3) := by decide +kernel
theorem dX4_raise_64 : decode cX4_raise 64 = .ok (.i2l, 1) := by decide +kernel
theorem dX4_raise_65 : decode cX4_raise 65 = .ok (.iload_n 3, 1) := by decide +kernel
theorem dX4_raise_66 : decode cX4_raise 66 = .ok (.i2l, 1) := by decide +kernel
theorem dX4_raise_67 : decode cX4_raise 67 = .ok (.ladd, 1) := by decide +kernel
theorem dX4_raise_68 : decode cX4_raise 68 = .ok (.ldc2_w 178, 3) := by decide +kernel
theorem dX4_raise_71 : decode cX4_raise 71 = .ok (.lcmp, 1) := by decide +kernel
theorem dX4_raise_72 : decode cX4_raise 72 = .ok (.ifCond .le 10, 3) := by decide +kernel
theorem dX4_raise_75 : decode cX4_raise 75 = .ok (.aload_n 0, 1) := by decide +kernel
theorem dX4_raise_76 : decode cX4_raise 76 = .ok (.bipush (-6), 2) := by decide +kernel
theorem dX4_raise_78 : decode cX4_raise 78 = .ok (.invokevirtual 34, 3) := by decide +kernel
theorem dX4_raise_81 : decode cX4_raise 81 = .ok (.ireturn, 1) := by decide +kernel
theorem dX4_raise_82 : decode cX4_raise 82 = .ok (.aload 4, 2) := by decide +kernel
theorem dX4_raise_84 : decode cX4_raise 84 = .ok (.iload_n 2, 1) := by decide +kernel
theorem dX4_raise_85 : decode cX4_raise 85 = .ok (.iload_n 3, 1) := by decide +kernel
theorem dX4_raise_86 : decode cX4_raise 86 = .ok (.invokevirtual 180, 3) := by decide +kernel
theorem dX4_raise_89 : decode cX4_raise 89 = .ok (.aload_n 0, 1) := by decide +kernel
theorem dX4_raise_90 : decode cX4_raise 90 = .ok (.iconst 0, 1) := by decide +kernel
theorem dX4_raise_91 : decode cX4_raise 91 = .ok (.putfield 30, 3) := by decide +kernel
theorem dX4_raise_94 : decode cX4_raise 94 = .ok (.iconst 1, 1) := by decide +kernel
theorem dX4_raise_95 : decode cX4_raise 95 = .ok (.ireturn, 1) := by decide +kernel
theorem dX4_scale_0 : decode cX4_scale 0 = .ok (.iload_n 1, 1) := by decide +kernel
theorem dX4_scale_1 : decode cX4_scale 1 = .ok (.invokestatic 61, 3) := by decide +kernel
theorem dX4_scale_4 : decode cX4_scale 4 = .ok (.ifCond .ne 9, 3) := by decide +kernel
theorem dX4_scale_7 : decode cX4_scale 7 = .ok (.aload_n 0, 1) := by decide +kernel
theorem dX4_scale_8 : decode cX4_scale 8 = .ok (.iconst (-1), 1) := by decide +kernel
theorem dX4_scale_9 : decode cX4_scale 9 = .ok (.invokevirtual 34, 3) := by decide +kernel
theorem dX4_scale_12 : decode cX4_scale 12 = .ok (.ireturn, 1) := by decide +kernel
theorem dX4_scale_13 : decode cX4_scale 13 = .ok (.iload_n 2, 1) := by decide +kernel
theorem dX4_scale_14 : decode cX4_scale 14 = .ok (.iconst 1, 1) := by decide +kernel
theorem dX4_scale_15 : decode cX4_scale 15 = .ok (.if_icmp .ge 10, 3) := by decide +kernel
theorem dX4_scale_18 : decode cX4_scale 18 = .ok (.aload_n 0, 1) := by decide +kernel
theorem dX4_scale_19 : decode cX4_scale 19 = .ok (.bipush (-4), 2) := by decide +kernel
theorem dX4_scale_21 : decode cX4_scale 21 = .ok (.invokevirtual 34, 3) := by decide +kernel
theorem dX4_scale_24 : decode cX4_scale 24 = .ok (.ireturn, 1) := by decide +kernel
theorem dX4_scale_25 : decode cX4_scale 25 = .ok (.aload_n 0, 1) := by decide +kernel
theorem dX4_scale_26 : decode cX4_scale 26 = .ok (.iload_n 1, 1) := by decide +kernel
theorem dX4_scale_27 : decode cX4_scale 27 = .ok (.invokevirtual 49, 3) := by decide +kernel
theorem dX4_scale_30 : decode cX4_scale 30 = .ok (.invokevirtual 184, 3) := by decide +kernel
theorem dX4_scale_33 : decode cX4_scale 33 = .ok (.i2l, 1) := by decide +kernel
theorem dX4_scale_34 : decode cX4_scale 34 = .ok (.iload_n 2, 1) := by decide +kernel
theorem dX4_scale_35 : decode cX4_scale 35 = .ok (.i2l, 1) := by decide +kernel
theorem dX4_scale_36 : decode cX4_scale 36 = .ok (.lmul, 1) := by decide +kernel
theorem dX4_scale_37 : decode cX4_scale 37 = .ok (.ldc2_w 178, 3) := by decide +kernel
theorem dX4_scale_40 : decode cX4_scale 40 = .ok (.lcmp, 1) := by decide +kernel
theorem dX4_scale_41 : decode cX4_scale 41 = .ok (.ifCond .le 10, 3) := by decide +kernel
theorem dX4_scale_44 : decode cX4_scale 44 = .ok (.aload_n 0, 1) := by decide +kernel
theorem dX4_scale_45 : decode cX4_scale 45 = .ok (.bipush (-6), 2) := by decide +kernel
theorem dX4_scale_47 : decode cX4_scale 47 = .ok (.invokevirtual 34, 3) := by decide +kernel
theorem dX4_scale_50 : decode cX4_scale 50 = .ok (.ireturn, 1) := by decide +kernel
theorem dX4_scale_51 : decode cX4_scale 51 = .ok (.aload_n 0, 1) := by decide +kernel
theorem dX4_scale_52 : decode cX4_scale 52 = .ok (.iload_n 1, 1) := by decide +kernel
theorem dX4_scale_53 : decode cX4_scale 53 = .ok (.invokevirtual 49, 3) := by decide +kernel
theorem dX4_scale_56 : decode cX4_scale 56 = .ok (.iload_n 2, 1) := by decide +kernel
theorem dX4_scale_57 : decode cX4_scale 57 = .ok (.invokevirtual 187, 3) := by decide +kernel
theorem dX4_scale_60 : decode cX4_scale 60 = .ok (.aload_n 0, 1) := by decide +kernel
theorem dX4_scale_61 : decode cX4_scale 61 = .ok (.iconst 0, 1) := by decide +kernel
theorem dX4_scale_62 : decode cX4_scale 62 = .ok (.putfield 30, 3) := by decide +kernel
theorem dX4_scale_65 : decode cX4_scale 65 = .ok (.iconst 1, 1) := by decide +kernel
theorem dX4_scale_66 : decode cX4_scale 66 = .ok (.ireturn, 1) := by decide +kernel
theorem dX4_status_0 : decode cX4_status 0 = .ok (.iload_n 1, 1) := by decide +kernel
theorem dX4_status_1 : decode cX4_status 1 = .ok (.tableswitch 117 0 4 #[35, 43, 51, 71, 91], 35) := by decide +kernel
theorem dX4_status_36 : decode cX4_status 36 = .ok (.aload_n 0, 1) := by decide +kernel
theorem dX4_status_37 : decode cX4_status 37 = .ok (.getfield 10, 3) := by decide +kernel
theorem dX4_status_40 : decode cX4_status 40 = .ok (.getfield 120, 3) := by decide +kernel
theorem dX4_status_43 : decode cX4_status 43 = .ok (.ireturn, 1) := by decide +kernel
theorem dX4_status_44 : decode cX4_status 44 = .ok (.aload_n 0, 1) := by decide +kernel
theorem dX4_status_45 : decode cX4_status 45 = .ok (.getfield 16, 3) := by decide +kernel
theorem dX4_status_48 : decode cX4_status 48 = .ok (.getfield 120, 3) := by decide +kernel
theorem dX4_status_51 : decode cX4_status 51 = .ok (.ireturn, 1) := by decide +kernel
theorem dX4_status_52 : decode cX4_status 52 = .ok (.aload_n 0, 1) := by decide +kernel
theorem dX4_status_53 : decode cX4_status 53 = .ok (.getfield 10, 3) := by decide +kernel
theorem dX4_status_56 : decode cX4_status 56 = .ok (.aload_n 0, 1) := by decide +kernel
theorem dX4_status_57 : decode cX4_status 57 = .ok (.getfield 16, 3) := by decide +kernel
theorem dX4_status_60 : decode cX4_status 60 = .ok (.invokevirtual 190, 3) := by decide +kernel
theorem dX4_status_63 : decode cX4_status 63 = .ok (.ifCond .eq 7, 3) := by decide +kernel
theorem dX4_status_66 : decode cX4_status 66 = .ok (.iconst 1, 1) := by decide +kernel
theorem dX4_status_67 : decode cX4_status 67 = .ok (.goto 4, 3) := by decide +kernel
theorem dX4_status_70 : decode cX4_status 70 = .ok (.iconst 0, 1) := by decide +kernel
theorem dX4_status_71 : decode cX4_status 71 = .ok (.ireturn, 1) := by decide +kernel
theorem dX4_status_72 : decode cX4_status 72 = .ok (.aload_n 0, 1) := by decide +kernel
theorem dX4_status_73 : decode cX4_status 73 = .ok (.getfield 10, 3) := by decide +kernel
theorem dX4_status_76 : decode cX4_status 76 = .ok (.aload_n 0, 1) := by decide +kernel
theorem dX4_status_77 : decode cX4_status 77 = .ok (.getfield 16, 3) := by decide +kernel
theorem dX4_status_80 : decode cX4_status 80 = .ok (.invokevirtual 194, 3) := by decide +kernel
theorem dX4_status_83 : decode cX4_status 83 = .ok (.ifCond .eq 7, 3) := by decide +kernel
theorem dX4_status_86 : decode cX4_status 86 = .ok (.iconst 1, 1) := by decide +kernel
theorem dX4_status_87 : decode cX4_status 87 = .ok (.goto 4, 3) := by decide +kernel
theorem dX4_status_90 : decode cX4_status 90 = .ok (.iconst 0, 1) := by decide +kernel
theorem dX4_status_91 : decode cX4_status 91 = .ok (.ireturn, 1) := by decide +kernel
theorem dX4_status_92 : decode cX4_status 92 = .ok (.aload_n 0, 1) := by decide +kernel
theorem dX4_status_93 : decode cX4_status 93 = .ok (.invokevirtual 129, 3) := by decide +kernel
theorem dX4_status_96 : decode cX4_status 96 = .ok (.aload_n 0, 1) := by decide +kernel
theorem dX4_status_97 : decode cX4_status 97 = .ok (.getfield 10, 3) := by decide +kernel
theorem dX4_status_100 : decode cX4_status 100 = .ok (.getfield 132, 3) := by decide +kernel
theorem dX4_status_103 : decode cX4_status 103 = .ok (.getfield 136, 3) := by decide +kernel
theorem dX4_status_106 : decode cX4_status 106 = .ok (.aload_n 0, 1) := by decide +kernel
theorem dX4_status_107 : decode cX4_status 107 = .ok (.getfield 16, 3) := by decide +kernel
theorem dX4_status_110 : decode cX4_status 110 = .ok (.getfield 132, 3) := by decide +kernel
theorem dX4_status_113 : decode cX4_status 113 = .ok (.getfield 136, 3) := by decide +kernel
theorem dX4_status_116 : decode cX4_status 116 = .ok (.iadd, 1) := by decide +kernel
theorem dX4_status_117 : decode cX4_status 117 = .ok (.ireturn, 1) := by decide +kernel
theorem dX4_status_118 : decode cX4_status 118 = .ok (.aload_n 0, 1) := by decide +kernel
theorem dX4_status_119 : decode cX4_status 119 = .ok (.iload_n 1, 1) := by decide +kernel
theorem dX4_status_120 : decode cX4_status 120 = .ok (.invokevirtual 197, 3) := by decide +kernel
theorem dX4_status_123 : decode cX4_status 123 = .ok (.ireturn, 1) := by decide +kernel
theorem dX4_refusalsCounted_0 : decode cX4_refusalsCounted 0 = .ok (.iload_n 1, 1) := by decide +kernel
theorem dX4_refusalsCounted_1 : decode cX4_refusalsCounted 1 = .ok (.bipush 10, 2) := by decide +kernel
theorem dX4_refusalsCounted_3 : decode cX4_refusalsCounted 3 = .ok (.if_icmp .le 9, 3) := by decide +kernel
theorem dX4_refusalsCounted_6 : decode cX4_refusalsCounted 6 = .ok (.iload_n 1, 1) := by decide +kernel
theorem dX4_refusalsCounted_7 : decode cX4_refusalsCounted 7 = .ok (.bipush 16, 2) := by decide +kernel
theorem dX4_refusalsCounted_9 : decode cX4_refusalsCounted 9 = .ok (.if_icmp .le 6, 3) := by decide +kernel
theorem dX4_refusalsCounted_12 : decode cX4_refusalsCounted 12 = .ok (.bipush (-9), 2) := by decide +kernel
theorem dX4_refusalsCounted_14 : decode cX4_refusalsCounted 14 = .ok (.ireturn, 1) := by decide +kernel
theorem dX4_refusalsCounted_15 : decode cX4_refusalsCounted 15 = .ok (.aload_n 0, 1) := by decide +kernel
theorem dX4_refusalsCounted_16 : decode cX4_refusalsCounted 16 = .ok (.getfield 26, 3) := by decide +kernel
theorem dX4_refusalsCounted_19 : decode cX4_refusalsCounted 19 = .ok (.iload_n 1, 1) := by decide +kernel
theorem dX4_refusalsCounted_20 : decode cX4_refusalsCounted 20 = .ok (.bipush 10, 2) := by decide +kernel
theorem dX4_refusalsCounted_22 : decode cX4_refusalsCounted 22 = .ok (.isub, 1) := by decide +kernel
theorem dX4_refusalsCounted_23 : decode cX4_refusalsCounted 23 = .ok (.iaload, 1) := by decide +kernel
theorem dX4_refusalsCounted_24 : decode cX4_refusalsCounted 24 = .ok (.ireturn, 1) := by decide +kernel
theorem dX4_refuse_0 : decode cX4_refuse 0 = .ok (.iload_n 1, 1) := by decide +kernel
theorem dX4_refuse_1 : decode cX4_refuse 1 = .ok (.ifCond .ge 20, 3) := by decide +kernel
theorem dX4_refuse_4 : decode cX4_refuse 4 = .ok (.iload_n 1, 1) := by decide +kernel
theorem dX4_refuse_5 : decode cX4_refuse 5 = .ok (.bipush (-6), 2) := by decide +kernel
theorem dX4_refuse_7 : decode cX4_refuse 7 = .ok (.if_icmp .lt 14, 3) := by decide +kernel
theorem dX4_refuse_10 : decode cX4_refuse 10 = .ok (.aload_n 0, 1) := by decide +kernel
theorem dX4_refuse_11 : decode cX4_refuse 11 = .ok (.getfield 26, 3) := by decide +kernel
theorem dX4_refuse_14 : decode cX4_refuse 14 = .ok (.iload_n 1, 1) := by decide +kernel
theorem dX4_refuse_15 : decode cX4_refuse 15 = .ok (.ineg, 1) := by decide +kernel
theorem dX4_refuse_16 : decode cX4_refuse 16 = .ok (.dup2, 1) := by decide +kernel
theorem dX4_refuse_17 : decode cX4_refuse 17 = .ok (.iaload, 1) := by decide +kernel
theorem dX4_refuse_18 : decode cX4_refuse 18 = .ok (.iconst 1, 1) := by decide +kernel
theorem dX4_refuse_19 : decode cX4_refuse 19 = .ok (.iadd, 1) := by decide +kernel
theorem dX4_refuse_20 : decode cX4_refuse 20 = .ok (.iastore, 1) := by decide +kernel
theorem dX4_refuse_21 : decode cX4_refuse 21 = .ok (.iload_n 1, 1) := by decide +kernel
theorem dX4_refuse_22 : decode cX4_refuse 22 = .ok (.ireturn, 1) := by decide +kernel
theorem dX4_refuseAmongPays_0 : decode cX4_refuseAmongPays 0 = .ok (.ldc 200, 2) := by decide +kernel
theorem dX4_refuseAmongPays_2 : decode cX4_refuseAmongPays 2 = .ok (.aload_n 0, 1) := by decide +kernel
theorem dX4_refuseAmongPays_3 : decode cX4_refuseAmongPays 3 = .ok (.iload_n 1, 1) := by decide +kernel
theorem dX4_refuseAmongPays_4 : decode cX4_refuseAmongPays 4 = .ok (.invokevirtual 34, 3) := by decide +kernel
theorem dX4_refuseAmongPays_7 : decode cX4_refuseAmongPays 7 = .ok (.isub, 1) := by decide +kernel
theorem dX4_refuseAmongPays_8 : decode cX4_refuseAmongPays 8 = .ok (.ireturn, 1) := by decide +kernel
theorem dX4_refuseAmongLongs_0 : decode cX4_refuseAmongLongs 0 = .ok (.ldc2_w 201, 3) := by decide +kernel
theorem dX4_refuseAmongLongs_3 : decode cX4_refuseAmongLongs 3 = .ok (.aload_n 0, 1) := by decide +kernel
theorem dX4_refuseAmongLongs_4 : decode cX4_refuseAmongLongs 4 = .ok (.iload_n 1, 1) := by decide +kernel
theorem dX4_refuseAmongLongs_5 : decode cX4_refuseAmongLongs 5 = .ok (.invokevirtual 34, 3) := by decide +kernel
theorem dX4_refuseAmongLongs_8 : decode cX4_refuseAmongLongs 8 = .ok (.i2l, 1) := by decide +kernel
theorem dX4_refuseAmongLongs_9 : decode cX4_refuseAmongLongs 9 = .ok (.lsub, 1) := by decide +kernel
theorem dX4_refuseAmongLongs_10 : decode cX4_refuseAmongLongs 10 = .ok (.lreturn, 1) := by decide +kernel
theorem dX4_isWho_0 : decode cX4_isWho 0 = .ok (.iload_n 0, 1) := by decide +kernel
theorem dX4_isWho_1 : decode cX4_isWho 1 = .ok (.ifCond .eq 8, 3) := by decide +kernel
theorem dX4_isWho_4 : decode cX4_isWho 4 = .ok (.iload_n 0, 1) := by decide +kernel
theorem dX4_isWho_5 : decode cX4_isWho 5 = .ok (.iconst 1, 1) := by decide +kernel
theorem dX4_isWho_6 : decode cX4_isWho 6 = .ok (.if_icmp .ne 7, 3) := by decide +kernel
theorem dX4_isWho_9 : decode cX4_isWho 9 = .ok (.iconst 1, 1) := by decide +kernel
theorem dX4_isWho_10 : decode cX4_isWho 10 = .ok (.goto 4, 3) := by decide +kernel
theorem dX4_isWho_13 : decode cX4_isWho 13 = .ok (.iconst 0, 1) := by decide +kernel
theorem dX4_isWho_14 : decode cX4_isWho 14 = .ok (.ireturn, 1) := by decide +kernel
theorem dX4_isPlace_0 : decode cX4_isPlace 0 = .ok (.iload_n 1, 1) := by decide +kernel
theorem dX4_isPlace_1 : decode cX4_isPlace 1 = .ok (.invokestatic 61, 3) := by decide +kernel
theorem dX4_isPlace_4 : decode cX4_isPlace 4 = .ok (.ifCond .eq 29, 3) := by decide +kernel
theorem dX4_isPlace_7 : decode cX4_isPlace 7 = .ok (.aload_n 0, 1) := by decide +kernel
theorem dX4_isPlace_8 : decode cX4_isPlace 8 = .ok (.getfield 10, 3) := by decide +kernel
theorem dX4_isPlace_11 : decode cX4_isPlace 11 = .ok (.iload_n 2, 1) := by decide +kernel
theorem dX4_isPlace_12 : decode cX4_isPlace 12 = .ok (.invokevirtual 96, 3) := by decide +kernel
theorem dX4_isPlace_15 : decode cX4_isPlace 15 = .ok (.ifCond .eq 18, 3) := by decide +kernel
theorem dX4_isPlace_18 : decode cX4_isPlace 18 = .ok (.aload_n 0, 1) := by decide +kernel
theorem dX4_isPlace_19 : decode cX4_isPlace 19 = .ok (.getfield 16, 3) := by decide +kernel
theorem dX4_isPlace_22 : decode cX4_isPlace 22 = .ok (.iload_n 3, 1) := by decide +kernel
theorem dX4_isPlace_23 : decode cX4_isPlace 23 = .ok (.invokevirtual 96, 3) := by decide +kernel
theorem dX4_isPlace_26 : decode cX4_isPlace 26 = .ok (.ifCond .eq 7, 3) := by decide +kernel
theorem dX4_isPlace_29 : decode cX4_isPlace 29 = .ok (.iconst 1, 1) := by decide +kernel
theorem dX4_isPlace_30 : decode cX4_isPlace 30 = .ok (.goto 4, 3) := by decide +kernel
theorem dX4_isPlace_33 : decode cX4_isPlace 33 = .ok (.iconst 0, 1) := by decide +kernel
theorem dX4_isPlace_34 : decode cX4_isPlace 34 = .ok (.ireturn, 1) := by decide +kernel
theorem dX4_player_0 : decode cX4_player 0 = .ok (.iload_n 1, 1) := by decide +kernel
theorem dX4_player_1 : decode cX4_player 1 = .ok (.ifCond .ne 10, 3) := by decide +kernel
theorem dX4_player_4 : decode cX4_player 4 = .ok (.aload_n 0, 1) := by decide +kernel
theorem dX4_player_5 : decode cX4_player 5 = .ok (.getfield 10, 3) := by decide +kernel
theorem dX4_player_8 : decode cX4_player 8 = .ok (.goto 7, 3) := by decide +kernel
theorem dX4_player_11 : decode cX4_player 11 = .ok (.aload_n 0, 1) := by decide +kernel
theorem dX4_player_12 : decode cX4_player 12 = .ok (.getfield 16, 3) := by decide +kernel
theorem dX4_player_15 : decode cX4_player 15 = .ok (.areturn, 1) := by decide +kernel
theorem dX4_trayOf_0 : decode cX4_trayOf 0 = .ok (.aload_n 0, 1) := by decide +kernel
theorem dX4_trayOf_1 : decode cX4_trayOf 1 = .ok (.iload_n 1, 1) := by decide +kernel
theorem dX4_trayOf_2 : decode cX4_trayOf 2 = .ok (.invokevirtual 49, 3) := by decide +kernel
theorem dX4_trayOf_5 : decode cX4_trayOf 5 = .ok (.aload_n 0, 1) := by decide +kernel
theorem dX4_trayOf_6 : decode cX4_trayOf 6 = .ok (.iconst 1, 1) := by decide +kernel
theorem dX4_trayOf_7 : decode cX4_trayOf 7 = .ok (.iload_n 1, 1) := by decide +kernel
theorem dX4_trayOf_8 : decode cX4_trayOf 8 = .ok (.isub, 1) := by decide +kernel
theorem dX4_trayOf_9 : decode cX4_trayOf 9 = .ok (.invokevirtual 49, 3) := by decide +kernel
theorem dX4_trayOf_12 : decode cX4_trayOf 12 = .ok (.invokevirtual 203, 3) := by decide +kernel
theorem dX4_trayOf_15 : decode cX4_trayOf 15 = .ok (.areturn, 1) := by decide +kernel
theorem dX4_knowCorners_0 : decode cX4_knowCorners 0 = .ok (.aload_n 0, 1) := by decide +kernel
theorem dX4_knowCorners_1 : decode cX4_knowCorners 1 = .ok (.getfield 30, 3) := by decide +kernel
theorem dX4_knowCorners_4 : decode cX4_knowCorners 4 = .ok (.ifCond .ne 50, 3) := by decide +kernel
theorem dX4_knowCorners_7 : decode cX4_knowCorners 7 = .ok (.aload_n 0, 1) := by decide +kernel
theorem dX4_knowCorners_8 : decode cX4_knowCorners 8 = .ok (.getfield 10, 3) := by decide +kernel
theorem dX4_knowCorners_11 : decode cX4_knowCorners 11 = .ok (.getfield 132, 3) := by decide +kernel
theorem dX4_knowCorners_14 : decode cX4_knowCorners 14 = .ok (.aload_n 0, 1) := by decide +kernel
theorem dX4_knowCorners_15 : decode cX4_knowCorners 15 = .ok (.getfield 10, 3) := by decide +kernel
theorem dX4_knowCorners_18 : decode cX4_knowCorners 18 = .ok (.invokevirtual 99, 3) := by decide +kernel
theorem dX4_knowCorners_21 : decode cX4_knowCorners 21 = .ok (.aload_n 0, 1) := by decide +kernel
theorem dX4_knowCorners_22 : decode cX4_knowCorners 22 = .ok (.getfield 16, 3) := by decide +kernel
theorem dX4_knowCorners_25 : decode cX4_knowCorners 25 = .ok (.invokevirtual 207, 3) := by decide +kernel
theorem dX4_knowCorners_28 : decode cX4_knowCorners 28 = .ok (.aload_n 0, 1) := by decide +kernel
theorem dX4_knowCorners_29 : decode cX4_knowCorners 29 = .ok (.getfield 16, 3) := by decide +kernel
theorem dX4_knowCorners_32 : decode cX4_knowCorners 32 = .ok (.getfield 132, 3) := by decide +kernel
theorem dX4_knowCorners_35 : decode cX4_knowCorners 35 = .ok (.aload_n 0, 1) := by decide +kernel
theorem dX4_knowCorners_36 : decode cX4_knowCorners 36 = .ok (.getfield 16, 3) := by decide +kernel
theorem dX4_knowCorners_39 : decode cX4_knowCorners 39 = .ok (.invokevirtual 99, 3) := by decide +kernel
theorem dX4_knowCorners_42 : decode cX4_knowCorners 42 = .ok (.aload_n 0, 1) := by decide +kernel
theorem dX4_knowCorners_43 : decode cX4_knowCorners 43 = .ok (.getfield 10, 3) := by decide +kernel
theorem dX4_knowCorners_46 : decode cX4_knowCorners 46 = .ok (.invokevirtual 207, 3) := by decide +kernel
theorem dX4_knowCorners_49 : decode cX4_knowCorners 49 = .ok (.aload_n 0, 1) := by decide +kernel
theorem dX4_knowCorners_50 : decode cX4_knowCorners 50 = .ok (.iconst 1, 1) := by decide +kernel
theorem dX4_knowCorners_51 : decode cX4_knowCorners 51 = .ok (.putfield 30, 3) := by decide +kernel
theorem dX4_knowCorners_54 : decode cX4_knowCorners 54 = .ok (.return_, 1) := by decide +kernel
theorem dX4_balancesBefore_0 : decode cX4_balancesBefore 0 = .ok (.iconst 0, 1) := by decide +kernel
theorem dX4_balancesBefore_1 : decode cX4_balancesBefore 1 = .ok (.istore_n 3, 1) := by decide +kernel
theorem dX4_balancesBefore_2 : decode cX4_balancesBefore 2 = .ok (.iconst 0, 1) := by decide +kernel
theorem dX4_balancesBefore_3 : decode cX4_balancesBefore 3 = .ok (.istore 4, 2) := by decide +kernel
theorem dX4_balancesBefore_5 : decode cX4_balancesBefore 5 = .ok (.iload 4, 2) := by decide +kernel
theorem dX4_balancesBefore_7 : decode cX4_balancesBefore 7 = .ok (.aload_n 0, 1) := by decide +kernel
theorem dX4_balancesBefore_8 : decode cX4_balancesBefore 8 = .ok (.getfield 10, 3) := by decide +kernel
theorem dX4_balancesBefore_11 : decode cX4_balancesBefore 11 = .ok (.getfield 132, 3) := by decide +kernel
theorem dX4_balancesBefore_14 : decode cX4_balancesBefore 14 = .ok (.getfield 136, 3) := by decide +kernel
theorem dX4_balancesBefore_17 : decode cX4_balancesBefore 17 = .ok (.if_icmp .ge 50, 3) := by decide +kernel
theorem dX4_balancesBefore_20 : decode cX4_balancesBefore 20 = .ok (.iload 4, 2) := by decide +kernel
theorem dX4_balancesBefore_22 : decode cX4_balancesBefore 22 = .ok (.iload_n 1, 1) := by decide +kernel
theorem dX4_balancesBefore_23 : decode cX4_balancesBefore 23 = .ok (.if_icmp .gt 44, 3) := by decide +kernel
theorem dX4_balancesBefore_26 : decode cX4_balancesBefore 26 = .ok (.iload 4, 2) := by decide +kernel
theorem dX4_balancesBefore_28 : decode cX4_balancesBefore 28 = .ok (.iload_n 1, 1) := by decide +kernel
theorem dX4_balancesBefore_29 : decode cX4_balancesBefore 29 = .ok (.if_icmp .ge 8, 3) := by decide +kernel
theorem dX4_balancesBefore_32 : decode cX4_balancesBefore 32 = .ok (.bipush 69, 2) := by decide +kernel
theorem dX4_balancesBefore_34 : decode cX4_balancesBefore 34 = .ok (.goto 4, 3) := by decide +kernel
theorem dX4_balancesBefore_37 : decode cX4_balancesBefore 37 = .ok (.iload_n 2, 1) := by decide +kernel
theorem dX4_balancesBefore_38 : decode cX4_balancesBefore 38 = .ok (.istore 5, 2) := by decide +kernel
theorem dX4_balancesBefore_40 : decode cX4_balancesBefore 40 = .ok (.iload_n 3, 1) := by decide +kernel
theorem dX4_balancesBefore_41 : decode cX4_balancesBefore 41 = .ok (.aload_n 0, 1) := by decide +kernel
theorem dX4_balancesBefore_42 : decode cX4_balancesBefore 42 = .ok (.aload_n 0, 1) := by decide +kernel
theorem dX4_balancesBefore_43 : decode cX4_balancesBefore 43 = .ok (.getfield 10, 3) := by decide +kernel
theorem dX4_balancesBefore_46 : decode cX4_balancesBefore 46 = .ok (.getfield 132, 3) := by decide +kernel
theorem dX4_balancesBefore_49 : decode cX4_balancesBefore 49 = .ok (.iload 4, 2) := by decide +kernel
theorem dX4_balancesBefore_51 : decode cX4_balancesBefore 51 = .ok (.invokevirtual 141, 3) := by decide +kernel
theorem dX4_balancesBefore_54 : decode cX4_balancesBefore 54 = .ok (.iload 5, 2) := by decide +kernel
theorem dX4_balancesBefore_56 : decode cX4_balancesBefore 56 = .ok (.invokevirtual 211, 3) := by decide +kernel
theorem dX4_balancesBefore_59 : decode cX4_balancesBefore 59 = .ok (.iadd, 1) := by decide +kernel
theorem dX4_balancesBefore_60 : decode cX4_balancesBefore 60 = .ok (.istore_n 3, 1) := by decide +kernel
theorem dX4_balancesBefore_61 : decode cX4_balancesBefore 61 = .ok (.iinc 4 1, 3) := by decide +kernel
theorem dX4_balancesBefore_64 : decode cX4_balancesBefore 64 = .ok (.goto (-59), 3) := by decide +kernel
theorem dX4_balancesBefore_67 : decode cX4_balancesBefore 67 = .ok (.iload_n 3, 1) := by decide +kernel
theorem dX4_balancesBefore_68 : decode cX4_balancesBefore 68 = .ok (.ireturn, 1) := by decide +kernel
theorem dX4_balancesOf_0 : decode cX4_balancesOf 0 = .ok (.aload_n 0, 1) := by decide +kernel
theorem dX4_balancesOf_1 : decode cX4_balancesOf 1 = .ok (.getfield 16, 3) := by decide +kernel
theorem dX4_balancesOf_4 : decode cX4_balancesOf 4 = .ok (.getfield 132, 3) := by decide +kernel
theorem dX4_balancesOf_7 : decode cX4_balancesOf 7 = .ok (.astore_n 3, 1) := by decide +kernel
theorem dX4_balancesOf_8 : decode cX4_balancesOf 8 = .ok (.iconst 0, 1) := by decide +kernel
theorem dX4_balancesOf_9 : decode cX4_balancesOf 9 = .ok (.istore 4, 2) := by decide +kernel
theorem dX4_balancesOf_11 : decode cX4_balancesOf 11 = .ok (.iconst 0, 1) := by decide +kernel
theorem dX4_balancesOf_12 : decode cX4_balancesOf 12 = .ok (.istore 5, 2) := by decide +kernel
theorem dX4_balancesOf_14 : decode cX4_balancesOf 14 = .ok (.iload 5, 2) := by decide +kernel
theorem dX4_balancesOf_16 : decode cX4_balancesOf 16 = .ok (.aload_n 3, 1) := by decide +kernel
theorem dX4_balancesOf_17 : decode cX4_balancesOf 17 = .ok (.getfield 136, 3) := by decide +kernel
theorem dX4_balancesOf_20 : decode cX4_balancesOf 20 = .ok (.if_icmp .ge 44, 3) := by decide +kernel
theorem dX4_balancesOf_23 : decode cX4_balancesOf 23 = .ok (.iload 5, 2) := by decide +kernel
theorem dX4_balancesOf_25 : decode cX4_balancesOf 25 = .ok (.iload_n 2, 1) := by decide +kernel
theorem dX4_balancesOf_26 : decode cX4_balancesOf 26 = .ok (.if_icmp .ge 38, 3) := by decide +kernel
theorem dX4_balancesOf_29 : decode cX4_balancesOf 29 = .ok (.aload_n 3, 1) := by decide +kernel
theorem dX4_balancesOf_30 : decode cX4_balancesOf 30 = .ok (.iload 5, 2) := by decide +kernel
theorem dX4_balancesOf_32 : decode cX4_balancesOf 32 = .ok (.invokevirtual 141, 3) := by decide +kernel
theorem dX4_balancesOf_35 : decode cX4_balancesOf 35 = .ok (.astore 6, 2) := by decide +kernel
theorem dX4_balancesOf_37 : decode cX4_balancesOf 37 = .ok (.aload_n 1, 1) := by decide +kernel
theorem dX4_balancesOf_38 : decode cX4_balancesOf 38 = .ok (.ifnull 20, 3) := by decide +kernel
theorem dX4_balancesOf_41 : decode cX4_balancesOf 41 = .ok (.aload 6, 2) := by decide +kernel
theorem dX4_balancesOf_43 : decode cX4_balancesOf 43 = .ok (.ifnull 15, 3) := by decide +kernel
theorem dX4_balancesOf_46 : decode cX4_balancesOf 46 = .ok (.aload_n 1, 1) := by decide +kernel
theorem dX4_balancesOf_47 : decode cX4_balancesOf 47 = .ok (.aload 6, 2) := by decide +kernel
theorem dX4_balancesOf_49 : decode cX4_balancesOf 49 = .ok (.invokevirtual 86, 3) := by decide +kernel
theorem dX4_balancesOf_52 : decode cX4_balancesOf 52 = .ok (.ifCond .eq 6, 3) := by decide +kernel
theorem dX4_balancesOf_55 : decode cX4_balancesOf 55 = .ok (.iinc 4 1, 3) := by decide +kernel
theorem dX4_balancesOf_58 : decode cX4_balancesOf 58 = .ok (.iinc 5 1, 3) := by decide +kernel
theorem dX4_balancesOf_61 : decode cX4_balancesOf 61 = .ok (.goto (-47), 3) := by decide +kernel
theorem dX4_balancesOf_64 : decode cX4_balancesOf 64 = .ok (.iload 4, 2) := by decide +kernel
theorem dX4_balancesOf_66 : decode cX4_balancesOf 66 = .ok (.ireturn, 1) := by decide +kernel
theorem dX4_pairOf_0 : decode cX4_pairOf 0 = .ok (.iconst 0, 1) := by decide +kernel
theorem dX4_pairOf_1 : decode cX4_pairOf 1 = .ok (.istore_n 2, 1) := by decide +kernel
theorem dX4_pairOf_2 : decode cX4_pairOf 2 = .ok (.iconst 0, 1) := by decide +kernel
theorem dX4_pairOf_3 : decode cX4_pairOf 3 = .ok (.istore_n 3, 1) := by decide +kernel
theorem dX4_pairOf_4 : decode cX4_pairOf 4 = .ok (.iload_n 3, 1) := by decide +kernel
theorem dX4_pairOf_5 : decode cX4_pairOf 5 = .ok (.aload_n 0, 1) := by decide +kernel
theorem dX4_pairOf_6 : decode cX4_pairOf 6 = .ok (.getfield 10, 3) := by decide +kernel
theorem dX4_pairOf_9 : decode cX4_pairOf 9 = .ok (.getfield 132, 3) := by decide +kernel
theorem dX4_pairOf_12 : decode cX4_pairOf 12 = .ok (.getfield 136, 3) := by decide +kernel
theorem dX4_pairOf_15 : decode cX4_pairOf 15 = .ok (.if_icmp .ge 106, 3) := by decide +kernel
theorem dX4_pairOf_18 : decode cX4_pairOf 18 = .ok (.iload_n 2, 1) := by decide +kernel
theorem dX4_pairOf_19 : decode cX4_pairOf 19 = .ok (.iload_n 1, 1) := by decide +kernel
theorem dX4_pairOf_20 : decode cX4_pairOf 20 = .ok (.if_icmp .gt 101, 3) := by decide +kernel
theorem dX4_pairOf_23 : decode cX4_pairOf 23 = .ok (.aload_n 0, 1) := by decide +kernel
theorem dX4_pairOf_24 : decode cX4_pairOf 24 = .ok (.getfield 10, 3) := by decide +kernel
theorem dX4_pairOf_27 : decode cX4_pairOf 27 = .ok (.getfield 132, 3) := by decide +kernel
theorem dX4_pairOf_30 : decode cX4_pairOf 30 = .ok (.iload_n 3, 1) := by decide +kernel
theorem dX4_pairOf_31 : decode cX4_pairOf 31 = .ok (.invokevirtual 141, 3) := by decide +kernel
theorem dX4_pairOf_34 : decode cX4_pairOf 34 = .ok (.astore 4, 2) := by decide +kernel
theorem dX4_pairOf_36 : decode cX4_pairOf 36 = .ok (.iconst 0, 1) := by decide +kernel
theorem dX4_pairOf_37 : decode cX4_pairOf 37 = .ok (.istore 5, 2) := by decide +kernel
theorem dX4_pairOf_39 : decode cX4_pairOf 39 = .ok (.iload 5, 2) := by decide +kernel
theorem dX4_pairOf_41 : decode cX4_pairOf 41 = .ok (.aload_n 0, 1) := by decide +kernel
theorem dX4_pairOf_42 : decode cX4_pairOf 42 = .ok (.getfield 16, 3) := by decide +kernel
theorem dX4_pairOf_45 : decode cX4_pairOf 45 = .ok (.getfield 132, 3) := by decide +kernel
theorem dX4_pairOf_48 : decode cX4_pairOf 48 = .ok (.getfield 136, 3) := by decide +kernel
theorem dX4_pairOf_51 : decode cX4_pairOf 51 = .ok (.if_icmp .ge 64, 3) := by decide +kernel
theorem dX4_pairOf_54 : decode cX4_pairOf 54 = .ok (.iload_n 2, 1) := by decide +kernel
theorem dX4_pairOf_55 : decode cX4_pairOf 55 = .ok (.iload_n 1, 1) := by decide +kernel
theorem dX4_pairOf_56 : decode cX4_pairOf 56 = .ok (.if_icmp .gt 59, 3) := by decide +kernel
theorem dX4_pairOf_59 : decode cX4_pairOf 59 = .ok (.aload_n 0, 1) := by decide +kernel
theorem dX4_pairOf_60 : decode cX4_pairOf 60 = .ok (.getfield 16, 3) := by decide +kernel
theorem dX4_pairOf_63 : decode cX4_pairOf 63 = .ok (.getfield 132, 3) := by decide +kernel
theorem dX4_pairOf_66 : decode cX4_pairOf 66 = .ok (.iload 5, 2) := by decide +kernel
theorem dX4_pairOf_68 : decode cX4_pairOf 68 = .ok (.invokevirtual 141, 3) := by decide +kernel
theorem dX4_pairOf_71 : decode cX4_pairOf 71 = .ok (.astore 6, 2) := by decide +kernel
theorem dX4_pairOf_73 : decode cX4_pairOf 73 = .ok (.aload 4, 2) := by decide +kernel
theorem dX4_pairOf_75 : decode cX4_pairOf 75 = .ok (.ifnull 34, 3) := by decide +kernel
theorem dX4_pairOf_78 : decode cX4_pairOf 78 = .ok (.aload 6, 2) := by decide +kernel
theorem dX4_pairOf_80 : decode cX4_pairOf 80 = .ok (.ifnull 29, 3) := by decide +kernel
theorem dX4_pairOf_83 : decode cX4_pairOf 83 = .ok (.aload 4, 2) := by decide +kernel
theorem dX4_pairOf_85 : decode cX4_pairOf 85 = .ok (.aload 6, 2) := by decide +kernel
theorem dX4_pairOf_87 : decode cX4_pairOf 87 = .ok (.invokevirtual 86, 3) := by decide +kernel
theorem dX4_pairOf_90 : decode cX4_pairOf 90 = .ok (.ifCond .eq 19, 3) := by decide +kernel
theorem dX4_pairOf_93 : decode cX4_pairOf 93 = .ok (.iload_n 2, 1) := by decide +kernel
theorem dX4_pairOf_94 : decode cX4_pairOf 94 = .ok (.iload_n 1, 1) := by decide +kernel
theorem dX4_pairOf_95 : decode cX4_pairOf 95 = .ok (.if_icmp .ne 11, 3) := by decide +kernel
theorem dX4_pairOf_98 : decode cX4_pairOf 98 = .ok (.iload_n 3, 1) := by decide +kernel
theorem dX4_pairOf_99 : decode cX4_pairOf 99 = .ok (.bipush 69, 2) := by decide +kernel
theorem dX4_pairOf_101 : decode cX4_pairOf 101 = .ok (.imul, 1) := by decide +kernel
theorem dX4_pairOf_102 : decode cX4_pairOf 102 = .ok (.iload 5, 2) := by decide +kernel
theorem dX4_pairOf_104 : decode cX4_pairOf 104 = .ok (.iadd, 1) := by decide +kernel
theorem dX4_pairOf_105 : decode cX4_pairOf 105 = .ok (.ireturn, 1) := by decide +kernel
theorem dX4_pairOf_106 : decode cX4_pairOf 106 = .ok (.iinc 2 1, 3) := by decide +kernel
theorem dX4_pairOf_109 : decode cX4_pairOf 109 = .ok (.iinc 5 1, 3) := by decide +kernel
theorem dX4_pairOf_112 : decode cX4_pairOf 112 = .ok (.goto (-73), 3) := by decide +kernel
theorem dX4_pairOf_115 : decode cX4_pairOf 115 = .ok (.iinc 3 1, 3) := by decide +kernel
theorem dX4_pairOf_118 : decode cX4_pairOf 118 = .ok (.goto (-114), 3) := by decide +kernel
theorem dX4_pairOf_121 : decode cX4_pairOf 121 = .ok (.bipush (-9), 2) := by decide +kernel
theorem dX4_pairOf_123 : decode cX4_pairOf 123 = .ok (.ireturn, 1) := by decide +kernel
theorem dX4_kindOf_0 : decode cX4_kindOf 0 = .ok (.aload_n 1, 1) := by decide +kernel
theorem dX4_kindOf_1 : decode cX4_kindOf 1 = .ok (.getfield 90, 3) := by decide +kernel
theorem dX4_kindOf_4 : decode cX4_kindOf 4 = .ok (.invokestatic 215, 3) := by decide +kernel
theorem dX4_kindOf_7 : decode cX4_kindOf 7 = .ok (.istore_n 3, 1) := by decide +kernel
theorem dX4_kindOf_8 : decode cX4_kindOf 8 = .ok (.aload_n 2, 1) := by decide +kernel
theorem dX4_kindOf_9 : decode cX4_kindOf 9 = .ok (.getfield 90, 3) := by decide +kernel
theorem dX4_kindOf_12 : decode cX4_kindOf 12 = .ok (.invokestatic 215, 3) := by decide +kernel
theorem dX4_kindOf_15 : decode cX4_kindOf 15 = .ok (.istore 4, 2) := by decide +kernel
theorem dX4_kindOf_17 : decode cX4_kindOf 17 = .ok (.iload_n 3, 1) := by decide +kernel
theorem dX4_kindOf_18 : decode cX4_kindOf 18 = .ok (.iconst 1, 1) := by decide +kernel
theorem dX4_kindOf_19 : decode cX4_kindOf 19 = .ok (.if_icmp .ne 49, 3) := by decide +kernel
theorem dX4_kindOf_22 : decode cX4_kindOf 22 = .ok (.iload 4, 2) := by decide +kernel
theorem dX4_kindOf_24 : decode cX4_kindOf 24 = .ok (.iconst 1, 1) := by decide +kernel
theorem dX4_kindOf_25 : decode cX4_kindOf 25 = .ok (.if_icmp .ne 43, 3) := by decide +kernel
theorem dX4_kindOf_28 : decode cX4_kindOf 28 = .ok (.aload_n 1, 1) := by decide +kernel
theorem dX4_kindOf_29 : decode cX4_kindOf 29 = .ok (.getfield 90, 3) := by decide +kernel
theorem dX4_kindOf_32 : decode cX4_kindOf 32 = .ok (.aload_n 2, 1) := by decide +kernel
theorem dX4_kindOf_33 : decode cX4_kindOf 33 = .ok (.getfield 80, 3) := by decide +kernel
theorem dX4_kindOf_36 : decode cX4_kindOf 36 = .ok (.if_icmp .ne 18, 3) := by decide +kernel
theorem dX4_kindOf_39 : decode cX4_kindOf 39 = .ok (.aload_n 2, 1) := by decide +kernel
theorem dX4_kindOf_40 : decode cX4_kindOf 40 = .ok (.getfield 90, 3) := by decide +kernel
theorem dX4_kindOf_43 : decode cX4_kindOf 43 = .ok (.aload_n 1, 1) := by decide +kernel
theorem dX4_kindOf_44 : decode cX4_kindOf 44 = .ok (.getfield 80, 3) := by decide +kernel
theorem dX4_kindOf_47 : decode cX4_kindOf 47 = .ok (.if_icmp .ne 7, 3) := by decide +kernel
theorem dX4_kindOf_50 : decode cX4_kindOf 50 = .ok (.iconst 1, 1) := by decide +kernel
theorem dX4_kindOf_51 : decode cX4_kindOf 51 = .ok (.goto 4, 3) := by decide +kernel
theorem dX4_kindOf_54 : decode cX4_kindOf 54 = .ok (.iconst 0, 1) := by decide +kernel
theorem dX4_kindOf_55 : decode cX4_kindOf 55 = .ok (.istore 5, 2) := by decide +kernel
theorem dX4_kindOf_57 : decode cX4_kindOf 57 = .ok (.iload 5, 2) := by decide +kernel
theorem dX4_kindOf_59 : decode cX4_kindOf 59 = .ok (.ifCond .eq 7, 3) := by decide +kernel
theorem dX4_kindOf_62 : decode cX4_kindOf 62 = .ok (.iconst 4, 1) := by decide +kernel
theorem dX4_kindOf_63 : decode cX4_kindOf 63 = .ok (.goto 4, 3) := by decide +kernel
theorem dX4_kindOf_66 : decode cX4_kindOf 66 = .ok (.iconst 3, 1) := by decide +kernel
theorem dX4_kindOf_67 : decode cX4_kindOf 67 = .ok (.ireturn, 1) := by decide +kernel
theorem dX4_kindOf_68 : decode cX4_kindOf 68 = .ok (.iload_n 3, 1) := by decide +kernel
theorem dX4_kindOf_69 : decode cX4_kindOf 69 = .ok (.aload_n 0, 1) := by decide +kernel
theorem dX4_kindOf_70 : decode cX4_kindOf 70 = .ok (.getfield 10, 3) := by decide +kernel
theorem dX4_kindOf_73 : decode cX4_kindOf 73 = .ok (.getfield 120, 3) := by decide +kernel
theorem dX4_kindOf_76 : decode cX4_kindOf 76 = .ok (.if_icmp .ne 17, 3) := by decide +kernel
theorem dX4_kindOf_79 : decode cX4_kindOf 79 = .ok (.iload 4, 2) := by decide +kernel
theorem dX4_kindOf_81 : decode cX4_kindOf 81 = .ok (.aload_n 0, 1) := by decide +kernel
theorem dX4_kindOf_82 : decode cX4_kindOf 82 = .ok (.getfield 16, 3) := by decide +kernel
theorem dX4_kindOf_85 : decode cX4_kindOf 85 = .ok (.getfield 120, 3) := by decide +kernel
theorem dX4_kindOf_88 : decode cX4_kindOf 88 = .ok (.if_icmp .ne 5, 3) := by decide +kernel
theorem dX4_kindOf_91 : decode cX4_kindOf 91 = .ok (.iconst 2, 1) := by decide +kernel
theorem dX4_kindOf_92 : decode cX4_kindOf 92 = .ok (.ireturn, 1) := by decide +kernel
theorem dX4_kindOf_93 : decode cX4_kindOf 93 = .ok (.iload_n 3, 1) := by decide +kernel
theorem dX4_kindOf_94 : decode cX4_kindOf 94 = .ok (.iload 4, 2) := by decide +kernel
theorem dX4_kindOf_96 : decode cX4_kindOf 96 = .ok (.if_icmp .ne 7, 3) := by decide +kernel
theorem dX4_kindOf_99 : decode cX4_kindOf 99 = .ok (.iconst 1, 1) := by decide +kernel
theorem dX4_kindOf_100 : decode cX4_kindOf 100 = .ok (.goto 4, 3) := by decide +kernel
theorem dX4_kindOf_103 : decode cX4_kindOf 103 = .ok (.iconst 0, 1) := by decide +kernel
theorem dX4_kindOf_104 : decode cX4_kindOf 104 = .ok (.ireturn, 1) := by decide +kernel
theorem dX4_hasBit_0 : decode cX4_hasBit 0 = .ok (.iload_n 0, 1) := by decide +kernel
theorem dX4_hasBit_1 : decode cX4_hasBit 1 = .ok (.iload_n 1, 1) := by decide +kernel
theorem dX4_hasBit_2 : decode cX4_hasBit 2 = .ok (.ishr, 1) := by decide +kernel
theorem dX4_hasBit_3 : decode cX4_hasBit 3 = .ok (.iconst 1, 1) := by decide +kernel
theorem dX4_hasBit_4 : decode cX4_hasBit 4 = .ok (.iand, 1) := by decide +kernel
theorem dX4_hasBit_5 : decode cX4_hasBit 5 = .ok (.iconst 1, 1) := by decide +kernel
theorem dX4_hasBit_6 : decode cX4_hasBit 6 = .ok (.if_icmp .ne 7, 3) := by decide +kernel
theorem dX4_hasBit_9 : decode cX4_hasBit 9 = .ok (.iconst 1, 1) := by decide +kernel
theorem dX4_hasBit_10 : decode cX4_hasBit 10 = .ok (.goto 4, 3) := by decide +kernel
theorem dX4_hasBit_13 : decode cX4_hasBit 13 = .ok (.iconst 0, 1) := by decide +kernel
theorem dX4_hasBit_14 : decode cX4_hasBit 14 = .ok (.ireturn, 1) := by decide +kernel
theorem dX4_firstOf_0 : decode cX4_firstOf 0 = .ok (.iconst 0, 1) := by decide +kernel
theorem dX4_firstOf_1 : decode cX4_firstOf 1 = .ok (.istore_n 1, 1) := by decide +kernel
theorem dX4_firstOf_2 : decode cX4_firstOf 2 = .ok (.iload_n 1, 1) := by decide +kernel
theorem dX4_firstOf_3 : decode cX4_firstOf 3 = .ok (.iconst 4, 1) := by decide +kernel
theorem dX4_firstOf_4 : decode cX4_firstOf 4 = .ok (.if_icmp .ge 19, 3) := by decide +kernel
theorem dX4_firstOf_7 : decode cX4_firstOf 7 = .ok (.iload_n 0, 1) := by decide +kernel
theorem dX4_firstOf_8 : decode cX4_firstOf 8 = .ok (.iload_n 1, 1) := by decide +kernel
theorem dX4_firstOf_9 : decode cX4_firstOf 9 = .ok (.invokestatic 220, 3) := by decide +kernel
theorem dX4_firstOf_12 : decode cX4_firstOf 12 = .ok (.ifCond .eq 5, 3) := by decide +kernel
theorem dX4_firstOf_15 : decode cX4_firstOf 15 = .ok (.iload_n 1, 1) := by decide +kernel
theorem dX4_firstOf_16 : decode cX4_firstOf 16 = .ok (.ireturn, 1) := by decide +kernel
theorem dX4_firstOf_17 : decode cX4_firstOf 17 = .ok (.iinc 1 1, 3) := by decide +kernel
theorem dX4_firstOf_20 : decode cX4_firstOf 20 = .ok (.goto (-18), 3) := by decide +kernel
theorem dX4_firstOf_23 : decode cX4_firstOf 23 = .ok (.bipush (-9), 2) := by decide +kernel
theorem dX4_firstOf_25 : decode cX4_firstOf 25 = .ok (.ireturn, 1) := by decide +kernel
theorem dX4_lowest_0 : decode cX4_lowest 0 = .ok (.lload_n 0, 1) := by decide +kernel
theorem dX4_lowest_1 : decode cX4_lowest 1 = .ok (.invokestatic 224, 3) := by decide +kernel
theorem dX4_lowest_4 : decode cX4_lowest 4 = .ok (.lload_n 2, 1) := by decide +kernel
theorem dX4_lowest_5 : decode cX4_lowest 5 = .ok (.invokestatic 230, 3) := by decide +kernel
theorem dX4_lowest_8 : decode cX4_lowest 8 = .ok (.lstore 5, 2) := by decide +kernel
theorem dX4_lowest_10 : decode cX4_lowest 10 = .ok (.lload 5, 2) := by decide +kernel
theorem dX4_lowest_12 : decode cX4_lowest 12 = .ok (.lconst 0, 1) := by decide +kernel
theorem dX4_lowest_13 : decode cX4_lowest 13 = .ok (.lcmp, 1) := by decide +kernel
theorem dX4_lowest_14 : decode cX4_lowest 14 = .ok (.ifCond .gt 5, 3) := by decide +kernel
theorem dX4_lowest_17 : decode cX4_lowest 17 = .ok (.lconst 0, 1) := by decide +kernel
theorem dX4_lowest_18 : decode cX4_lowest 18 = .ok (.lreturn, 1) := by decide +kernel
theorem dX4_lowest_19 : decode cX4_lowest 19 = .ok (.iload 4, 2) := by decide +kernel
theorem dX4_lowest_21 : decode cX4_lowest 21 = .ok (.ifCond .ne 10, 3) := by decide +kernel
theorem dX4_lowest_24 : decode cX4_lowest 24 = .ok (.lload_n 0, 1) := by decide +kernel
theorem dX4_lowest_25 : decode cX4_lowest 25 = .ok (.lload 5, 2) := by decide +kernel
theorem dX4_lowest_27 : decode cX4_lowest 27 = .ok (.ldiv, 1) := by decide +kernel
theorem dX4_lowest_28 : decode cX4_lowest 28 = .ok (.goto 7, 3) := by decide +kernel
theorem dX4_lowest_31 : decode cX4_lowest 31 = .ok (.lload_n 2, 1) := by decide +kernel
theorem dX4_lowest_32 : decode cX4_lowest 32 = .ok (.lload 5, 2) := by decide +kernel
theorem dX4_lowest_34 : decode cX4_lowest 34 = .ok (.ldiv, 1) := by decide +kernel
theorem dX4_lowest_35 : decode cX4_lowest 35 = .ok (.lreturn, 1) := by decide +kernel
theorem dX4_commonFactor_0 : decode cX4_commonFactor 0 = .ok (.lload_n 0, 1) := by decide +kernel
theorem dX4_commonFactor_1 : decode cX4_commonFactor 1 = .ok (.lstore 4, 2) := by decide +kernel
theorem dX4_commonFactor_3 : decode cX4_commonFactor 3 = .ok (.lload_n 2, 1) := by decide +kernel
theorem dX4_commonFactor_4 : decode cX4_commonFactor 4 = .ok (.lstore 6, 2) := by decide +kernel
theorem dX4_commonFactor_6 : decode cX4_commonFactor 6 = .ok (.iconst 0, 1) := by decide +kernel
theorem dX4_commonFactor_7 : decode cX4_commonFactor 7 = .ok (.istore 8, 2) := by decide +kernel
theorem dX4_commonFactor_9 : decode cX4_commonFactor 9 = .ok (.iload 8, 2) := by decide +kernel
theorem dX4_commonFactor_11 : decode cX4_commonFactor 11 = .ok (.bipush 100, 2) := by decide +kernel
theorem dX4_commonFactor_13 : decode cX4_commonFactor 13 = .ok (.if_icmp .ge 31, 3) := by decide +kernel
theorem dX4_commonFactor_16 : decode cX4_commonFactor 16 = .ok (.lload 6, 2) := by decide +kernel
theorem dX4_commonFactor_18 : decode cX4_commonFactor 18 = .ok (.lconst 0, 1) := by decide +kernel
theorem dX4_commonFactor_19 : decode cX4_commonFactor 19 = .ok (.lcmp, 1) := by decide +kernel
theorem dX4_commonFactor_20 : decode cX4_commonFactor 20 = .ok (.ifCond .eq 24, 3) := by decide +kernel
theorem dX4_commonFactor_23 : decode cX4_commonFactor 23 = .ok (.lload 4, 2) := by decide +kernel
theorem dX4_commonFactor_25 : decode cX4_commonFactor 25 = .ok (.lload 6, 2) := by decide +kernel
theorem dX4_commonFactor_27 : decode cX4_commonFactor 27 = .ok (.lrem, 1) := by decide +kernel
theorem dX4_commonFactor_28 : decode cX4_commonFactor 28 = .ok (.lstore 9, 2) := by decide +kernel
theorem dX4_commonFactor_30 : decode cX4_commonFactor 30 = .ok (.lload 6, 2) := by decide +kernel
theorem dX4_commonFactor_32 : decode cX4_commonFactor 32 = .ok (.lstore 4, 2) := by decide +kernel
theorem dX4_commonFactor_34 : decode cX4_commonFactor 34 = .ok (.lload 9, 2) := by decide +kernel
theorem dX4_commonFactor_36 : decode cX4_commonFactor 36 = .ok (.lstore 6, 2) := by decide +kernel
theorem dX4_commonFactor_38 : decode cX4_commonFactor 38 = .ok (.iinc 8 1, 3) := by decide +kernel
theorem dX4_commonFactor_41 : decode cX4_commonFactor 41 = .ok (.goto (-32), 3) := by decide +kernel
theorem dX4_commonFactor_44 : decode cX4_commonFactor 44 = .ok (.lload 4, 2) := by decide +kernel
theorem dX4_commonFactor_46 : decode cX4_commonFactor 46 = .ok (.lreturn, 1) := by decide +kernel
theorem dJ6_bitCount_0f7a4_0 : decode cJ6_bitCount_0f7a4 0 = .ok (.iload_n 0, 1) := by decide +kernel
theorem dJ6_bitCount_0f7a4_1 : decode cJ6_bitCount_0f7a4 1 = .ok (.iload_n 0, 1) := by decide +kernel
theorem dJ6_bitCount_0f7a4_2 : decode cJ6_bitCount_0f7a4 2 = .ok (.iconst 1, 1) := by decide +kernel
theorem dJ6_bitCount_0f7a4_3 : decode cJ6_bitCount_0f7a4 3 = .ok (.iushr, 1) := by decide +kernel
theorem dJ6_bitCount_0f7a4_4 : decode cJ6_bitCount_0f7a4 4 = .ok (.ldc_w 265, 3) := by decide +kernel
theorem dJ6_bitCount_0f7a4_7 : decode cJ6_bitCount_0f7a4 7 = .ok (.iand, 1) := by decide +kernel
theorem dJ6_bitCount_0f7a4_8 : decode cJ6_bitCount_0f7a4 8 = .ok (.isub, 1) := by decide +kernel
theorem dJ6_bitCount_0f7a4_9 : decode cJ6_bitCount_0f7a4 9 = .ok (.istore_n 0, 1) := by decide +kernel
theorem dJ6_bitCount_0f7a4_10 : decode cJ6_bitCount_0f7a4 10 = .ok (.iload_n 0, 1) := by decide +kernel
theorem dJ6_bitCount_0f7a4_11 : decode cJ6_bitCount_0f7a4 11 = .ok (.ldc_w 266, 3) := by decide +kernel
theorem dJ6_bitCount_0f7a4_14 : decode cJ6_bitCount_0f7a4 14 = .ok (.iand, 1) := by decide +kernel
theorem dJ6_bitCount_0f7a4_15 : decode cJ6_bitCount_0f7a4 15 = .ok (.iload_n 0, 1) := by decide +kernel
theorem dJ6_bitCount_0f7a4_16 : decode cJ6_bitCount_0f7a4 16 = .ok (.iconst 2, 1) := by decide +kernel
theorem dJ6_bitCount_0f7a4_17 : decode cJ6_bitCount_0f7a4 17 = .ok (.iushr, 1) := by decide +kernel
theorem dJ6_bitCount_0f7a4_18 : decode cJ6_bitCount_0f7a4 18 = .ok (.ldc_w 266, 3) := by decide +kernel
theorem dJ6_bitCount_0f7a4_21 : decode cJ6_bitCount_0f7a4 21 = .ok (.iand, 1) := by decide +kernel
theorem dJ6_bitCount_0f7a4_22 : decode cJ6_bitCount_0f7a4 22 = .ok (.iadd, 1) := by decide +kernel
theorem dJ6_bitCount_0f7a4_23 : decode cJ6_bitCount_0f7a4 23 = .ok (.istore_n 0, 1) := by decide +kernel
theorem dJ6_bitCount_0f7a4_24 : decode cJ6_bitCount_0f7a4 24 = .ok (.iload_n 0, 1) := by decide +kernel
theorem dJ6_bitCount_0f7a4_25 : decode cJ6_bitCount_0f7a4 25 = .ok (.iload_n 0, 1) := by decide +kernel
theorem dJ6_bitCount_0f7a4_26 : decode cJ6_bitCount_0f7a4 26 = .ok (.iconst 4, 1) := by decide +kernel
theorem dJ6_bitCount_0f7a4_27 : decode cJ6_bitCount_0f7a4 27 = .ok (.iushr, 1) := by decide +kernel
theorem dJ6_bitCount_0f7a4_28 : decode cJ6_bitCount_0f7a4 28 = .ok (.iadd, 1) := by decide +kernel
theorem dJ6_bitCount_0f7a4_29 : decode cJ6_bitCount_0f7a4 29 = .ok (.ldc_w 267, 3) := by decide +kernel
theorem dJ6_bitCount_0f7a4_32 : decode cJ6_bitCount_0f7a4 32 = .ok (.iand, 1) := by decide +kernel
theorem dJ6_bitCount_0f7a4_33 : decode cJ6_bitCount_0f7a4 33 = .ok (.istore_n 0, 1) := by decide +kernel
theorem dJ6_bitCount_0f7a4_34 : decode cJ6_bitCount_0f7a4 34 = .ok (.iload_n 0, 1) := by decide +kernel
theorem dJ6_bitCount_0f7a4_35 : decode cJ6_bitCount_0f7a4 35 = .ok (.iload_n 0, 1) := by decide +kernel
theorem dJ6_bitCount_0f7a4_36 : decode cJ6_bitCount_0f7a4 36 = .ok (.bipush 8, 2) := by decide +kernel
theorem dJ6_bitCount_0f7a4_38 : decode cJ6_bitCount_0f7a4 38 = .ok (.iushr, 1) := by decide +kernel
theorem dJ6_bitCount_0f7a4_39 : decode cJ6_bitCount_0f7a4 39 = .ok (.iadd, 1) := by decide +kernel
theorem dJ6_bitCount_0f7a4_40 : decode cJ6_bitCount_0f7a4 40 = .ok (.istore_n 0, 1) := by decide +kernel
theorem dJ6_bitCount_0f7a4_41 : decode cJ6_bitCount_0f7a4 41 = .ok (.iload_n 0, 1) := by decide +kernel
theorem dJ6_bitCount_0f7a4_42 : decode cJ6_bitCount_0f7a4 42 = .ok (.iload_n 0, 1) := by decide +kernel
theorem dJ6_bitCount_0f7a4_43 : decode cJ6_bitCount_0f7a4 43 = .ok (.bipush 16, 2) := by decide +kernel
theorem dJ6_bitCount_0f7a4_45 : decode cJ6_bitCount_0f7a4 45 = .ok (.iushr, 1) := by decide +kernel
theorem dJ6_bitCount_0f7a4_46 : decode cJ6_bitCount_0f7a4 46 = .ok (.iadd, 1) := by decide +kernel
theorem dJ6_bitCount_0f7a4_47 : decode cJ6_bitCount_0f7a4 47 = .ok (.istore_n 0, 1) := by decide +kernel
theorem dJ6_bitCount_0f7a4_48 : decode cJ6_bitCount_0f7a4 48 = .ok (.iload_n 0, 1) := by decide +kernel
theorem dJ6_bitCount_0f7a4_49 : decode cJ6_bitCount_0f7a4 49 = .ok (.bipush 63, 2) := by decide +kernel
theorem dJ6_bitCount_0f7a4_51 : decode cJ6_bitCount_0f7a4 51 = .ok (.iand, 1) := by decide +kernel
theorem dJ6_bitCount_0f7a4_52 : decode cJ6_bitCount_0f7a4 52 = .ok (.ireturn, 1) := by decide +kernel
theorem dJ9_abs_0f7a4_0 : decode cJ9_abs_0f7a4 0 = .ok (.iload_n 0, 1) := by decide +kernel
theorem dJ9_abs_0f7a4_1 : decode cJ9_abs_0f7a4 1 = .ok (.ifCond .ge 8, 3) := by decide +kernel
theorem dJ9_abs_0f7a4_4 : decode cJ9_abs_0f7a4 4 = .ok (.iload_n 0, 1) := by decide +kernel
theorem dJ9_abs_0f7a4_5 : decode cJ9_abs_0f7a4 5 = .ok (.ineg, 1) := by decide +kernel
theorem dJ9_abs_0f7a4_6 : decode cJ9_abs_0f7a4 6 = .ok (.goto 4, 3) := by decide +kernel
theorem dJ9_abs_0f7a4_9 : decode cJ9_abs_0f7a4 9 = .ok (.iload_n 0, 1) := by decide +kernel
theorem dJ9_abs_0f7a4_10 : decode cJ9_abs_0f7a4 10 = .ok (.ireturn, 1) := by decide +kernel
theorem dJ9_abs_067f4_0 : decode cJ9_abs_067f4 0 = .ok (.lload_n 0, 1) := by decide +kernel
theorem dJ9_abs_067f4_1 : decode cJ9_abs_067f4 1 = .ok (.lconst 0, 1) := by decide +kernel
theorem dJ9_abs_067f4_2 : decode cJ9_abs_067f4 2 = .ok (.lcmp, 1) := by decide +kernel
theorem dJ9_abs_067f4_3 : decode cJ9_abs_067f4 3 = .ok (.ifCond .ge 8, 3) := by decide +kernel
theorem dJ9_abs_067f4_6 : decode cJ9_abs_067f4 6 = .ok (.lload_n 0, 1) := by decide +kernel
theorem dJ9_abs_067f4_7 : decode cJ9_abs_067f4 7 = .ok (.lneg, 1) := by decide +kernel
theorem dJ9_abs_067f4_8 : decode cJ9_abs_067f4 8 = .ok (.goto 4, 3) := by decide +kernel
theorem dJ9_abs_067f4_11 : decode cJ9_abs_067f4 11 = .ok (.lload_n 0, 1) := by decide +kernel
theorem dJ9_abs_067f4_12 : decode cJ9_abs_067f4 12 = .ok (.lreturn, 1) := by decide +kernel
theorem dJ9_max_7cf53_0 : decode cJ9_max_7cf53 0 = .ok (.iload_n 0, 1) := by decide +kernel
theorem dJ9_max_7cf53_1 : decode cJ9_max_7cf53 1 = .ok (.iload_n 1, 1) := by decide +kernel
theorem dJ9_max_7cf53_2 : decode cJ9_max_7cf53 2 = .ok (.if_icmp .lt 7, 3) := by decide +kernel
theorem dJ9_max_7cf53_5 : decode cJ9_max_7cf53 5 = .ok (.iload_n 0, 1) := by decide +kernel
theorem dJ9_max_7cf53_6 : decode cJ9_max_7cf53 6 = .ok (.goto 4, 3) := by decide +kernel
theorem dJ9_max_7cf53_9 : decode cJ9_max_7cf53 9 = .ok (.iload_n 1, 1) := by decide +kernel
theorem dJ9_max_7cf53_10 : decode cJ9_max_7cf53 10 = .ok (.ireturn, 1) := by decide +kernel
theorem dJ9_min_7cf53_0 : decode cJ9_min_7cf53 0 = .ok (.iload_n 0, 1) := by decide +kernel
theorem dJ9_min_7cf53_1 : decode cJ9_min_7cf53 1 = .ok (.iload_n 1, 1) := by decide +kernel
theorem dJ9_min_7cf53_2 : decode cJ9_min_7cf53 2 = .ok (.if_icmp .gt 7, 3) := by decide +kernel
theorem dJ9_min_7cf53_5 : decode cJ9_min_7cf53 5 = .ok (.iload_n 0, 1) := by decide +kernel
theorem dJ9_min_7cf53_6 : decode cJ9_min_7cf53 6 = .ok (.goto 4, 3) := by decide +kernel
theorem dJ9_min_7cf53_9 : decode cJ9_min_7cf53 9 = .ok (.iload_n 1, 1) := by decide +kernel
theorem dJ9_min_7cf53_10 : decode cJ9_min_7cf53 10 = .ok (.ireturn, 1) := by decide +kernel
