theorem dX11_walkers_106 : decode cX11_walkers 106 = .ok (.getfield 308, 3) := by decide +kernel
theorem dX11_walkers_109 : decode cX11_walkers 109 = .ok (.iload 8, 2) := by decide +kernel
theorem dX11_walkers_111 : decode cX11_walkers 111 = .ok (.iconst 1, 1) := by decide +kernel
theorem dX11_walkers_112 : decode cX11_walkers 112 = .ok (.iadd, 1) := by decide +kernel
theorem dX11_walkers_113 : decode cX11_walkers 113 = .ok (.invokestatic 159, 3) := by decide +kernel
theorem dX11_walkers_116 : decode cX11_walkers 116 = .ok (.aload 5, 2) := by decide +kernel
theorem dX11_walkers_118 : decode cX11_walkers 118 = .ok (.getfield 308, 3) := by decide +kernel
theorem dX11_walkers_121 : decode cX11_walkers 121 = .ok (.iload 8, 2) := by decide +kernel
theorem dX11_walkers_123 : decode cX11_walkers 123 = .ok (.iconst 2, 1) := by decide +kernel
theorem dX11_walkers_124 : decode cX11_walkers 124 = .ok (.iadd, 1) := by decide +kernel
theorem dX11_walkers_125 : decode cX11_walkers 125 = .ok (.invokestatic 159, 3) := by decide +kernel
theorem dX11_walkers_128 : decode cX11_walkers 128 = .ok (.invokevirtual 326, 3) := by decide +kernel
theorem dX11_walkers_131 : decode cX11_walkers 131 = .ok (.ifCond .lt 6, 3) := by decide +kernel
theorem dX11_walkers_134 : decode cX11_walkers 134 = .ok (.iinc 6 1, 3) := by decide +kernel
theorem dX11_walkers_137 : decode cX11_walkers 137 = .ok (.iinc 7 1, 3) := by decide +kernel
theorem dX11_walkers_140 : decode cX11_walkers 140 = .ok (.goto (-76), 3) := by decide +kernel
theorem dX11_walkers_143 : decode cX11_walkers 143 = .ok (.iload 6, 2) := by decide +kernel
theorem dX11_walkers_145 : decode cX11_walkers 145 = .ok (.ireturn, 1) := by decide +kernel
theorem dX11_taken_0 : decode cX11_taken 0 = .ok (.iload_n 2, 1) := by decide +kernel
theorem dX11_taken_1 : decode cX11_taken 1 = .ok (.bipush 6, 2) := by decide +kernel
theorem dX11_taken_3 : decode cX11_taken 3 = .ok (.invokestatic 134, 3) := by decide +kernel
theorem dX11_taken_6 : decode cX11_taken 6 = .ok (.ifCond .ne 6, 3) := by decide +kernel
theorem dX11_taken_9 : decode cX11_taken 9 = .ok (.bipush (-2), 2) := by decide +kernel
theorem dX11_taken_11 : decode cX11_taken 11 = .ok (.ireturn, 1) := by decide +kernel
theorem dX11_taken_12 : decode cX11_taken 12 = .ok (.aload_n 0, 1) := by decide +kernel
theorem dX11_taken_13 : decode cX11_taken 13 = .ok (.iload_n 1, 1) := by decide +kernel
theorem dX11_taken_14 : decode cX11_taken 14 = .ok (.invokevirtual 185, 3) := by decide +kernel
theorem dX11_taken_17 : decode cX11_taken 17 = .ok (.astore_n 3, 1) := by decide +kernel
theorem dX11_taken_18 : decode cX11_taken 18 = .ok (.aload_n 3, 1) := by decide +kernel
theorem dX11_taken_19 : decode cX11_taken 19 = .ok (.ifnonnull 6, 3) := by decide +kernel
theorem dX11_taken_22 : decode cX11_taken 22 = .ok (.bipush (-11), 2) := by decide +kernel
theorem dX11_taken_24 : decode cX11_taken 24 = .ok (.ireturn, 1) := by decide +kernel
theorem dX11_taken_25 : decode cX11_taken 25 = .ok (.aload_n 3, 1) := by decide +kernel
theorem dX11_taken_26 : decode cX11_taken 26 = .ok (.getfield 170, 3) := by decide +kernel
theorem dX11_taken_29 : decode cX11_taken 29 = .ok (.iload_n 2, 1) := by decide +kernel
theorem dX11_taken_30 : decode cX11_taken 30 = .ok (.invokestatic 330, 3) := by decide +kernel
theorem dX11_taken_33 : decode cX11_taken 33 = .ok (.ifCond .eq 10, 3) := by decide +kernel
theorem dX11_taken_36 : decode cX11_taken 36 = .ok (.aload_n 3, 1) := by decide +kernel
theorem dX11_taken_37 : decode cX11_taken 37 = .ok (.getfield 179, 3) := by decide +kernel
theorem dX11_taken_40 : decode cX11_taken 40 = .ok (.goto 5, 3) := by decide +kernel
theorem dX11_taken_43 : decode cX11_taken 43 = .ok (.bipush (-13), 2) := by decide +kernel
theorem dX11_taken_45 : decode cX11_taken 45 = .ok (.ireturn, 1) := by decide +kernel
theorem dX11_mazeAt_0 : decode cX11_mazeAt 0 = .ok (.iload_n 1, 1) := by decide +kernel
theorem dX11_mazeAt_1 : decode cX11_mazeAt 1 = .ok (.aload_n 0, 1) := by decide +kernel
theorem dX11_mazeAt_2 : decode cX11_mazeAt 2 = .ok (.getfield 108, 3) := by decide +kernel
theorem dX11_mazeAt_5 : decode cX11_mazeAt 5 = .ok (.invokestatic 134, 3) := by decide +kernel
theorem dX11_mazeAt_8 : decode cX11_mazeAt 8 = .ok (.ifCond .eq 17, 3) := by decide +kernel
theorem dX11_mazeAt_11 : decode cX11_mazeAt 11 = .ok (.iload_n 1, 1) := by decide +kernel
theorem dX11_mazeAt_12 : decode cX11_mazeAt 12 = .ok (.iconst 4, 1) := by decide +kernel
theorem dX11_mazeAt_13 : decode cX11_mazeAt 13 = .ok (.if_icmp .ge 12, 3) := by decide +kernel
theorem dX11_mazeAt_16 : decode cX11_mazeAt 16 = .ok (.aload_n 0, 1) := by decide +kernel
theorem dX11_mazeAt_17 : decode cX11_mazeAt 17 = .ok (.getfield 18, 3) := by decide +kernel
theorem dX11_mazeAt_20 : decode cX11_mazeAt 20 = .ok (.iload_n 1, 1) := by decide +kernel
theorem dX11_mazeAt_21 : decode cX11_mazeAt 21 = .ok (.aaload, 1) := by decide +kernel
theorem dX11_mazeAt_22 : decode cX11_mazeAt 22 = .ok (.goto 4, 3) := by decide +kernel
theorem dX11_mazeAt_25 : decode cX11_mazeAt 25 = .ok (.aconst_null, 1) := by decide +kernel
theorem dX11_mazeAt_26 : decode cX11_mazeAt 26 = .ok (.areturn, 1) := by decide +kernel
theorem dX11_walkerAt_0 : decode cX11_walkerAt 0 = .ok (.iload_n 1, 1) := by decide +kernel
theorem dX11_walkerAt_1 : decode cX11_walkerAt 1 = .ok (.aload_n 0, 1) := by decide +kernel
theorem dX11_walkerAt_2 : decode cX11_walkerAt 2 = .ok (.getfield 167, 3) := by decide +kernel
theorem dX11_walkerAt_5 : decode cX11_walkerAt 5 = .ok (.invokestatic 134, 3) := by decide +kernel
theorem dX11_walkerAt_8 : decode cX11_walkerAt 8 = .ok (.ifCond .eq 18, 3) := by decide +kernel
theorem dX11_walkerAt_11 : decode cX11_walkerAt 11 = .ok (.iload_n 1, 1) := by decide +kernel
theorem dX11_walkerAt_12 : decode cX11_walkerAt 12 = .ok (.bipush 8, 2) := by decide +kernel
theorem dX11_walkerAt_14 : decode cX11_walkerAt 14 = .ok (.if_icmp .ge 12, 3) := by decide +kernel
theorem dX11_walkerAt_17 : decode cX11_walkerAt 17 = .ok (.aload_n 0, 1) := by decide +kernel
theorem dX11_walkerAt_18 : decode cX11_walkerAt 18 = .ok (.getfield 24, 3) := by decide +kernel
theorem dX11_walkerAt_21 : decode cX11_walkerAt 21 = .ok (.iload_n 1, 1) := by decide +kernel
theorem dX11_walkerAt_22 : decode cX11_walkerAt 22 = .ok (.aaload, 1) := by decide +kernel
theorem dX11_walkerAt_23 : decode cX11_walkerAt 23 = .ok (.goto 4, 3) := by decide +kernel
theorem dX11_walkerAt_26 : decode cX11_walkerAt 26 = .ok (.aconst_null, 1) := by decide +kernel
theorem dX11_walkerAt_27 : decode cX11_walkerAt 27 = .ok (.areturn, 1) := by decide +kernel
theorem dX11_sheetAt_0 : decode cX11_sheetAt 0 = .ok (.iload_n 1, 1) := by decide +kernel
theorem dX11_sheetAt_1 : decode cX11_sheetAt 1 = .ok (.iconst 4, 1) := by decide +kernel
theorem dX11_sheetAt_2 : decode cX11_sheetAt 2 = .ok (.invokestatic 134, 3) := by decide +kernel
theorem dX11_sheetAt_5 : decode cX11_sheetAt 5 = .ok (.ifCond .eq 12, 3) := by decide +kernel
theorem dX11_sheetAt_8 : decode cX11_sheetAt 8 = .ok (.aload_n 0, 1) := by decide +kernel
theorem dX11_sheetAt_9 : decode cX11_sheetAt 9 = .ok (.getfield 36, 3) := by decide +kernel
theorem dX11_sheetAt_12 : decode cX11_sheetAt 12 = .ok (.iload_n 1, 1) := by decide +kernel
theorem dX11_sheetAt_13 : decode cX11_sheetAt 13 = .ok (.aaload, 1) := by decide +kernel
theorem dX11_sheetAt_14 : decode cX11_sheetAt 14 = .ok (.goto 4, 3) := by decide +kernel
theorem dX11_sheetAt_17 : decode cX11_sheetAt 17 = .ok (.aconst_null, 1) := by decide +kernel
theorem dX11_sheetAt_18 : decode cX11_sheetAt 18 = .ok (.areturn, 1) := by decide +kernel
theorem dX11_isInside_0 : decode cX11_isInside 0 = .ok (.iload_n 0, 1) := by decide +kernel
theorem dX11_isInside_1 : decode cX11_isInside 1 = .ok (.ifCond .lt 12, 3) := by decide +kernel
theorem dX11_isInside_4 : decode cX11_isInside 4 = .ok (.iload_n 0, 1) := by decide +kernel
theorem dX11_isInside_5 : decode cX11_isInside 5 = .ok (.iload_n 1, 1) := by decide +kernel
theorem dX11_isInside_6 : decode cX11_isInside 6 = .ok (.if_icmp .ge 7, 3) := by decide +kernel
theorem dX11_isInside_9 : decode cX11_isInside 9 = .ok (.iconst 1, 1) := by decide +kernel
theorem dX11_isInside_10 : decode cX11_isInside 10 = .ok (.goto 4, 3) := by decide +kernel
theorem dX11_isInside_13 : decode cX11_isInside 13 = .ok (.iconst 0, 1) := by decide +kernel
theorem dX11_isInside_14 : decode cX11_isInside 14 = .ok (.ireturn, 1) := by decide +kernel
theorem dX11_itemAt_0 : decode cX11_itemAt 0 = .ok (.iload_n 1, 1) := by decide +kernel
theorem dX11_itemAt_1 : decode cX11_itemAt 1 = .ok (.ifCond .lt 15, 3) := by decide +kernel
theorem dX11_itemAt_4 : decode cX11_itemAt 4 = .ok (.iload_n 1, 1) := by decide +kernel
theorem dX11_itemAt_5 : decode cX11_itemAt 5 = .ok (.aload_n 0, 1) := by decide +kernel
theorem dX11_itemAt_6 : decode cX11_itemAt 6 = .ok (.arraylength, 1) := by decide +kernel
theorem dX11_itemAt_7 : decode cX11_itemAt 7 = .ok (.if_icmp .ge 9, 3) := by decide +kernel
theorem dX11_itemAt_10 : decode cX11_itemAt 10 = .ok (.aload_n 0, 1) := by decide +kernel
theorem dX11_itemAt_11 : decode cX11_itemAt 11 = .ok (.iload_n 1, 1) := by decide +kernel
theorem dX11_itemAt_12 : decode cX11_itemAt 12 = .ok (.iaload, 1) := by decide +kernel
theorem dX11_itemAt_13 : decode cX11_itemAt 13 = .ok (.goto 4, 3) := by decide +kernel
theorem dX11_itemAt_16 : decode cX11_itemAt 16 = .ok (.iconst (-1), 1) := by decide +kernel
theorem dX11_itemAt_17 : decode cX11_itemAt 17 = .ok (.ireturn, 1) := by decide +kernel
theorem dX11_setItem_0 : decode cX11_setItem 0 = .ok (.iload_n 1, 1) := by decide +kernel
theorem dX11_setItem_1 : decode cX11_setItem 1 = .ok (.ifCond .lt 13, 3) := by decide +kernel
theorem dX11_setItem_4 : decode cX11_setItem 4 = .ok (.iload_n 1, 1) := by decide +kernel
theorem dX11_setItem_5 : decode cX11_setItem 5 = .ok (.aload_n 0, 1) := by decide +kernel
theorem dX11_setItem_6 : decode cX11_setItem 6 = .ok (.arraylength, 1) := by decide +kernel
theorem dX11_setItem_7 : decode cX11_setItem 7 = .ok (.if_icmp .ge 7, 3) := by decide +kernel
theorem dX11_setItem_10 : decode cX11_setItem 10 = .ok (.aload_n 0, 1) := by decide +kernel
theorem dX11_setItem_11 : decode cX11_setItem 11 = .ok (.iload_n 1, 1) := by decide +kernel
theorem dX11_setItem_12 : decode cX11_setItem 12 = .ok (.iload_n 2, 1) := by decide +kernel
theorem dX11_setItem_13 : decode cX11_setItem 13 = .ok (.iastore, 1) := by decide +kernel
theorem dX11_setItem_14 : decode cX11_setItem 14 = .ok (.return_, 1) := by decide +kernel
theorem dX11_copyRow_0 : decode cX11_copyRow 0 = .ok (.aload_n 0, 1) := by decide +kernel
theorem dX11_copyRow_1 : decode cX11_copyRow 1 = .ok (.iconst 0, 1) := by decide +kernel
theorem dX11_copyRow_2 : decode cX11_copyRow 2 = .ok (.aload_n 1, 1) := by decide +kernel
theorem dX11_copyRow_3 : decode cX11_copyRow 3 = .ok (.iconst 0, 1) := by decide +kernel
theorem dX11_copyRow_4 : decode cX11_copyRow 4 = .ok (.aload_n 0, 1) := by decide +kernel
theorem dX11_copyRow_5 : decode cX11_copyRow 5 = .ok (.arraylength, 1) := by decide +kernel
theorem dX11_copyRow_6 : decode cX11_copyRow 6 = .ok (.aload_n 1, 1) := by decide +kernel
theorem dX11_copyRow_7 : decode cX11_copyRow 7 = .ok (.arraylength, 1) := by decide +kernel
theorem dX11_copyRow_8 : decode cX11_copyRow 8 = .ok (.invokestatic 232, 3) := by decide +kernel
theorem dX11_copyRow_11 : decode cX11_copyRow 11 = .ok (.invokestatic 320, 3) := by decide +kernel
theorem dX11_copyRow_14 : decode cX11_copyRow 14 = .ok (.return_, 1) := by decide +kernel
theorem dX11_isUnder_0 : decode cX11_isUnder 0 = .ok (.iload_n 0, 1) := by decide +kernel
theorem dX11_isUnder_1 : decode cX11_isUnder 1 = .ok (.istore_n 2, 1) := by decide +kernel
theorem dX11_isUnder_2 : decode cX11_isUnder 2 = .ok (.iconst 0, 1) := by decide +kernel
theorem dX11_isUnder_3 : decode cX11_isUnder 3 = .ok (.istore_n 3, 1) := by decide +kernel
theorem dX11_isUnder_4 : decode cX11_isUnder 4 = .ok (.iload_n 3, 1) := by decide +kernel
theorem dX11_isUnder_5 : decode cX11_isUnder 5 = .ok (.bipush 6, 2) := by decide +kernel
theorem dX11_isUnder_7 : decode cX11_isUnder 7 = .ok (.if_icmp .ge 29, 3) := by decide +kernel
theorem dX11_isUnder_10 : decode cX11_isUnder 10 = .ok (.iload_n 2, 1) := by decide +kernel
theorem dX11_isUnder_11 : decode cX11_isUnder 11 = .ok (.iconst (-1), 1) := by decide +kernel
theorem dX11_isUnder_12 : decode cX11_isUnder 12 = .ok (.if_icmp .eq 24, 3) := by decide +kernel
theorem dX11_isUnder_15 : decode cX11_isUnder 15 = .ok (.iload_n 2, 1) := by decide +kernel
theorem dX11_isUnder_16 : decode cX11_isUnder 16 = .ok (.iload_n 1, 1) := by decide +kernel
theorem dX11_isUnder_17 : decode cX11_isUnder 17 = .ok (.if_icmp .ne 5, 3) := by decide +kernel
theorem dX11_isUnder_20 : decode cX11_isUnder 20 = .ok (.iconst 1, 1) := by decide +kernel
theorem dX11_isUnder_21 : decode cX11_isUnder 21 = .ok (.ireturn, 1) := by decide +kernel
theorem dX11_isUnder_22 : decode cX11_isUnder 22 = .ok (.getstatic 333, 3) := by decide +kernel
theorem dX11_isUnder_25 : decode cX11_isUnder 25 = .ok (.iload_n 2, 1) := by decide +kernel
theorem dX11_isUnder_26 : decode cX11_isUnder 26 = .ok (.invokestatic 159, 3) := by decide +kernel
theorem dX11_isUnder_29 : decode cX11_isUnder 29 = .ok (.istore_n 2, 1) := by decide +kernel
theorem dX11_isUnder_30 : decode cX11_isUnder 30 = .ok (.iinc 3 1, 3) := by decide +kernel
theorem dX11_isUnder_33 : decode cX11_isUnder 33 = .ok (.goto (-29), 3) := by decide +kernel
theorem dX11_isUnder_36 : decode cX11_isUnder 36 = .ok (.iconst 0, 1) := by decide +kernel
theorem dX11_isUnder_37 : decode cX11_isUnder 37 = .ok (.ireturn, 1) := by decide +kernel
theorem dX11_readFirstText_0 : decode cX11_readFirstText 0 = .ok (.iconst 0, 1) := by decide +kernel
theorem dX11_readFirstText_1 : decode cX11_readFirstText 1 = .ok (.istore_n 1, 1) := by decide +kernel
theorem dX11_readFirstText_2 : decode cX11_readFirstText 2 = .ok (.iload_n 1, 1) := by decide +kernel
theorem dX11_readFirstText_3 : decode cX11_readFirstText 3 = .ok (.ldc_w 336, 3) := by decide +kernel
theorem dX11_readFirstText_6 : decode cX11_readFirstText 6 = .ok (.invokevirtual 338, 3) := by decide +kernel
theorem dX11_readFirstText_9 : decode cX11_readFirstText 9 = .ok (.if_icmp .ge 24, 3) := by decide +kernel
theorem dX11_readFirstText_12 : decode cX11_readFirstText 12 = .ok (.aload_n 0, 1) := by decide +kernel
theorem dX11_readFirstText_13 : decode cX11_readFirstText 13 = .ok (.getfield 10, 3) := by decide +kernel
theorem dX11_readFirstText_16 : decode cX11_readFirstText 16 = .ok (.ldc_w 336, 3) := by decide +kernel
theorem dX11_readFirstText_19 : decode cX11_readFirstText 19 = .ok (.iload_n 1, 1) := by decide +kernel
theorem dX11_readFirstText_20 : decode cX11_readFirstText 20 = .ok (.invokevirtual 343, 3) := by decide +kernel
theorem dX11_readFirstText_23 : decode cX11_readFirstText 23 = .ok (.i2b, 1) := by decide +kernel
theorem dX11_readFirstText_24 : decode cX11_readFirstText 24 = .ok (.invokevirtual 104, 3) := by decide +kernel
theorem dX11_readFirstText_27 : decode cX11_readFirstText 27 = .ok (.iinc 1 1, 3) := by decide +kernel
theorem dX11_readFirstText_30 : decode cX11_readFirstText 30 = .ok (.goto (-28), 3) := by decide +kernel
theorem dX11_readFirstText_33 : decode cX11_readFirstText 33 = .ok (.aload_n 0, 1) := by decide +kernel
theorem dX11_readFirstText_34 : decode cX11_readFirstText 34 = .ok (.getfield 10, 3) := by decide +kernel
theorem dX11_readFirstText_37 : decode cX11_readFirstText 37 = .ok (.invokevirtual 122, 3) := by decide +kernel
theorem dX11_readFirstText_40 : decode cX11_readFirstText 40 = .ok (.pop, 1) := by decide +kernel
theorem dX11_readFirstText_41 : decode cX11_readFirstText 41 = .ok (.aload_n 0, 1) := by decide +kernel
theorem dX11_readFirstText_42 : decode cX11_readFirstText 42 = .ok (.getfield 30, 3) := by decide +kernel
theorem dX11_readFirstText_45 : decode cX11_readFirstText 45 = .ok (.iconst 0, 1) := by decide +kernel
theorem dX11_readFirstText_46 : decode cX11_readFirstText 46 = .ok (.aaload, 1) := by decide +kernel
theorem dX11_readFirstText_47 : decode cX11_readFirstText 47 = .ok (.aload_n 0, 1) := by decide +kernel
theorem dX11_readFirstText_48 : decode cX11_readFirstText 48 = .ok (.getfield 10, 3) := by decide +kernel
theorem dX11_readFirstText_51 : decode cX11_readFirstText 51 = .ok (.getfield 126, 3) := by decide +kernel
theorem dX11_readFirstText_54 : decode cX11_readFirstText 54 = .ok (.invokevirtual 130, 3) := by decide +kernel
theorem dX11_readFirstText_57 : decode cX11_readFirstText 57 = .ok (.aload_n 0, 1) := by decide +kernel
theorem dX11_readFirstText_58 : decode cX11_readFirstText 58 = .ok (.iconst 1, 1) := by decide +kernel
theorem dX11_readFirstText_59 : decode cX11_readFirstText 59 = .ok (.putfield 119, 3) := by decide +kernel
theorem dX11_readFirstText_62 : decode cX11_readFirstText 62 = .ok (.aload_n 0, 1) := by decide +kernel
theorem dX11_readFirstText_63 : decode cX11_readFirstText 63 = .ok (.getfield 10, 3) := by decide +kernel
theorem dX11_readFirstText_66 : decode cX11_readFirstText 66 = .ok (.iconst 0, 1) := by decide +kernel
theorem dX11_readFirstText_67 : decode cX11_readFirstText 67 = .ok (.putfield 100, 3) := by decide +kernel
theorem dX11_readFirstText_70 : decode cX11_readFirstText 70 = .ok (.return_, 1) := by decide +kernel
theorem dX11_saying_0 : decode cX11_saying 0 = .ok (.aload_n 0, 1) := by decide +kernel
theorem dX11_saying_1 : decode cX11_saying 1 = .ok (.getfield 138, 3) := by decide +kernel
theorem dX11_saying_4 : decode cX11_saying 4 = .ok (.bipush 6, 2) := by decide +kernel
theorem dX11_saying_6 : decode cX11_saying 6 = .ok (.invokestatic 134, 3) := by decide +kernel
theorem dX11_saying_9 : decode cX11_saying 9 = .ok (.ifCond .eq 10, 3) := by decide +kernel
theorem dX11_saying_12 : decode cX11_saying 12 = .ok (.aload_n 0, 1) := by decide +kernel
theorem dX11_saying_13 : decode cX11_saying 13 = .ok (.getfield 138, 3) := by decide +kernel
theorem dX11_saying_16 : decode cX11_saying 16 = .ok (.goto 4, 3) := by decide +kernel
theorem dX11_saying_19 : decode cX11_saying 19 = .ok (.iconst 0, 1) := by decide +kernel
theorem dX11_saying_20 : decode cX11_saying 20 = .ok (.istore_n 2, 1) := by decide +kernel
theorem dX11_saying_21 : decode cX11_saying 21 = .ok (.aload_n 0, 1) := by decide +kernel
theorem dX11_saying_22 : decode cX11_saying 22 = .ok (.getfield 30, 3) := by decide +kernel
theorem dX11_saying_25 : decode cX11_saying 25 = .ok (.iload_n 2, 1) := by decide +kernel
theorem dX11_saying_26 : decode cX11_saying 26 = .ok (.aaload, 1) := by decide +kernel
theorem dX11_saying_27 : decode cX11_saying 27 = .ok (.iload_n 1, 1) := by decide +kernel
theorem dX11_saying_28 : decode cX11_saying 28 = .ok (.aload_n 0, 1) := by decide +kernel
theorem dX11_saying_29 : decode cX11_saying 29 = .ok (.getfield 50, 3) := by decide +kernel
theorem dX11_saying_32 : decode cX11_saying 32 = .ok (.getfield 347, 3) := by decide +kernel
theorem dX11_saying_35 : decode cX11_saying 35 = .ok (.aload_n 0, 1) := by decide +kernel
theorem dX11_saying_36 : decode cX11_saying 36 = .ok (.getfield 50, 3) := by decide +kernel
theorem dX11_saying_39 : decode cX11_saying 39 = .ok (.getfield 350, 3) := by decide +kernel
theorem dX11_saying_42 : decode cX11_saying 42 = .ok (.invokevirtual 353, 3) := by decide +kernel
theorem dX11_saying_45 : decode cX11_saying 45 = .ok (.ireturn, 1) := by decide +kernel
theorem dX11_wantsNow_0 : decode cX11_wantsNow 0 = .ok (.aload_n 0, 1) := by decide +kernel
theorem dX11_wantsNow_1 : decode cX11_wantsNow 1 = .ok (.aload_n 1, 1) := by decide +kernel
theorem dX11_wantsNow_2 : decode cX11_wantsNow 2 = .ok (.getfield 173, 3) := by decide +kernel
theorem dX11_wantsNow_5 : decode cX11_wantsNow 5 = .ok (.invokevirtual 141, 3) := by decide +kernel
theorem dX11_wantsNow_8 : decode cX11_wantsNow 8 = .ok (.astore_n 2, 1) := by decide +kernel
theorem dX11_wantsNow_9 : decode cX11_wantsNow 9 = .ok (.aload_n 2, 1) := by decide +kernel
theorem dX11_wantsNow_10 : decode cX11_wantsNow 10 = .ok (.ifnonnull 5, 3) := by decide +kernel
theorem dX11_wantsNow_13 : decode cX11_wantsNow 13 = .ok (.iconst (-1), 1) := by decide +kernel
theorem dX11_wantsNow_14 : decode cX11_wantsNow 14 = .ok (.ireturn, 1) := by decide +kernel
theorem dX11_wantsNow_15 : decode cX11_wantsNow 15 = .ok (.aload_n 0, 1) := by decide +kernel
theorem dX11_wantsNow_16 : decode cX11_wantsNow 16 = .ok (.getfield 50, 3) := by decide +kernel
theorem dX11_wantsNow_19 : decode cX11_wantsNow 19 = .ok (.aload_n 1, 1) := by decide +kernel
theorem dX11_wantsNow_20 : decode cX11_wantsNow 20 = .ok (.aload_n 2, 1) := by decide +kernel
theorem dX11_wantsNow_21 : decode cX11_wantsNow 21 = .ok (.aload_n 2, 1) := by decide +kernel
theorem dX11_wantsNow_22 : decode cX11_wantsNow 22 = .ok (.getfield 156, 3) := by decide +kernel
theorem dX11_wantsNow_25 : decode cX11_wantsNow 25 = .ok (.invokevirtual 203, 3) := by decide +kernel
theorem dX11_wantsNow_28 : decode cX11_wantsNow 28 = .ok (.aload_n 1, 1) := by decide +kernel
theorem dX11_wantsNow_29 : decode cX11_wantsNow 29 = .ok (.aload_n 2, 1) := by decide +kernel
theorem dX11_wantsNow_30 : decode cX11_wantsNow 30 = .ok (.aload_n 1, 1) := by decide +kernel
theorem dX11_wantsNow_31 : decode cX11_wantsNow 31 = .ok (.getfield 176, 3) := by decide +kernel
theorem dX11_wantsNow_34 : decode cX11_wantsNow 34 = .ok (.invokevirtual 357, 3) := by decide +kernel
theorem dX11_wantsNow_37 : decode cX11_wantsNow 37 = .ok (.aload_n 2, 1) := by decide +kernel
theorem dX11_wantsNow_38 : decode cX11_wantsNow 38 = .ok (.getfield 156, 3) := by decide +kernel
theorem dX11_wantsNow_41 : decode cX11_wantsNow 41 = .ok (.aload_n 1, 1) := by decide +kernel
theorem dX11_wantsNow_42 : decode cX11_wantsNow 42 = .ok (.getfield 176, 3) := by decide +kernel
theorem dX11_wantsNow_45 : decode cX11_wantsNow 45 = .ok (.invokestatic 159, 3) := by decide +kernel
theorem dX11_wantsNow_48 : decode cX11_wantsNow 48 = .ok (.ifCond .le 7, 3) := by decide +kernel
theorem dX11_wantsNow_51 : decode cX11_wantsNow 51 = .ok (.iconst 1, 1) := by decide +kernel
theorem dX11_wantsNow_52 : decode cX11_wantsNow 52 = .ok (.goto 4, 3) := by decide +kernel
theorem dX11_wantsNow_55 : decode cX11_wantsNow 55 = .ok (.iconst 0, 1) := by decide +kernel
theorem dX11_wantsNow_56 : decode cX11_wantsNow 56 = .ok (.aload_n 0, 1) := by decide +kernel
theorem dX11_wantsNow_57 : decode cX11_wantsNow 57 = .ok (.iconst 0, 1) := by decide +kernel
theorem dX11_wantsNow_58 : decode cX11_wantsNow 58 = .ok (.invokevirtual 207, 3) := by decide +kernel
theorem dX11_wantsNow_61 : decode cX11_wantsNow 61 = .ok (.invokestatic 360, 3) := by decide +kernel
theorem dX11_wantsNow_64 : decode cX11_wantsNow 64 = .ok (.ireturn, 1) := by decide +kernel
theorem dX11_wants_0 : decode cX11_wants 0 = .ok (.iload_n 1, 1) := by decide +kernel
theorem dX11_wants_1 : decode cX11_wants 1 = .ok (.aload_n 0, 1) := by decide +kernel
theorem dX11_wants_2 : decode cX11_wants 2 = .ok (.invokevirtual 199, 3) := by decide +kernel
theorem dX11_wants_5 : decode cX11_wants 5 = .ok (.iconst (-1), 1) := by decide +kernel
theorem dX11_wants_6 : decode cX11_wants 6 = .ok (.ixor, 1) := by decide +kernel
theorem dX11_wants_7 : decode cX11_wants 7 = .ok (.iand, 1) := by decide +kernel
theorem dX11_wants_8 : decode cX11_wants 8 = .ok (.istore 4, 2) := by decide +kernel
theorem dX11_wants_10 : decode cX11_wants 10 = .ok (.iload_n 1, 1) := by decide +kernel
theorem dX11_wants_11 : decode cX11_wants 11 = .ok (.aload_n 0, 1) := by decide +kernel
theorem dX11_wants_12 : decode cX11_wants 12 = .ok (.getfield 189, 3) := by decide +kernel
theorem dX11_wants_15 : decode cX11_wants 15 = .ok (.iload_n 3, 1) := by decide +kernel
theorem dX11_wants_16 : decode cX11_wants 16 = .ok (.iadd, 1) := by decide +kernel
theorem dX11_wants_17 : decode cX11_wants 17 = .ok (.invokestatic 364, 3) := by decide +kernel
theorem dX11_wants_20 : decode cX11_wants 20 = .ok (.istore 5, 2) := by decide +kernel
theorem dX11_wants_22 : decode cX11_wants 22 = .ok (.aload_n 0, 1) := by decide +kernel
theorem dX11_wants_23 : decode cX11_wants 23 = .ok (.getfield 170, 3) := by decide +kernel
theorem dX11_wants_26 : decode cX11_wants 26 = .ok (.tableswitch 137 1 5 #[34, 67, 45, 100, 84], 34) := by decide +kernel
theorem dX11_wants_60 : decode cX11_wants 60 = .ok (.iload_n 1, 1) := by decide +kernel
theorem dX11_wants_61 : decode cX11_wants 61 = .ok (.aload_n 0, 1) := by decide +kernel
theorem dX11_wants_62 : decode cX11_wants 62 = .ok (.getfield 189, 3) := by decide +kernel
theorem dX11_wants_65 : decode cX11_wants 65 = .ok (.iconst 1, 1) := by decide +kernel
theorem dX11_wants_66 : decode cX11_wants 66 = .ok (.iadd, 1) := by decide +kernel
theorem dX11_wants_67 : decode cX11_wants 67 = .ok (.invokestatic 364, 3) := by decide +kernel
theorem dX11_wants_70 : decode cX11_wants 70 = .ok (.ireturn, 1) := by decide +kernel
theorem dX11_wants_71 : decode cX11_wants 71 = .ok (.iload_n 1, 1) := by decide +kernel
theorem dX11_wants_72 : decode cX11_wants 72 = .ok (.aload_n 0, 1) := by decide +kernel
theorem dX11_wants_73 : decode cX11_wants 73 = .ok (.getfield 189, 3) := by decide +kernel
theorem dX11_wants_76 : decode cX11_wants 76 = .ok (.iload_n 2, 1) := by decide +kernel
theorem dX11_wants_77 : decode cX11_wants 77 = .ok (.ifCond .eq 10, 3) := by decide +kernel
theorem dX11_wants_80 : decode cX11_wants 80 = .ok (.aload_n 0, 1) := by decide +kernel
theorem dX11_wants_81 : decode cX11_wants 81 = .ok (.getfield 179, 3) := by decide +kernel
theorem dX11_wants_84 : decode cX11_wants 84 = .ok (.goto 4, 3) := by decide +kernel
theorem dX11_wants_87 : decode cX11_wants 87 = .ok (.iconst 1, 1) := by decide +kernel
theorem dX11_wants_88 : decode cX11_wants 88 = .ok (.iadd, 1) := by decide +kernel
theorem dX11_wants_89 : decode cX11_wants 89 = .ok (.invokestatic 364, 3) := by decide +kernel
theorem dX11_wants_92 : decode cX11_wants 92 = .ok (.ireturn, 1) := by decide +kernel
theorem dX11_wants_93 : decode cX11_wants 93 = .ok (.iload 4, 2) := by decide +kernel
theorem dX11_wants_95 : decode cX11_wants 95 = .ok (.ifCond .eq 12, 3) := by decide +kernel
theorem dX11_wants_98 : decode cX11_wants 98 = .ok (.iload 4, 2) := by decide +kernel
theorem dX11_wants_100 : decode cX11_wants 100 = .ok (.iconst 0, 1) := by decide +kernel
theorem dX11_wants_101 : decode cX11_wants 101 = .ok (.invokestatic 364, 3) := by decide +kernel
theorem dX11_wants_104 : decode cX11_wants 104 = .ok (.goto 5, 3) := by decide +kernel
theorem dX11_wants_107 : decode cX11_wants 107 = .ok (.iload 5, 2) := by decide +kernel
theorem dX11_wants_109 : decode cX11_wants 109 = .ok (.ireturn, 1) := by decide +kernel
theorem dX11_wants_110 : decode cX11_wants 110 = .ok (.iload 4, 2) := by decide +kernel
theorem dX11_wants_112 : decode cX11_wants 112 = .ok (.ifCond .eq 11, 3) := by decide +kernel
theorem dX11_wants_115 : decode cX11_wants 115 = .ok (.iload 4, 2) := by decide +kernel
theorem dX11_wants_117 : decode cX11_wants 117 = .ok (.invokestatic 367, 3) := by decide +kernel
theorem dX11_wants_120 : decode cX11_wants 120 = .ok (.goto 5, 3) := by decide +kernel
theorem dX11_wants_123 : decode cX11_wants 123 = .ok (.iload 5, 2) := by decide +kernel
theorem dX11_wants_125 : decode cX11_wants 125 = .ok (.ireturn, 1) := by decide +kernel
theorem dX11_wants_126 : decode cX11_wants 126 = .ok (.iload_n 2, 1) := by decide +kernel
theorem dX11_wants_127 : decode cX11_wants 127 = .ok (.ifCond .eq 19, 3) := by decide +kernel
theorem dX11_wants_130 : decode cX11_wants 130 = .ok (.iload_n 1, 1) := by decide +kernel
theorem dX11_wants_131 : decode cX11_wants 131 = .ok (.aload_n 0, 1) := by decide +kernel
theorem dX11_wants_132 : decode cX11_wants 132 = .ok (.getfield 189, 3) := by decide +kernel
theorem dX11_wants_135 : decode cX11_wants 135 = .ok (.ishr, 1) := by decide +kernel
theorem dX11_wants_136 : decode cX11_wants 136 = .ok (.iconst 1, 1) := by decide +kernel
theorem dX11_wants_137 : decode cX11_wants 137 = .ok (.iand, 1) := by decide +kernel
theorem dX11_wants_138 : decode cX11_wants 138 = .ok (.ifCond .eq 8, 3) := by decide +kernel
theorem dX11_wants_141 : decode cX11_wants 141 = .ok (.aload_n 0, 1) := by decide +kernel
theorem dX11_wants_142 : decode cX11_wants 142 = .ok (.getfield 189, 3) := by decide +kernel
theorem dX11_wants_145 : decode cX11_wants 145 = .ok (.ireturn, 1) := by decide +kernel
theorem dX11_wants_146 : decode cX11_wants 146 = .ok (.iload 4, 2) := by decide +kernel
theorem dX11_wants_148 : decode cX11_wants 148 = .ok (.ifCond .eq 12, 3) := by decide +kernel
theorem dX11_wants_151 : decode cX11_wants 151 = .ok (.iload 4, 2) := by decide +kernel
theorem dX11_wants_153 : decode cX11_wants 153 = .ok (.iconst 0, 1) := by decide +kernel
theorem dX11_wants_154 : decode cX11_wants 154 = .ok (.invokestatic 364, 3) := by decide +kernel
theorem dX11_wants_157 : decode cX11_wants 157 = .ok (.goto 5, 3) := by decide +kernel
theorem dX11_wants_160 : decode cX11_wants 160 = .ok (.iload 5, 2) := by decide +kernel
theorem dX11_wants_162 : decode cX11_wants 162 = .ok (.ireturn, 1) := by decide +kernel
theorem dX11_wants_163 : decode cX11_wants 163 = .ok (.iload 5, 2) := by decide +kernel
theorem dX11_wants_165 : decode cX11_wants 165 = .ok (.ireturn, 1) := by decide +kernel
theorem dX11_firstFrom_0 : decode cX11_firstFrom 0 = .ok (.iconst 0, 1) := by decide +kernel
theorem dX11_firstFrom_1 : decode cX11_firstFrom 1 = .ok (.istore_n 2, 1) := by decide +kernel
theorem dX11_firstFrom_2 : decode cX11_firstFrom 2 = .ok (.iload_n 2, 1) := by decide +kernel
theorem dX11_firstFrom_3 : decode cX11_firstFrom 3 = .ok (.iconst 4, 1) := by decide +kernel
theorem dX11_firstFrom_4 : decode cX11_firstFrom 4 = .ok (.if_icmp .ge 25, 3) := by decide +kernel
theorem dX11_firstFrom_7 : decode cX11_firstFrom 7 = .ok (.iload_n 1, 1) := by decide +kernel
theorem dX11_firstFrom_8 : decode cX11_firstFrom 8 = .ok (.iload_n 2, 1) := by decide +kernel
theorem dX11_firstFrom_9 : decode cX11_firstFrom 9 = .ok (.iadd, 1) := by decide +kernel
theorem dX11_firstFrom_10 : decode cX11_firstFrom 10 = .ok (.iconst 3, 1) := by decide +kernel
theorem dX11_firstFrom_11 : decode cX11_firstFrom 11 = .ok (.iand, 1) := by decide +kernel
theorem dX11_firstFrom_12 : decode cX11_firstFrom 12 = .ok (.istore_n 3, 1) := by decide +kernel
theorem dX11_firstFrom_13 : decode cX11_firstFrom 13 = .ok (.iload_n 0, 1) := by decide +kernel
theorem dX11_firstFrom_14 : decode cX11_firstFrom 14 = .ok (.iload_n 3, 1) := by decide +kernel
theorem dX11_firstFrom_15 : decode cX11_firstFrom 15 = .ok (.ishr, 1) := by decide +kernel
theorem dX11_firstFrom_16 : decode cX11_firstFrom 16 = .ok (.iconst 1, 1) := by decide +kernel
theorem dX11_firstFrom_17 : decode cX11_firstFrom 17 = .ok (.iand, 1) := by decide +kernel
theorem dX11_firstFrom_18 : decode cX11_firstFrom 18 = .ok (.ifCond .eq 5, 3) := by decide +kernel
theorem dX11_firstFrom_21 : decode cX11_firstFrom 21 = .ok (.iload_n 3, 1) := by decide +kernel
theorem dX11_firstFrom_22 : decode cX11_firstFrom 22 = .ok (.ireturn, 1) := by decide +kernel
theorem dX11_firstFrom_23 : decode cX11_firstFrom 23 = .ok (.iinc 2 1, 3) := by decide +kernel
theorem dX11_firstFrom_26 : decode cX11_firstFrom 26 = .ok (.goto (-24), 3) := by decide +kernel
theorem dX11_firstFrom_29 : decode cX11_firstFrom 29 = .ok (.iconst (-1), 1) := by decide +kernel
theorem dX11_firstFrom_30 : decode cX11_firstFrom 30 = .ok (.ireturn, 1) := by decide +kernel
theorem dX11_greatestOf_0 : decode cX11_greatestOf 0 = .ok (.iconst 3, 1) := by decide +kernel
theorem dX11_greatestOf_1 : decode cX11_greatestOf 1 = .ok (.istore_n 1, 1) := by decide +kernel
theorem dX11_greatestOf_2 : decode cX11_greatestOf 2 = .ok (.iload_n 1, 1) := by decide +kernel
theorem dX11_greatestOf_3 : decode cX11_greatestOf 3 = .ok (.ifCond .lt 19, 3) := by decide +kernel
theorem dX11_greatestOf_6 : decode cX11_greatestOf 6 = .ok (.iload_n 0, 1) := by decide +kernel
theorem dX11_greatestOf_7 : decode cX11_greatestOf 7 = .ok (.iload_n 1, 1) := by decide +kernel
theorem dX11_greatestOf_8 : decode cX11_greatestOf 8 = .ok (.ishr, 1) := by decide +kernel
theorem dX11_greatestOf_9 : decode cX11_greatestOf 9 = .ok (.iconst 1, 1) := by decide +kernel
theorem dX11_greatestOf_10 : decode cX11_greatestOf 10 = .ok (.iand, 1) := by decide +kernel
theorem dX11_greatestOf_11 : decode cX11_greatestOf 11 = .ok (.ifCond .eq 5, 3) := by decide +kernel
theorem dX11_greatestOf_14 : decode cX11_greatestOf 14 = .ok (.iload_n 1, 1) := by decide +kernel
theorem dX11_greatestOf_15 : decode cX11_greatestOf 15 = .ok (.ireturn, 1) := by decide +kernel
theorem dX11_greatestOf_16 : decode cX11_greatestOf 16 = .ok (.iinc 1 (-1), 3) := by decide +kernel
theorem dX11_greatestOf_19 : decode cX11_greatestOf 19 = .ok (.goto (-17), 3) := by decide +kernel
theorem dX11_greatestOf_22 : decode cX11_greatestOf 22 = .ok (.iconst (-1), 1) := by decide +kernel
theorem dX11_greatestOf_23 : decode cX11_greatestOf 23 = .ok (.ireturn, 1) := by decide +kernel
theorem dX11_goOneStep_0 : decode cX11_goOneStep 0 = .ok (.aload_n 0, 1) := by decide +kernel
theorem dX11_goOneStep_1 : decode cX11_goOneStep 1 = .ok (.getfield 50, 3) := by decide +kernel
theorem dX11_goOneStep_4 : decode cX11_goOneStep 4 = .ok (.aload_n 1, 1) := by decide +kernel
theorem dX11_goOneStep_5 : decode cX11_goOneStep 5 = .ok (.aload_n 2, 1) := by decide +kernel
theorem dX11_goOneStep_6 : decode cX11_goOneStep 6 = .ok (.aload_n 3, 1) := by decide +kernel
theorem dX11_goOneStep_7 : decode cX11_goOneStep 7 = .ok (.invokevirtual 203, 3) := by decide +kernel
theorem dX11_goOneStep_10 : decode cX11_goOneStep 10 = .ok (.aload_n 3, 1) := by decide +kernel
theorem dX11_goOneStep_11 : decode cX11_goOneStep 11 = .ok (.aload_n 1, 1) := by decide +kernel
theorem dX11_goOneStep_12 : decode cX11_goOneStep 12 = .ok (.getfield 176, 3) := by decide +kernel
theorem dX11_goOneStep_15 : decode cX11_goOneStep 15 = .ok (.invokestatic 159, 3) := by decide +kernel
theorem dX11_goOneStep_18 : decode cX11_goOneStep 18 = .ok (.istore 4, 2) := by decide +kernel
theorem dX11_goOneStep_20 : decode cX11_goOneStep 20 = .ok (.iload 4, 2) := by decide +kernel
theorem dX11_goOneStep_22 : decode cX11_goOneStep 22 = .ok (.ifCond .le 27, 3) := by decide +kernel
theorem dX11_goOneStep_25 : decode cX11_goOneStep 25 = .ok (.aload_n 0, 1) := by decide +kernel
theorem dX11_goOneStep_26 : decode cX11_goOneStep 26 = .ok (.iconst 2, 1) := by decide +kernel
theorem dX11_goOneStep_27 : decode cX11_goOneStep 27 = .ok (.invokevirtual 207, 3) := by decide +kernel
theorem dX11_goOneStep_30 : decode cX11_goOneStep 30 = .ok (.ifCond .eq 19, 3) := by decide +kernel
theorem dX11_goOneStep_33 : decode cX11_goOneStep 33 = .ok (.iinc 4 (-1), 3) := by decide +kernel
theorem dX11_goOneStep_36 : decode cX11_goOneStep 36 = .ok (.aload_n 1, 1) := by decide +kernel
theorem dX11_goOneStep_37 : decode cX11_goOneStep 37 = .ok (.dup, 1) := by decide +kernel
theorem dX11_goOneStep_38 : decode cX11_goOneStep 38 = .ok (.getfield 182, 3) := by decide +kernel
theorem dX11_goOneStep_41 : decode cX11_goOneStep 41 = .ok (.iconst 1, 1) := by decide +kernel
theorem dX11_goOneStep_42 : decode cX11_goOneStep 42 = .ok (.iadd, 1) := by decide +kernel
theorem dX11_goOneStep_43 : decode cX11_goOneStep 43 = .ok (.putfield 182, 3) := by decide +kernel
theorem dX11_goOneStep_46 : decode cX11_goOneStep 46 = .ok (.goto 38, 3) := by decide +kernel
theorem dX11_goOneStep_49 : decode cX11_goOneStep 49 = .ok (.aload_n 1, 1) := by decide +kernel
theorem dX11_goOneStep_50 : decode cX11_goOneStep 50 = .ok (.getfield 182, 3) := by decide +kernel
theorem dX11_goOneStep_53 : decode cX11_goOneStep 53 = .ok (.ifCond .le 31, 3) := by decide +kernel
theorem dX11_goOneStep_56 : decode cX11_goOneStep 56 = .ok (.iload 4, 2) := by decide +kernel
theorem dX11_goOneStep_58 : decode cX11_goOneStep 58 = .ok (.bipush 99, 2) := by decide +kernel
theorem dX11_goOneStep_60 : decode cX11_goOneStep 60 = .ok (.if_icmp .ge 24, 3) := by decide +kernel
theorem dX11_goOneStep_63 : decode cX11_goOneStep 63 = .ok (.aload_n 0, 1) := by decide +kernel
theorem dX11_goOneStep_64 : decode cX11_goOneStep 64 = .ok (.iconst 1, 1) := by decide +kernel
theorem dX11_goOneStep_65 : decode cX11_goOneStep 65 = .ok (.invokevirtual 207, 3) := by decide +kernel
theorem dX11_goOneStep_68 : decode cX11_goOneStep 68 = .ok (.ifCond .eq 16, 3) := by decide +kernel
theorem dX11_goOneStep_71 : decode cX11_goOneStep 71 = .ok (.iinc 4 1, 3) := by decide +kernel
theorem dX11_goOneStep_74 : decode cX11_goOneStep 74 = .ok (.aload_n 1, 1) := by decide +kernel
theorem dX11_goOneStep_75 : decode cX11_goOneStep 75 = .ok (.dup, 1) := by decide +kernel
theorem dX11_goOneStep_76 : decode cX11_goOneStep 76 = .ok (.getfield 182, 3) := by decide +kernel
theorem dX11_goOneStep_79 : decode cX11_goOneStep 79 = .ok (.iconst 1, 1) := by decide +kernel
theorem dX11_goOneStep_80 : decode cX11_goOneStep 80 = .ok (.isub, 1) := by decide +kernel
theorem dX11_goOneStep_81 : decode cX11_goOneStep 81 = .ok (.putfield 182, 3) := by decide +kernel
theorem dX11_goOneStep_84 : decode cX11_goOneStep 84 = .ok (.aload_n 3, 1) := by decide +kernel
theorem dX11_goOneStep_85 : decode cX11_goOneStep 85 = .ok (.aload_n 1, 1) := by decide +kernel
theorem dX11_goOneStep_86 : decode cX11_goOneStep 86 = .ok (.getfield 176, 3) := by decide +kernel
theorem dX11_goOneStep_89 : decode cX11_goOneStep 89 = .ok (.iload 4, 2) := by decide +kernel
theorem dX11_goOneStep_91 : decode cX11_goOneStep 91 = .ok (.invokestatic 163, 3) := by decide +kernel
theorem dX11_goOneStep_94 : decode cX11_goOneStep 94 = .ok (.aload_n 0, 1) := by decide +kernel
theorem dX11_goOneStep_95 : decode cX11_goOneStep 95 = .ok (.getfield 50, 3) := by decide +kernel
theorem dX11_goOneStep_98 : decode cX11_goOneStep 98 = .ok (.aload_n 1, 1) := by decide +kernel
theorem dX11_goOneStep_99 : decode cX11_goOneStep 99 = .ok (.aload_n 2, 1) := by decide +kernel
theorem dX11_goOneStep_100 : decode cX11_goOneStep 100 = .ok (.aload_n 3, 1) := by decide +kernel
theorem dX11_goOneStep_101 : decode cX11_goOneStep 101 = .ok (.invokevirtual 203, 3) := by decide +kernel
theorem dX11_goOneStep_104 : decode cX11_goOneStep 104 = .ok (.aload_n 1, 1) := by decide +kernel
theorem dX11_goOneStep_105 : decode cX11_goOneStep 105 = .ok (.aload_n 2, 1) := by decide +kernel
theorem dX11_goOneStep_106 : decode cX11_goOneStep 106 = .ok (.aload_n 1, 1) := by decide +kernel
theorem dX11_goOneStep_107 : decode cX11_goOneStep 107 = .ok (.getfield 176, 3) := by decide +kernel
theorem dX11_goOneStep_110 : decode cX11_goOneStep 110 = .ok (.invokevirtual 357, 3) := by decide +kernel
theorem dX11_goOneStep_113 : decode cX11_goOneStep 113 = .ok (.iload 4, 2) := by decide +kernel
theorem dX11_goOneStep_115 : decode cX11_goOneStep 115 = .ok (.ifCond .le 7, 3) := by decide +kernel
theorem dX11_goOneStep_118 : decode cX11_goOneStep 118 = .ok (.iconst 1, 1) := by decide +kernel
theorem dX11_goOneStep_119 : decode cX11_goOneStep 119 = .ok (.goto 4, 3) := by decide +kernel
theorem dX11_goOneStep_122 : decode cX11_goOneStep 122 = .ok (.iconst 0, 1) := by decide +kernel
theorem dX11_goOneStep_123 : decode cX11_goOneStep 123 = .ok (.aload_n 0, 1) := by decide +kernel
theorem dX11_goOneStep_124 : decode cX11_goOneStep 124 = .ok (.iconst 0, 1) := by decide +kernel
theorem dX11_goOneStep_125 : decode cX11_goOneStep 125 = .ok (.invokevirtual 207, 3) := by decide +kernel
theorem dX11_goOneStep_128 : decode cX11_goOneStep 128 = .ok (.invokestatic 360, 3) := by decide +kernel
theorem dX11_goOneStep_131 : decode cX11_goOneStep 131 = .ok (.istore 5, 2) := by decide +kernel
theorem dX11_goOneStep_133 : decode cX11_goOneStep 133 = .ok (.aload_n 2, 1) := by decide +kernel
theorem dX11_goOneStep_134 : decode cX11_goOneStep 134 = .ok (.aload_n 1, 1) := by decide +kernel
theorem dX11_goOneStep_135 : decode cX11_goOneStep 135 = .ok (.getfield 176, 3) := by decide +kernel
theorem dX11_goOneStep_138 : decode cX11_goOneStep 138 = .ok (.iload 5, 2) := by decide +kernel
theorem dX11_goOneStep_140 : decode cX11_goOneStep 140 = .ok (.invokevirtual 152, 3) := by decide +kernel
theorem dX11_goOneStep_143 : decode cX11_goOneStep 143 = .ok (.istore 6, 2) := by decide +kernel
theorem dX11_goOneStep_145 : decode cX11_goOneStep 145 = .ok (.iload 6, 2) := by decide +kernel
theorem dX11_goOneStep_147 : decode cX11_goOneStep 147 = .ok (.iconst (-1), 1) := by decide +kernel
theorem dX11_goOneStep_148 : decode cX11_goOneStep 148 = .ok (.if_icmp .eq 19, 3) := by decide +kernel
theorem dX11_goOneStep_151 : decode cX11_goOneStep 151 = .ok (.aload_n 1, 1) := by decide +kernel
theorem dX11_goOneStep_152 : decode cX11_goOneStep 152 = .ok (.iload 5, 2) := by decide +kernel
theorem dX11_goOneStep_154 : decode cX11_goOneStep 154 = .ok (.iload 6, 2) := by decide +kernel
theorem dX11_goOneStep_156 : decode cX11_goOneStep 156 = .ok (.bipush 10, 2) := by decide +kernel
theorem dX11_goOneStep_158 : decode cX11_goOneStep 158 = .ok (.idiv, 1) := by decide +kernel
theorem dX11_goOneStep_159 : decode cX11_goOneStep 159 = .ok (.iload 6, 2) := by decide +kernel
theorem dX11_goOneStep_161 : decode cX11_goOneStep 161 = .ok (.bipush 10, 2) := by decide +kernel
theorem dX11_goOneStep_163 : decode cX11_goOneStep 163 = .ok (.irem, 1) := by decide +kernel
theorem dX11_goOneStep_164 : decode cX11_goOneStep 164 = .ok (.invokevirtual 370, 3) := by decide +kernel
theorem dX11_goOneStep_167 : decode cX11_goOneStep 167 = .ok (.return_, 1) := by decide +kernel
theorem dX11_stepsTillSeenAgain_0 : decode cX11_stepsTillSeenAgain 0 = .ok (.aload_n 0, 1) := by decide +kernel
theorem dX11_stepsTillSeenAgain_1 : decode cX11_stepsTillSeenAgain 1 = .ok (.getfield 55, 3) := by decide +kernel
theorem dX11_stepsTillSeenAgain_4 : decode cX11_stepsTillSeenAgain 4 = .ok (.aload_n 1, 1) := by decide +kernel
theorem dX11_stepsTillSeenAgain_5 : decode cX11_stepsTillSeenAgain 5 = .ok (.invokevirtual 214, 3) := by decide +kernel
theorem dX11_stepsTillSeenAgain_8 : decode cX11_stepsTillSeenAgain 8 = .ok (.aload_n 2, 1) := by decide +kernel
theorem dX11_stepsTillSeenAgain_9 : decode cX11_stepsTillSeenAgain 9 = .ok (.getfield 156, 3) := by decide +kernel
theorem dX11_stepsTillSeenAgain_12 : decode cX11_stepsTillSeenAgain 12 = .ok (.aload_n 0, 1) := by decide +kernel
theorem dX11_stepsTillSeenAgain_13 : decode cX11_stepsTillSeenAgain 13 = .ok (.getfield 62, 3) := by decide +kernel
theorem dX11_stepsTillSeenAgain_16 : decode cX11_stepsTillSeenAgain 16 = .ok (.invokestatic 217, 3) := by decide +kernel
theorem dX11_stepsTillSeenAgain_19 : decode cX11_stepsTillSeenAgain 19 = .ok (.aload_n 0, 1) := by decide +kernel
theorem dX11_stepsTillSeenAgain_20 : decode cX11_stepsTillSeenAgain 20 = .ok (.getfield 69, 3) := by decide +kernel
theorem dX11_stepsTillSeenAgain_23 : decode cX11_stepsTillSeenAgain 23 = .ok (.iconst 0, 1) := by decide +kernel
theorem dX11_stepsTillSeenAgain_24 : decode cX11_stepsTillSeenAgain 24 = .ok (.aload_n 0, 1) := by decide +kernel
theorem dX11_stepsTillSeenAgain_25 : decode cX11_stepsTillSeenAgain 25 = .ok (.getfield 55, 3) := by decide +kernel
theorem dX11_stepsTillSeenAgain_28 : decode cX11_stepsTillSeenAgain 28 = .ok (.aload_n 0, 1) := by decide +kernel
theorem dX11_stepsTillSeenAgain_29 : decode cX11_stepsTillSeenAgain 29 = .ok (.getfield 62, 3) := by decide +kernel
theorem dX11_stepsTillSeenAgain_32 : decode cX11_stepsTillSeenAgain 32 = .ok (.invokevirtual 374, 3) := by decide +kernel
theorem dX11_stepsTillSeenAgain_35 : decode cX11_stepsTillSeenAgain 35 = .ok (.iconst 1, 1) := by decide +kernel
theorem dX11_stepsTillSeenAgain_36 : decode cX11_stepsTillSeenAgain 36 = .ok (.istore_n 3, 1) := by decide +kernel
theorem dX11_stepsTillSeenAgain_37 : decode cX11_stepsTillSeenAgain 37 = .ok (.iload_n 3, 1) := by decide +kernel
theorem dX11_stepsTillSeenAgain_38 : decode cX11_stepsTillSeenAgain 38 = .ok (.sipush 200, 3) := by decide +kernel
theorem dX11_stepsTillSeenAgain_41 : decode cX11_stepsTillSeenAgain 41 = .ok (.if_icmp .gt 52, 3) := by decide +kernel
theorem dX11_stepsTillSeenAgain_44 : decode cX11_stepsTillSeenAgain 44 = .ok (.aload_n 0, 1) := by decide +kernel
theorem dX11_stepsTillSeenAgain_45 : decode cX11_stepsTillSeenAgain 45 = .ok (.aload_n 0, 1) := by decide +kernel
theorem dX11_stepsTillSeenAgain_46 : decode cX11_stepsTillSeenAgain 46 = .ok (.getfield 55, 3) := by decide +kernel
theorem dX11_stepsTillSeenAgain_49 : decode cX11_stepsTillSeenAgain 49 = .ok (.aload_n 2, 1) := by decide +kernel
theorem dX11_stepsTillSeenAgain_50 : decode cX11_stepsTillSeenAgain 50 = .ok (.aload_n 0, 1) := by decide +kernel
theorem dX11_stepsTillSeenAgain_51 : decode cX11_stepsTillSeenAgain 51 = .ok (.getfield 62, 3) := by decide +kernel
theorem dX11_stepsTillSeenAgain_54 : decode cX11_stepsTillSeenAgain 54 = .ok (.invokevirtual 211, 3) := by decide +kernel
theorem dX11_stepsTillSeenAgain_57 : decode cX11_stepsTillSeenAgain 57 = .ok (.aload_n 0, 1) := by decide +kernel
theorem dX11_stepsTillSeenAgain_58 : decode cX11_stepsTillSeenAgain 58 = .ok (.getfield 69, 3) := by decide +kernel
theorem dX11_stepsTillSeenAgain_61 : decode cX11_stepsTillSeenAgain 61 = .ok (.iload_n 3, 1) := by decide +kernel
theorem dX11_stepsTillSeenAgain_62 : decode cX11_stepsTillSeenAgain 62 = .ok (.aload_n 0, 1) := by decide +kernel
theorem dX11_stepsTillSeenAgain_63 : decode cX11_stepsTillSeenAgain 63 = .ok (.getfield 55, 3) := by decide +kernel
theorem dX11_stepsTillSeenAgain_66 : decode cX11_stepsTillSeenAgain 66 = .ok (.aload_n 0, 1) := by decide +kernel
theorem dX11_stepsTillSeenAgain_67 : decode cX11_stepsTillSeenAgain 67 = .ok (.getfield 62, 3) := by decide +kernel
theorem dX11_stepsTillSeenAgain_70 : decode cX11_stepsTillSeenAgain 70 = .ok (.invokevirtual 374, 3) := by decide +kernel
theorem dX11_stepsTillSeenAgain_73 : decode cX11_stepsTillSeenAgain 73 = .ok (.aload_n 0, 1) := by decide +kernel
theorem dX11_stepsTillSeenAgain_74 : decode cX11_stepsTillSeenAgain 74 = .ok (.getfield 69, 3) := by decide +kernel
theorem dX11_stepsTillSeenAgain_77 : decode cX11_stepsTillSeenAgain 77 = .ok (.iload_n 3, 1) := by decide +kernel
theorem dX11_stepsTillSeenAgain_78 : decode cX11_stepsTillSeenAgain 78 = .ok (.invokevirtual 229, 3) := by decide +kernel
theorem dX11_stepsTillSeenAgain_81 : decode cX11_stepsTillSeenAgain 81 = .ok (.iconst (-1), 1) := by decide +kernel
theorem dX11_stepsTillSeenAgain_82 : decode cX11_stepsTillSeenAgain 82 = .ok (.if_icmp .eq 5, 3) := by decide +kernel
theorem dX11_stepsTillSeenAgain_85 : decode cX11_stepsTillSeenAgain 85 = .ok (.iload_n 3, 1) := by decide +kernel
theorem dX11_stepsTillSeenAgain_86 : decode cX11_stepsTillSeenAgain 86 = .ok (.ireturn, 1) := by decide +kernel
theorem dX11_stepsTillSeenAgain_87 : decode cX11_stepsTillSeenAgain 87 = .ok (.iinc 3 1, 3) := by decide +kernel
theorem dX11_stepsTillSeenAgain_90 : decode cX11_stepsTillSeenAgain 90 = .ok (.goto (-53), 3) := by decide +kernel
theorem dX11_stepsTillSeenAgain_93 : decode cX11_stepsTillSeenAgain 93 = .ok (.iconst (-1), 1) := by decide +kernel
theorem dX11_stepsTillSeenAgain_94 : decode cX11_stepsTillSeenAgain 94 = .ok (.ireturn, 1) := by decide +kernel
theorem dX11_leastAlike_0 : decode cX11_leastAlike 0 = .ok (.iconst 0, 1) := by decide +kernel
theorem dX11_leastAlike_1 : decode cX11_leastAlike 1 = .ok (.istore_n 3, 1) := by decide +kernel
theorem dX11_leastAlike_2 : decode cX11_leastAlike 2 = .ok (.iload_n 3, 1) := by decide +kernel
theorem dX11_leastAlike_3 : decode cX11_leastAlike 3 = .ok (.iload_n 2, 1) := by decide +kernel
theorem dX11_leastAlike_4 : decode cX11_leastAlike 4 = .ok (.if_icmp .ge 33, 3) := by decide +kernel
theorem dX11_leastAlike_7 : decode cX11_leastAlike 7 = .ok (.aload_n 0, 1) := by decide +kernel
theorem dX11_leastAlike_8 : decode cX11_leastAlike 8 = .ok (.getfield 83, 3) := by decide +kernel
theorem dX11_leastAlike_11 : decode cX11_leastAlike 11 = .ok (.aload_n 1, 1) := by decide +kernel
theorem dX11_leastAlike_12 : decode cX11_leastAlike 12 = .ok (.iload_n 2, 1) := by decide +kernel
theorem dX11_leastAlike_13 : decode cX11_leastAlike 13 = .ok (.aload_n 1, 1) := by decide +kernel
theorem dX11_leastAlike_14 : decode cX11_leastAlike 14 = .ok (.iload_n 3, 1) := by decide +kernel
theorem dX11_leastAlike_15 : decode cX11_leastAlike 15 = .ok (.invokevirtual 248, 3) := by decide +kernel
theorem dX11_leastAlike_18 : decode cX11_leastAlike 18 = .ok (.aload_n 0, 1) := by decide +kernel
theorem dX11_leastAlike_19 : decode cX11_leastAlike 19 = .ok (.getfield 83, 3) := by decide +kernel
theorem dX11_leastAlike_22 : decode cX11_leastAlike 22 = .ok (.getfield 252, 3) := by decide +kernel
theorem dX11_leastAlike_25 : decode cX11_leastAlike 25 = .ok (.iconst (-1), 1) := by decide +kernel
theorem dX11_leastAlike_26 : decode cX11_leastAlike 26 = .ok (.if_icmp .ne 5, 3) := by decide +kernel
theorem dX11_leastAlike_29 : decode cX11_leastAlike 29 = .ok (.iload_n 3, 1) := by decide +kernel
theorem dX11_leastAlike_30 : decode cX11_leastAlike 30 = .ok (.ireturn, 1) := by decide +kernel
theorem dX11_leastAlike_31 : decode cX11_leastAlike 31 = .ok (.iinc 3 1, 3) := by decide +kernel
theorem dX11_leastAlike_34 : decode cX11_leastAlike 34 = .ok (.goto (-32), 3) := by decide +kernel
theorem dX11_leastAlike_37 : decode cX11_leastAlike 37 = .ok (.iload_n 2, 1) := by decide +kernel
theorem dX11_leastAlike_38 : decode cX11_leastAlike 38 = .ok (.ireturn, 1) := by decide +kernel
theorem dX11_countParts_0 : decode cX11_countParts 0 = .ok (.iconst 0, 1) := by decide +kernel
theorem dX11_countParts_1 : decode cX11_countParts 1 = .ok (.istore_n 2, 1) := by decide +kernel
theorem dX11_countParts_2 : decode cX11_countParts 2 = .ok (.iconst 0, 1) := by decide +kernel
theorem dX11_countParts_3 : decode cX11_countParts 3 = .ok (.istore_n 3, 1) := by decide +kernel
theorem dX11_countParts_4 : decode cX11_countParts 4 = .ok (.iload_n 3, 1) := by decide +kernel
theorem dX11_countParts_5 : decode cX11_countParts 5 = .ok (.aload_n 1, 1) := by decide +kernel
theorem dX11_countParts_6 : decode cX11_countParts 6 = .ok (.getfield 145, 3) := by decide +kernel
theorem dX11_countParts_9 : decode cX11_countParts 9 = .ok (.if_icmp .ge 22, 3) := by decide +kernel
theorem dX11_countParts_12 : decode cX11_countParts 12 = .ok (.aload_n 0, 1) := by decide +kernel
theorem dX11_countParts_13 : decode cX11_countParts 13 = .ok (.aload_n 1, 1) := by decide +kernel
theorem dX11_countParts_14 : decode cX11_countParts 14 = .ok (.iload_n 3, 1) := by decide +kernel
theorem dX11_countParts_15 : decode cX11_countParts 15 = .ok (.invokevirtual 244, 3) := by decide +kernel
theorem dX11_countParts_18 : decode cX11_countParts 18 = .ok (.iload_n 3, 1) := by decide +kernel
theorem dX11_countParts_19 : decode cX11_countParts 19 = .ok (.if_icmp .ne 6, 3) := by decide +kernel
theorem dX11_countParts_22 : decode cX11_countParts 22 = .ok (.iinc 2 1, 3) := by decide +kernel
theorem dX11_countParts_25 : decode cX11_countParts 25 = .ok (.iinc 3 1, 3) := by decide +kernel
theorem dX11_countParts_28 : decode cX11_countParts 28 = .ok (.goto (-24), 3) := by decide +kernel
theorem dX11_countParts_31 : decode cX11_countParts 31 = .ok (.iload_n 2, 1) := by decide +kernel
theorem dX11_countParts_32 : decode cX11_countParts 32 = .ok (.ireturn, 1) := by decide +kernel
theorem dX11_barOf_0 : decode cX11_barOf 0 = .ok (.iload_n 2, 1) := by decide +kernel
theorem dX11_barOf_1 : decode cX11_barOf 1 = .ok (.istore_n 3, 1) := by decide +kernel
theorem dX11_barOf_2 : decode cX11_barOf 2 = .ok (.iconst 0, 1) := by decide +kernel
theorem dX11_barOf_3 : decode cX11_barOf 3 = .ok (.istore 4, 2) := by decide +kernel
theorem dX11_barOf_5 : decode cX11_barOf 5 = .ok (.iload 4, 2) := by decide +kernel
theorem dX11_barOf_7 : decode cX11_barOf 7 = .ok (.iconst 1, 1) := by decide +kernel
theorem dX11_barOf_8 : decode cX11_barOf 8 = .ok (.iadd, 1) := by decide +kernel
theorem dX11_barOf_9 : decode cX11_barOf 9 = .ok (.aload_n 1, 1) := by decide +kernel
theorem dX11_barOf_10 : decode cX11_barOf 10 = .ok (.getfield 307, 3) := by decide +kernel
theorem dX11_barOf_13 : decode cX11_barOf 13 = .ok (.if_icmp .ge 64, 3) := by decide +kernel
theorem dX11_barOf_16 : decode cX11_barOf 16 = .ok (.aload_n 0, 1) := by decide +kernel
theorem dX11_barOf_17 : decode cX11_barOf 17 = .ok (.iload_n 3, 1) := by decide +kernel
theorem dX11_barOf_18 : decode cX11_barOf 18 = .ok (.aload_n 1, 1) := by decide +kernel
theorem dX11_barOf_19 : decode cX11_barOf 19 = .ok (.getfield 308, 3) := by decide +kernel
theorem dX11_barOf_22 : decode cX11_barOf 22 = .ok (.iload 4, 2) := by decide +kernel
theorem dX11_barOf_24 : decode cX11_barOf 24 = .ok (.invokestatic 159, 3) := by decide +kernel
theorem dX11_barOf_27 : decode cX11_barOf 27 = .ok (.invokevirtual 152, 3) := by decide +kernel
theorem dX11_barOf_30 : decode cX11_barOf 30 = .ok (.istore 5, 2) := by decide +kernel
theorem dX11_barOf_32 : decode cX11_barOf 32 = .ok (.iload 5, 2) := by decide +kernel
theorem dX11_barOf_34 : decode cX11_barOf 34 = .ok (.iconst (-1), 1) := by decide +kernel
theorem dX11_barOf_35 : decode cX11_barOf 35 = .ok (.if_icmp .ne 6, 3) := by decide +kernel
theorem dX11_barOf_38 : decode cX11_barOf 38 = .ok (.iload 4, 2) := by decide +kernel
theorem dX11_barOf_40 : decode cX11_barOf 40 = .ok (.ireturn, 1) := by decide +kernel
theorem dX11_barOf_41 : decode cX11_barOf 41 = .ok (.iload 5, 2) := by decide +kernel
theorem dX11_barOf_43 : decode cX11_barOf 43 = .ok (.bipush 10, 2) := by decide +kernel
theorem dX11_barOf_45 : decode cX11_barOf 45 = .ok (.irem, 1) := by decide +kernel
theorem dX11_barOf_46 : decode cX11_barOf 46 = .ok (.aload_n 1, 1) := by decide +kernel
theorem dX11_barOf_47 : decode cX11_barOf 47 = .ok (.getfield 308, 3) := by decide +kernel
theorem dX11_barOf_50 : decode cX11_barOf 50 = .ok (.iload 4, 2) := by decide +kernel
theorem dX11_barOf_52 : decode cX11_barOf 52 = .ok (.iconst 1, 1) := by decide +kernel
theorem dX11_barOf_53 : decode cX11_barOf 53 = .ok (.iadd, 1) := by decide +kernel
theorem dX11_barOf_54 : decode cX11_barOf 54 = .ok (.invokestatic 159, 3) := by decide +kernel
theorem dX11_barOf_57 : decode cX11_barOf 57 = .ok (.if_icmp .eq 8, 3) := by decide +kernel
theorem dX11_barOf_60 : decode cX11_barOf 60 = .ok (.iload 4, 2) := by decide +kernel
theorem dX11_barOf_62 : decode cX11_barOf 62 = .ok (.iconst 1, 1) := by decide +kernel
theorem dX11_barOf_63 : decode cX11_barOf 63 = .ok (.iadd, 1) := by decide +kernel
theorem dX11_barOf_64 : decode cX11_barOf 64 = .ok (.ireturn, 1) := by decide +kernel
theorem dX11_barOf_65 : decode cX11_barOf 65 = .ok (.iload 5, 2) := by decide +kernel
theorem dX11_barOf_67 : decode cX11_barOf 67 = .ok (.bipush 10, 2) := by decide +kernel
theorem dX11_barOf_69 : decode cX11_barOf 69 = .ok (.idiv, 1) := by decide +kernel
theorem dX11_barOf_70 : decode cX11_barOf 70 = .ok (.istore_n 3, 1) := by decide +kernel
theorem dX11_barOf_71 : decode cX11_barOf 71 = .ok (.iinc 4 2, 3) := by decide +kernel
theorem dX11_barOf_74 : decode cX11_barOf 74 = .ok (.goto (-69), 3) := by decide +kernel
theorem dX11_barOf_77 : decode cX11_barOf 77 = .ok (.iconst (-1), 1) := by decide +kernel
theorem dX11_barOf_78 : decode cX11_barOf 78 = .ok (.ireturn, 1) := by decide +kernel
theorem dX11_sumOfLying_0 : decode cX11_sumOfLying 0 = .ok (.iconst 0, 1) := by decide +kernel
theorem dX11_sumOfLying_1 : decode cX11_sumOfLying 1 = .ok (.istore_n 1, 1) := by decide +kernel
theorem dX11_sumOfLying_2 : decode cX11_sumOfLying 2 = .ok (.iconst 0, 1) := by decide +kernel
theorem dX11_sumOfLying_3 : decode cX11_sumOfLying 3 = .ok (.istore_n 2, 1) := by decide +kernel
theorem dX11_sumOfLying_4 : decode cX11_sumOfLying 4 = .ok (.iload_n 2, 1) := by decide +kernel
theorem dX11_sumOfLying_5 : decode cX11_sumOfLying 5 = .ok (.aload_n 0, 1) := by decide +kernel
theorem dX11_sumOfLying_6 : decode cX11_sumOfLying 6 = .ok (.getfield 108, 3) := by decide +kernel
theorem dX11_sumOfLying_9 : decode cX11_sumOfLying 9 = .ok (.if_icmp .ge 37, 3) := by decide +kernel
theorem dX11_sumOfLying_12 : decode cX11_sumOfLying 12 = .ok (.iconst 0, 1) := by decide +kernel
theorem dX11_sumOfLying_13 : decode cX11_sumOfLying 13 = .ok (.istore_n 3, 1) := by decide +kernel
theorem dX11_sumOfLying_14 : decode cX11_sumOfLying 14 = .ok (.iload_n 3, 1) := by decide +kernel
theorem dX11_sumOfLying_15 : decode cX11_sumOfLying 15 = .ok (.bipush 10, 2) := by decide +kernel
theorem dX11_sumOfLying_17 : decode cX11_sumOfLying 17 = .ok (.if_icmp .ge 23, 3) := by decide +kernel
theorem dX11_sumOfLying_20 : decode cX11_sumOfLying 20 = .ok (.iload_n 1, 1) := by decide +kernel
theorem dX11_sumOfLying_21 : decode cX11_sumOfLying 21 = .ok (.aload_n 0, 1) := by decide +kernel
theorem dX11_sumOfLying_22 : decode cX11_sumOfLying 22 = .ok (.getfield 18, 3) := by decide +kernel
theorem dX11_sumOfLying_25 : decode cX11_sumOfLying 25 = .ok (.iload_n 2, 1) := by decide +kernel
theorem dX11_sumOfLying_26 : decode cX11_sumOfLying 26 = .ok (.aaload, 1) := by decide +kernel
theorem dX11_sumOfLying_27 : decode cX11_sumOfLying 27 = .ok (.getfield 156, 3) := by decide +kernel
theorem dX11_sumOfLying_30 : decode cX11_sumOfLying 30 = .ok (.iload_n 3, 1) := by decide +kernel
theorem dX11_sumOfLying_31 : decode cX11_sumOfLying 31 = .ok (.iaload, 1) := by decide +kernel
theorem dX11_sumOfLying_32 : decode cX11_sumOfLying 32 = .ok (.iadd, 1) := by decide +kernel
theorem dX11_sumOfLying_33 : decode cX11_sumOfLying 33 = .ok (.istore_n 1, 1) := by decide +kernel
theorem dX11_sumOfLying_34 : decode cX11_sumOfLying 34 = .ok (.iinc 3 1, 3) := by decide +kernel
theorem dX11_sumOfLying_37 : decode cX11_sumOfLying 37 = .ok (.goto (-23), 3) := by decide +kernel
theorem dX11_sumOfLying_40 : decode cX11_sumOfLying 40 = .ok (.iinc 2 1, 3) := by decide +kernel
theorem dX11_sumOfLying_43 : decode cX11_sumOfLying 43 = .ok (.goto (-39), 3) := by decide +kernel
theorem dX11_sumOfLying_46 : decode cX11_sumOfLying 46 = .ok (.iload_n 1, 1) := by decide +kernel
theorem dX11_sumOfLying_47 : decode cX11_sumOfLying 47 = .ok (.ireturn, 1) := by decide +kernel
theorem dX11_sumOfBags_0 : decode cX11_sumOfBags 0 = .ok (.iconst 0, 1) := by decide +kernel
theorem dX11_sumOfBags_1 : decode cX11_sumOfBags 1 = .ok (.istore_n 1, 1) := by decide +kernel
theorem dX11_sumOfBags_2 : decode cX11_sumOfBags 2 = .ok (.iconst 0, 1) := by decide +kernel
theorem dX11_sumOfBags_3 : decode cX11_sumOfBags 3 = .ok (.istore_n 2, 1) := by decide +kernel
theorem dX11_sumOfBags_4 : decode cX11_sumOfBags 4 = .ok (.iload_n 2, 1) := by decide +kernel
theorem dX11_sumOfBags_5 : decode cX11_sumOfBags 5 = .ok (.aload_n 0, 1) := by decide +kernel
theorem dX11_sumOfBags_6 : decode cX11_sumOfBags 6 = .ok (.getfield 167, 3) := by decide +kernel
theorem dX11_sumOfBags_9 : decode cX11_sumOfBags 9 = .ok (.if_icmp .ge 21, 3) := by decide +kernel
theorem dX11_sumOfBags_12 : decode cX11_sumOfBags 12 = .ok (.iload_n 1, 1) := by decide +kernel
theorem dX11_sumOfBags_13 : decode cX11_sumOfBags 13 = .ok (.aload_n 0, 1) := by decide +kernel
theorem dX11_sumOfBags_14 : decode cX11_sumOfBags 14 = .ok (.getfield 24, 3) := by decide +kernel
theorem dX11_sumOfBags_17 : decode cX11_sumOfBags 17 = .ok (.iload_n 2, 1) := by decide +kernel
theorem dX11_sumOfBags_18 : decode cX11_sumOfBags 18 = .ok (.aaload, 1) := by decide +kernel
theorem dX11_sumOfBags_19 : decode cX11_sumOfBags 19 = .ok (.getfield 182, 3) := by decide +kernel
theorem dX11_sumOfBags_22 : decode cX11_sumOfBags 22 = .ok (.iadd, 1) := by decide +kernel
theorem dX11_sumOfBags_23 : decode cX11_sumOfBags 23 = .ok (.istore_n 1, 1) := by decide +kernel
theorem dX11_sumOfBags_24 : decode cX11_sumOfBags 24 = .ok (.iinc 2 1, 3) := by decide +kernel
theorem dX11_sumOfBags_27 : decode cX11_sumOfBags 27 = .ok (.goto (-23), 3) := by decide +kernel
theorem dX11_sumOfBags_30 : decode cX11_sumOfBags 30 = .ok (.iload_n 1, 1) := by decide +kernel
theorem dX11_sumOfBags_31 : decode cX11_sumOfBags 31 = .ok (.ireturn, 1) := by decide +kernel
theorem dX12_in_0 : decode cX12_in 0 = .ok (.lload_n 0, 1) := by decide +kernel
theorem dX12_in_1 : decode cX12_in 1 = .ok (.lload_n 2, 1) := by decide +kernel
theorem dX12_in_2 : decode cX12_in 2 = .ok (.lcmp, 1) := by decide +kernel
theorem dX12_in_3 : decode cX12_in 3 = .ok (.ifCond .lt 14, 3) := by decide +kernel
theorem dX12_in_6 : decode cX12_in 6 = .ok (.lload_n 0, 1) := by decide +kernel
theorem dX12_in_7 : decode cX12_in 7 = .ok (.lload 4, 2) := by decide +kernel
theorem dX12_in_9 : decode cX12_in 9 = .ok (.lcmp, 1) := by decide +kernel
theorem dX12_in_10 : decode cX12_in 10 = .ok (.ifCond .gt 7, 3) := by decide +kernel
theorem dX12_in_13 : decode cX12_in 13 = .ok (.iconst 1, 1) := by decide +kernel
theorem dX12_in_14 : decode cX12_in 14 = .ok (.goto 4, 3) := by decide +kernel
theorem dX12_in_17 : decode cX12_in 17 = .ok (.iconst 0, 1) := by decide +kernel
theorem dX12_in_18 : decode cX12_in 18 = .ok (.ireturn, 1) := by decide +kernel
theorem dX12_init_0 : decode cX12_init 0 = .ok (.aload_n 0, 1) := by decide +kernel
theorem dX12_init_1 : decode cX12_init 1 = .ok (.invokespecial 7, 3) := by decide +kernel
theorem dX12_init_4 : decode cX12_init 4 = .ok (.aload_n 0, 1) := by decide +kernel
theorem dX12_init_5 : decode cX12_init 5 = .ok (.sipush 960, 3) := by decide +kernel
theorem dX12_init_8 : decode cX12_init 8 = .ok (.newarray .int, 2) := by decide +kernel
theorem dX12_init_10 : decode cX12_init 10 = .ok (.putfield 13, 3) := by decide +kernel
theorem dX12_init_13 : decode cX12_init 13 = .ok (.aload_n 0, 1) := by decide +kernel
theorem dX12_init_14 : decode cX12_init 14 = .ok (.bipush 6, 2) := by decide +kernel
theorem dX12_init_16 : decode cX12_init 16 = .ok (.newarray .int, 2) := by decide +kernel
theorem dX12_init_18 : decode cX12_init 18 = .ok (.putfield 17, 3) := by decide +kernel
theorem dX12_init_21 : decode cX12_init 21 = .ok (.aload_n 0, 1) := by decide +kernel
theorem dX12_init_22 : decode cX12_init 22 = .ok (.sipush 160, 3) := by decide +kernel
theorem dX12_init_25 : decode cX12_init 25 = .ok (.newarray .int, 2) := by decide +kernel
theorem dX12_init_27 : decode cX12_init 27 = .ok (.putfield 20, 3) := by decide +kernel
theorem dX12_init_30 : decode cX12_init 30 = .ok (.aload_n 0, 1) := by decide +kernel
theorem dX12_init_31 : decode cX12_init 31 = .ok (.sipush 160, 3) := by decide +kernel
theorem dX12_init_34 : decode cX12_init 34 = .ok (.newarray .int, 2) := by decide +kernel
theorem dX12_init_36 : decode cX12_init 36 = .ok (.putfield 23, 3) := by decide +kernel
theorem dX12_init_39 : decode cX12_init 39 = .ok (.aload_n 0, 1) := by decide +kernel
theorem dX12_init_40 : decode cX12_init 40 = .ok (.iconst 4, 1) := by decide +kernel
theorem dX12_init_41 : decode cX12_init 41 = .ok (.newarray .int, 2) := by decide +kernel
theorem dX12_init_43 : decode cX12_init 43 = .ok (.putfield 26, 3) := by decide +kernel
theorem dX12_init_46 : decode cX12_init 46 = .ok (.aload_n 0, 1) := by decide +kernel
theorem dX12_init_47 : decode cX12_init 47 = .ok (.bipush 40, 2) := by decide +kernel
theorem dX12_init_49 : decode cX12_init 49 = .ok (.newarray .int, 2) := by decide +kernel
theorem dX12_init_51 : decode cX12_init 51 = .ok (.putfield 29, 3) := by decide +kernel
theorem dX12_init_54 : decode cX12_init 54 = .ok (.aload_n 0, 1) := by decide +kernel
theorem dX12_init_55 : decode cX12_init 55 = .ok (.bipush 8, 2) := by decide +kernel
theorem dX12_init_57 : decode cX12_init 57 = .ok (.newarray .int, 2) := by decide +kernel
theorem dX12_init_59 : decode cX12_init 59 = .ok (.putfield 32, 3) := by decide +kernel
theorem dX12_init_62 : decode cX12_init 62 = .ok (.aload_n 0, 1) := by decide +kernel
theorem dX12_init_63 : decode cX12_init 63 = .ok (.bipush 8, 2) := by decide +kernel
theorem dX12_init_65 : decode cX12_init 65 = .ok (.newarray .int, 2) := by decide +kernel
theorem dX12_init_67 : decode cX12_init 67 = .ok (.putfield 35, 3) := by decide +kernel
theorem dX12_init_70 : decode cX12_init 70 = .ok (.aload_n 0, 1) := by decide +kernel
theorem dX12_init_71 : decode cX12_init 71 = .ok (.bipush 8, 2) := by decide +kernel
theorem dX12_init_73 : decode cX12_init 73 = .ok (.newarray .int, 2) := by decide +kernel
theorem dX12_init_75 : decode cX12_init 75 = .ok (.putfield 38, 3) := by decide +kernel
theorem dX12_init_78 : decode cX12_init 78 = .ok (.aload_n 0, 1) := by decide +kernel
theorem dX12_init_79 : decode cX12_init 79 = .ok (.bipush 8, 2) := by decide +kernel
theorem dX12_init_81 : decode cX12_init 81 = .ok (.newarray .int, 2) := by decide +kernel
theorem dX12_init_83 : decode cX12_init 83 = .ok (.putfield 41, 3) := by decide +kernel
theorem dX12_init_86 : decode cX12_init 86 = .ok (.aload_n 0, 1) := by decide +kernel
theorem dX12_init_87 : decode cX12_init 87 = .ok (.bipush 8, 2) := by decide +kernel
theorem dX12_init_89 : decode cX12_init 89 = .ok (.newarray .int, 2) := by decide +kernel
theorem dX12_init_91 : decode cX12_init 91 = .ok (.putfield 44, 3) := by decide +kernel
theorem dX12_init_94 : decode cX12_init 94 = .ok (.aload_n 0, 1) := by decide +kernel
theorem dX12_init_95 : decode cX12_init 95 = .ok (.bipush 8, 2) := by decide +kernel
theorem dX12_init_97 : decode cX12_init 97 = .ok (.newarray .int, 2) := by decide +kernel
theorem dX12_init_99 : decode cX12_init 99 = .ok (.putfield 47, 3) := by decide +kernel
theorem dX12_init_102 : decode cX12_init 102 = .ok (.aload_n 0, 1) := by decide +kernel
theorem dX12_init_103 : decode cX12_init 103 = .ok (.bipush 8, 2) := by decide +kernel
theorem dX12_init_105 : decode cX12_init 105 = .ok (.newarray .int, 2) := by decide +kernel
theorem dX12_init_107 : decode cX12_init 107 = .ok (.putfield 50, 3) := by decide +kernel
theorem dX12_init_110 : decode cX12_init 110 = .ok (.aload_n 0, 1) := by decide +kernel
theorem dX12_init_111 : decode cX12_init 111 = .ok (.bipush 80, 2) := by decide +kernel
theorem dX12_init_113 : decode cX12_init 113 = .ok (.newarray .int, 2) := by decide +kernel
theorem dX12_init_115 : decode cX12_init 115 = .ok (.putfield 53, 3) := by decide +kernel
theorem dX12_init_118 : decode cX12_init 118 = .ok (.aload_n 0, 1) := by decide +kernel
theorem dX12_init_119 : decode cX12_init 119 = .ok (.bipush 46, 2) := by decide +kernel
theorem dX12_init_121 : decode cX12_init 121 = .ok (.newarray .int, 2) := by decide +kernel
theorem dX12_init_123 : decode cX12_init 123 = .ok (.putfield 56, 3) := by decide +kernel
theorem dX12_init_126 : decode cX12_init 126 = .ok (.aload_n 0, 1) := by decide +kernel
theorem dX12_init_127 : decode cX12_init 127 = .ok (.sipush 4623, 3) := by decide +kernel
theorem dX12_init_130 : decode cX12_init 130 = .ok (.newarray .int, 2) := by decide +kernel
theorem dX12_init_132 : decode cX12_init 132 = .ok (.putfield 59, 3) := by decide +kernel
theorem dX12_init_135 : decode cX12_init 135 = .ok (.aload_n 0, 1) := by decide +kernel
theorem dX12_init_136 : decode cX12_init 136 = .ok (.bipush 10, 2) := by decide +kernel
theorem dX12_init_138 : decode cX12_init 138 = .ok (.newarray .int, 2) := by decide +kernel
theorem dX12_init_140 : decode cX12_init 140 = .ok (.putfield 62, 3) := by decide +kernel
theorem dX12_init_143 : decode cX12_init 143 = .ok (.aload_n 0, 1) := by decide +kernel
theorem dX12_init_144 : decode cX12_init 144 = .ok (.bipush 10, 2) := by decide +kernel
theorem dX12_init_146 : decode cX12_init 146 = .ok (.newarray .int, 2) := by decide +kernel
theorem dX12_init_148 : decode cX12_init 148 = .ok (.putfield 65, 3) := by decide +kernel
theorem dX12_init_151 : decode cX12_init 151 = .ok (.aload_n 0, 1) := by decide +kernel
theorem dX12_init_152 : decode cX12_init 152 = .ok (.bipush 100, 2) := by decide +kernel
theorem dX12_init_154 : decode cX12_init 154 = .ok (.newarray .boolean, 2) := by decide +kernel
theorem dX12_init_156 : decode cX12_init 156 = .ok (.putfield 68, 3) := by decide +kernel
theorem dX12_init_159 : decode cX12_init 159 = .ok (.aload_n 0, 1) := by decide +kernel
theorem dX12_init_160 : decode cX12_init 160 = .ok (.bipush 100, 2) := by decide +kernel
theorem dX12_init_162 : decode cX12_init 162 = .ok (.newarray .int, 2) := by decide +kernel
theorem dX12_init_164 : decode cX12_init 164 = .ok (.putfield 72, 3) := by decide +kernel
theorem dX12_init_167 : decode cX12_init 167 = .ok (.aload_n 0, 1) := by decide +kernel
theorem dX12_init_168 : decode cX12_init 168 = .ok (.bipush 100, 2) := by decide +kernel
theorem dX12_init_170 : decode cX12_init 170 = .ok (.newarray .int, 2) := by decide +kernel
theorem dX12_init_172 : decode cX12_init 172 = .ok (.putfield 75, 3) := by decide +kernel
theorem dX12_init_175 : decode cX12_init 175 = .ok (.aload_n 0, 1) := by decide +kernel
theorem dX12_init_176 : decode cX12_init 176 = .ok (.bipush 100, 2) := by decide +kernel
theorem dX12_init_178 : decode cX12_init 178 = .ok (.newarray .int, 2) := by decide +kernel
theorem dX12_init_180 : decode cX12_init 180 = .ok (.putfield 78, 3) := by decide +kernel
theorem dX12_init_183 : decode cX12_init 183 = .ok (.aload_n 0, 1) := by decide +kernel
theorem dX12_init_184 : decode cX12_init 184 = .ok (.sipush 10240, 3) := by decide +kernel
theorem dX12_init_187 : decode cX12_init 187 = .ok (.newarray .int, 2) := by decide +kernel
theorem dX12_init_189 : decode cX12_init 189 = .ok (.putfield 81, 3) := by decide +kernel
theorem dX12_init_192 : decode cX12_init 192 = .ok (.aload_n 0, 1) := by decide +kernel
theorem dX12_init_193 : decode cX12_init 193 = .ok (.sipush 10240, 3) := by decide +kernel
theorem dX12_init_196 : decode cX12_init 196 = .ok (.newarray .int, 2) := by decide +kernel
theorem dX12_init_198 : decode cX12_init 198 = .ok (.putfield 84, 3) := by decide +kernel
theorem dX12_init_201 : decode cX12_init 201 = .ok (.aload_n 0, 1) := by decide +kernel
theorem dX12_init_202 : decode cX12_init 202 = .ok (.bipush 10, 2) := by decide +kernel
theorem dX12_init_204 : decode cX12_init 204 = .ok (.newarray .int, 2) := by decide +kernel
theorem dX12_init_206 : decode cX12_init 206 = .ok (.putfield 87, 3) := by decide +kernel
theorem dX12_init_209 : decode cX12_init 209 = .ok (.aload_n 0, 1) := by decide +kernel
theorem dX12_init_210 : decode cX12_init 210 = .ok (.sipush 184, 3) := by decide +kernel
theorem dX12_init_213 : decode cX12_init 213 = .ok (.newarray .int, 2) := by decide +kernel
theorem dX12_init_215 : decode cX12_init 215 = .ok (.putfield 90, 3) := by decide +kernel
theorem dX12_init_218 : decode cX12_init 218 = .ok (.aload_n 0, 1) := by decide +kernel
theorem dX12_init_219 : decode cX12_init 219 = .ok (.bipush 8, 2) := by decide +kernel
theorem dX12_init_221 : decode cX12_init 221 = .ok (.newarray .int, 2) := by decide +kernel
theorem dX12_init_223 : decode cX12_init 223 = .ok (.putfield 93, 3) := by decide +kernel
theorem dX12_init_226 : decode cX12_init 226 = .ok (.aload_n 0, 1) := by decide +kernel
theorem dX12_init_227 : decode cX12_init 227 = .ok (.bipush 40, 2) := by decide +kernel
theorem dX12_init_229 : decode cX12_init 229 = .ok (.newarray .int, 2) := by decide +kernel
theorem dX12_init_231 : decode cX12_init 231 = .ok (.putfield 96, 3) := by decide +kernel
theorem dX12_init_234 : decode cX12_init 234 = .ok (.aload_n 0, 1) := by decide +kernel
theorem dX12_init_235 : decode cX12_init 235 = .ok (.iconst 4, 1) := by decide +kernel
theorem dX12_init_236 : decode cX12_init 236 = .ok (.newarray .boolean, 2) := by decide +kernel
theorem dX12_init_238 : decode cX12_init 238 = .ok (.putfield 99, 3) := by decide +kernel
theorem dX12_init_241 : decode cX12_init 241 = .ok (.aload_n 0, 1) := by decide +kernel
theorem dX12_init_242 : decode cX12_init 242 = .ok (.iconst 4, 1) := by decide +kernel
theorem dX12_init_243 : decode cX12_init 243 = .ok (.newarray .int, 2) := by decide +kernel
theorem dX12_init_245 : decode cX12_init 245 = .ok (.putfield 102, 3) := by decide +kernel
theorem dX12_init_248 : decode cX12_init 248 = .ok (.aload_n 0, 1) := by decide +kernel
theorem dX12_init_249 : decode cX12_init 249 = .ok (.iconst 4, 1) := by decide +kernel
theorem dX12_init_250 : decode cX12_init 250 = .ok (.newarray .int, 2) := by decide +kernel
theorem dX12_init_252 : decode cX12_init 252 = .ok (.putfield 105, 3) := by decide +kernel
theorem dX12_init_255 : decode cX12_init 255 = .ok (.aload_n 0, 1) := by decide +kernel
theorem dX12_init_256 : decode cX12_init 256 = .ok (.sipush 160, 3) := by decide +kernel
theorem dX12_init_259 : decode cX12_init 259 = .ok (.newarray .int, 2) := by decide +kernel
theorem dX12_init_261 : decode cX12_init 261 = .ok (.putfield 108, 3) := by decide +kernel
theorem dX12_init_264 : decode cX12_init 264 = .ok (.aload_n 0, 1) := by decide +kernel
theorem dX12_init_265 : decode cX12_init 265 = .ok (.iconst 0, 1) := by decide +kernel
theorem dX12_init_266 : decode cX12_init 266 = .ok (.ldc2_w 111, 3) := by decide +kernel
theorem dX12_init_269 : decode cX12_init 269 = .ok (.invokevirtual 113, 3) := by decide +kernel
theorem dX12_init_272 : decode cX12_init 272 = .ok (.aload_n 0, 1) := by decide +kernel
theorem dX12_init_273 : decode cX12_init 273 = .ok (.bipush 8, 2) := by decide +kernel
theorem dX12_init_275 : decode cX12_init 275 = .ok (.ldc2_w 117, 3) := by decide +kernel
theorem dX12_init_278 : decode cX12_init 278 = .ok (.invokevirtual 113, 3) := by decide +kernel
theorem dX12_init_281 : decode cX12_init 281 = .ok (.aload_n 0, 1) := by decide +kernel
theorem dX12_init_282 : decode cX12_init 282 = .ok (.bipush 16, 2) := by decide +kernel
theorem dX12_init_284 : decode cX12_init 284 = .ok (.ldc2_w 119, 3) := by decide +kernel
theorem dX12_init_287 : decode cX12_init 287 = .ok (.invokevirtual 113, 3) := by decide +kernel
theorem dX12_init_290 : decode cX12_init 290 = .ok (.aload_n 0, 1) := by decide +kernel
theorem dX12_init_291 : decode cX12_init 291 = .ok (.bipush 24, 2) := by decide +kernel
theorem dX12_init_293 : decode cX12_init 293 = .ok (.ldc2_w 121, 3) := by decide +kernel
theorem dX12_init_296 : decode cX12_init 296 = .ok (.invokevirtual 113, 3) := by decide +kernel
theorem dX12_init_299 : decode cX12_init 299 = .ok (.aload_n 0, 1) := by decide +kernel
theorem dX12_init_300 : decode cX12_init 300 = .ok (.bipush 32, 2) := by decide +kernel
theorem dX12_init_302 : decode cX12_init 302 = .ok (.ldc2_w 123, 3) := by decide +kernel
theorem dX12_init_305 : decode cX12_init 305 = .ok (.invokevirtual 113, 3) := by decide +kernel
theorem dX12_init_308 : decode cX12_init 308 = .ok (.aload_n 0, 1) := by decide +kernel
theorem dX12_init_309 : decode cX12_init 309 = .ok (.getfield 17, 3) := by decide +kernel
theorem dX12_init_312 : decode cX12_init 312 = .ok (.iconst 0, 1) := by decide +kernel
theorem dX12_init_313 : decode cX12_init 313 = .ok (.bipush 40, 2) := by decide +kernel
theorem dX12_init_315 : decode cX12_init 315 = .ok (.iastore, 1) := by decide +kernel
theorem dX12_init_316 : decode cX12_init 316 = .ok (.aload_n 0, 1) := by decide +kernel
theorem dX12_init_317 : decode cX12_init 317 = .ok (.iconst 1, 1) := by decide +kernel
theorem dX12_init_318 : decode cX12_init 318 = .ok (.putfield 125, 3) := by decide +kernel
theorem dX12_init_321 : decode cX12_init 321 = .ok (.return_, 1) := by decide +kernel
theorem dX12_spell_0 : decode cX12_spell 0 = .ok (.iconst 0, 1) := by decide +kernel
theorem dX12_spell_1 : decode cX12_spell 1 = .ok (.istore 4, 2) := by decide +kernel
theorem dX12_spell_3 : decode cX12_spell 3 = .ok (.iload 4, 2) := by decide +kernel
theorem dX12_spell_5 : decode cX12_spell 5 = .ok (.bipush 8, 2) := by decide +kernel
theorem dX12_spell_7 : decode cX12_spell 7 = .ok (.if_icmp .ge 33, 3) := by decide +kernel
theorem dX12_spell_10 : decode cX12_spell 10 = .ok (.aload_n 0, 1) := by decide +kernel
theorem dX12_spell_11 : decode cX12_spell 11 = .ok (.getfield 13, 3) := by decide +kernel
theorem dX12_spell_14 : decode cX12_spell 14 = .ok (.iload_n 1, 1) := by decide +kernel
theorem dX12_spell_15 : decode cX12_spell 15 = .ok (.iload 4, 2) := by decide +kernel
theorem dX12_spell_17 : decode cX12_spell 17 = .ok (.iadd, 1) := by decide +kernel
theorem dX12_spell_18 : decode cX12_spell 18 = .ok (.lload_n 2, 1) := by decide +kernel
theorem dX12_spell_19 : decode cX12_spell 19 = .ok (.bipush 56, 2) := by decide +kernel
theorem dX12_spell_21 : decode cX12_spell 21 = .ok (.bipush 8, 2) := by decide +kernel
theorem dX12_spell_23 : decode cX12_spell 23 = .ok (.iload 4, 2) := by decide +kernel
theorem dX12_spell_25 : decode cX12_spell 25 = .ok (.imul, 1) := by decide +kernel
theorem dX12_spell_26 : decode cX12_spell 26 = .ok (.isub, 1) := by decide +kernel
theorem dX12_spell_27 : decode cX12_spell 27 = .ok (.lshr, 1) := by decide +kernel
theorem dX12_spell_28 : decode cX12_spell 28 = .ok (.ldc2_w 128, 3) := by decide +kernel
theorem dX12_spell_31 : decode cX12_spell 31 = .ok (.land, 1) := by decide +kernel
theorem dX12_spell_32 : decode cX12_spell 32 = .ok (.l2i, 1) := by decide +kernel
theorem dX12_spell_33 : decode cX12_spell 33 = .ok (.iastore, 1) := by decide +kernel
theorem dX12_spell_34 : decode cX12_spell 34 = .ok (.iinc 4 1, 3) := by decide +kernel
theorem dX12_spell_37 : decode cX12_spell 37 = .ok (.goto (-34), 3) := by decide +kernel
theorem dX12_spell_40 : decode cX12_spell 40 = .ok (.return_, 1) := by decide +kernel
theorem dX12_isMaze_0 : decode cX12_isMaze 0 = .ok (.iload_n 1, 1) := by decide +kernel
theorem dX12_isMaze_1 : decode cX12_isMaze 1 = .ok (.i2l, 1) := by decide +kernel
theorem dX12_isMaze_2 : decode cX12_isMaze 2 = .ok (.lconst 0, 1) := by decide +kernel
theorem dX12_isMaze_3 : decode cX12_isMaze 3 = .ok (.aload_n 0, 1) := by decide +kernel
theorem dX12_isMaze_4 : decode cX12_isMaze 4 = .ok (.getfield 130, 3) := by decide +kernel
theorem dX12_isMaze_7 : decode cX12_isMaze 7 = .ok (.iconst 1, 1) := by decide +kernel
theorem dX12_isMaze_8 : decode cX12_isMaze 8 = .ok (.isub, 1) := by decide +kernel
theorem dX12_isMaze_9 : decode cX12_isMaze 9 = .ok (.i2l, 1) := by decide +kernel
theorem dX12_isMaze_10 : decode cX12_isMaze 10 = .ok (.invokestatic 133, 3) := by decide +kernel
theorem dX12_isMaze_13 : decode cX12_isMaze 13 = .ok (.ireturn, 1) := by decide +kernel
theorem dX12_isRoom_0 : decode cX12_isRoom 0 = .ok (.aload_n 0, 1) := by decide +kernel
theorem dX12_isRoom_1 : decode cX12_isRoom 1 = .ok (.iload_n 1, 1) := by decide +kernel
theorem dX12_isRoom_2 : decode cX12_isRoom 2 = .ok (.invokevirtual 137, 3) := by decide +kernel
theorem dX12_isRoom_5 : decode cX12_isRoom 5 = .ok (.ifCond .eq 25, 3) := by decide +kernel
theorem dX12_isRoom_8 : decode cX12_isRoom 8 = .ok (.iload_n 2, 1) := by decide +kernel
theorem dX12_isRoom_9 : decode cX12_isRoom 9 = .ok (.i2l, 1) := by decide +kernel
theorem dX12_isRoom_10 : decode cX12_isRoom 10 = .ok (.lconst 0, 1) := by decide +kernel
theorem dX12_isRoom_11 : decode cX12_isRoom 11 = .ok (.aload_n 0, 1) := by decide +kernel
theorem dX12_isRoom_12 : decode cX12_isRoom 12 = .ok (.getfield 26, 3) := by decide +kernel
theorem dX12_isRoom_15 : decode cX12_isRoom 15 = .ok (.iload_n 1, 1) := by decide +kernel
theorem dX12_isRoom_16 : decode cX12_isRoom 16 = .ok (.iaload, 1) := by decide +kernel
theorem dX12_isRoom_17 : decode cX12_isRoom 17 = .ok (.iconst 1, 1) := by decide +kernel
theorem dX12_isRoom_18 : decode cX12_isRoom 18 = .ok (.isub, 1) := by decide +kernel
theorem dX12_isRoom_19 : decode cX12_isRoom 19 = .ok (.i2l, 1) := by decide +kernel
theorem dX12_isRoom_20 : decode cX12_isRoom 20 = .ok (.invokestatic 133, 3) := by decide +kernel
theorem dX12_isRoom_23 : decode cX12_isRoom 23 = .ok (.ifCond .eq 7, 3) := by decide +kernel
theorem dX12_isRoom_26 : decode cX12_isRoom 26 = .ok (.iconst 1, 1) := by decide +kernel
theorem dX12_isRoom_27 : decode cX12_isRoom 27 = .ok (.goto 4, 3) := by decide +kernel
theorem dX12_isRoom_30 : decode cX12_isRoom 30 = .ok (.iconst 0, 1) := by decide +kernel
theorem dX12_isRoom_31 : decode cX12_isRoom 31 = .ok (.ireturn, 1) := by decide +kernel
theorem dX12_to_0 : decode cX12_to 0 = .ok (.aload_n 0, 1) := by decide +kernel
theorem dX12_to_1 : decode cX12_to 1 = .ok (.getfield 23, 3) := by decide +kernel
theorem dX12_to_4 : decode cX12_to 4 = .ok (.iconst 4, 1) := by decide +kernel
theorem dX12_to_5 : decode cX12_to 5 = .ok (.bipush 10, 2) := by decide +kernel
theorem dX12_to_7 : decode cX12_to 7 = .ok (.iload_n 1, 1) := by decide +kernel
theorem dX12_to_8 : decode cX12_to 8 = .ok (.imul, 1) := by decide +kernel
theorem dX12_to_9 : decode cX12_to 9 = .ok (.iload_n 2, 1) := by decide +kernel
theorem dX12_to_10 : decode cX12_to 10 = .ok (.iadd, 1) := by decide +kernel
theorem dX12_to_11 : decode cX12_to 11 = .ok (.imul, 1) := by decide +kernel
theorem dX12_to_12 : decode cX12_to 12 = .ok (.iload_n 3, 1) := by decide +kernel
theorem dX12_to_13 : decode cX12_to 13 = .ok (.iadd, 1) := by decide +kernel
theorem dX12_to_14 : decode cX12_to 14 = .ok (.iaload, 1) := by decide +kernel
theorem dX12_to_15 : decode cX12_to 15 = .ok (.ireturn, 1) := by decide +kernel
theorem dX12_tapeAt_0 : decode cX12_tapeAt 0 = .ok (.iload_n 1, 1) := by decide +kernel
theorem dX12_tapeAt_1 : decode cX12_tapeAt 1 = .ok (.aload_n 0, 1) := by decide +kernel
theorem dX12_tapeAt_2 : decode cX12_tapeAt 2 = .ok (.getfield 141, 3) := by decide +kernel
theorem dX12_tapeAt_5 : decode cX12_tapeAt 5 = .ok (.if_icmp .ge 12, 3) := by decide +kernel
theorem dX12_tapeAt_8 : decode cX12_tapeAt 8 = .ok (.aload_n 0, 1) := by decide +kernel
theorem dX12_tapeAt_9 : decode cX12_tapeAt 9 = .ok (.getfield 20, 3) := by decide +kernel
theorem dX12_tapeAt_12 : decode cX12_tapeAt 12 = .ok (.iload_n 1, 1) := by decide +kernel
theorem dX12_tapeAt_13 : decode cX12_tapeAt 13 = .ok (.iaload, 1) := by decide +kernel
theorem dX12_tapeAt_14 : decode cX12_tapeAt 14 = .ok (.goto 4, 3) := by decide +kernel
theorem dX12_tapeAt_17 : decode cX12_tapeAt 17 = .ok (.iconst (-1), 1) := by decide +kernel
theorem dX12_tapeAt_18 : decode cX12_tapeAt 18 = .ok (.ireturn, 1) := by decide +kernel
theorem dX12_isLetter_0 : decode cX12_isLetter 0 = .ok (.aload_n 0, 1) := by decide +kernel
theorem dX12_isLetter_1 : decode cX12_isLetter 1 = .ok (.iload_n 1, 1) := by decide +kernel
theorem dX12_isLetter_2 : decode cX12_isLetter 2 = .ok (.invokevirtual 144, 3) := by decide +kernel
theorem dX12_isLetter_5 : decode cX12_isLetter 5 = .ok (.i2l, 1) := by decide +kernel
theorem dX12_isLetter_6 : decode cX12_isLetter 6 = .ok (.ldc2_w 148, 3) := by decide +kernel
theorem dX12_isLetter_9 : decode cX12_isLetter 9 = .ok (.bipush 97, 2) := by decide +kernel
theorem dX12_isLetter_11 : decode cX12_isLetter 11 = .ok (.iload_n 2, 1) := by decide +kernel
theorem dX12_isLetter_12 : decode cX12_isLetter 12 = .ok (.iadd, 1) := by decide +kernel
theorem dX12_isLetter_13 : decode cX12_isLetter 13 = .ok (.iconst 1, 1) := by decide +kernel
theorem dX12_isLetter_14 : decode cX12_isLetter 14 = .ok (.isub, 1) := by decide +kernel
theorem dX12_isLetter_15 : decode cX12_isLetter 15 = .ok (.i2l, 1) := by decide +kernel
theorem dX12_isLetter_16 : decode cX12_isLetter 16 = .ok (.invokestatic 133, 3) := by decide +kernel
theorem dX12_isLetter_19 : decode cX12_isLetter 19 = .ok (.ireturn, 1) := by decide +kernel
theorem dX12_isDigit_0 : decode cX12_isDigit 0 = .ok (.aload_n 0, 1) := by decide +kernel
theorem dX12_isDigit_1 : decode cX12_isDigit 1 = .ok (.iload_n 1, 1) := by decide +kernel
theorem dX12_isDigit_2 : decode cX12_isDigit 2 = .ok (.invokevirtual 144, 3) := by decide +kernel
theorem dX12_isDigit_5 : decode cX12_isDigit 5 = .ok (.i2l, 1) := by decide +kernel
theorem dX12_isDigit_6 : decode cX12_isDigit 6 = .ok (.ldc2_w 150, 3) := by decide +kernel
theorem dX12_isDigit_9 : decode cX12_isDigit 9 = .ok (.ldc2_w 152, 3) := by decide +kernel
theorem dX12_isDigit_12 : decode cX12_isDigit 12 = .ok (.invokestatic 133, 3) := by decide +kernel
theorem dX12_isDigit_15 : decode cX12_isDigit 15 = .ok (.ireturn, 1) := by decide +kernel
theorem dX12_maze_0 : decode cX12_maze 0 = .ok (.aload_n 0, 1) := by decide +kernel
theorem dX12_maze_1 : decode cX12_maze 1 = .ok (.getfield 130, 3) := by decide +kernel
theorem dX12_maze_4 : decode cX12_maze 4 = .ok (.iconst 4, 1) := by decide +kernel
theorem dX12_maze_5 : decode cX12_maze 5 = .ok (.if_icmp .ne 6, 3) := by decide +kernel
theorem dX12_maze_8 : decode cX12_maze 8 = .ok (.bipush (-4), 2) := by decide +kernel
theorem dX12_maze_10 : decode cX12_maze 10 = .ok (.ireturn, 1) := by decide +kernel
theorem dX12_maze_11 : decode cX12_maze 11 = .ok (.aload_n 0, 1) := by decide +kernel
theorem dX12_maze_12 : decode cX12_maze 12 = .ok (.invokevirtual 154, 3) := by decide +kernel
theorem dX12_maze_15 : decode cX12_maze 15 = .ok (.istore_n 1, 1) := by decide +kernel
theorem dX12_maze_16 : decode cX12_maze 16 = .ok (.aload_n 0, 1) := by decide +kernel
theorem dX12_maze_17 : decode cX12_maze 17 = .ok (.iconst 0, 1) := by decide +kernel
theorem dX12_maze_18 : decode cX12_maze 18 = .ok (.putfield 141, 3) := by decide +kernel
theorem dX12_maze_21 : decode cX12_maze 21 = .ok (.iload_n 1, 1) := by decide +kernel
theorem dX12_maze_22 : decode cX12_maze 22 = .ok (.iconst (-1), 1) := by decide +kernel
theorem dX12_maze_23 : decode cX12_maze 23 = .ok (.if_icmp .eq 8, 3) := by decide +kernel
theorem dX12_maze_26 : decode cX12_maze 26 = .ok (.bipush (-100), 2) := by decide +kernel
theorem dX12_maze_28 : decode cX12_maze 28 = .ok (.iload_n 1, 1) := by decide +kernel
theorem dX12_maze_29 : decode cX12_maze 29 = .ok (.isub, 1) := by decide +kernel
theorem dX12_maze_30 : decode cX12_maze 30 = .ok (.ireturn, 1) := by decide +kernel
theorem dX12_maze_31 : decode cX12_maze 31 = .ok (.iconst 0, 1) := by decide +kernel
theorem dX12_maze_32 : decode cX12_maze 32 = .ok (.istore_n 2, 1) := by decide +kernel
theorem dX12_maze_33 : decode cX12_maze 33 = .ok (.iload_n 2, 1) := by decide +kernel
theorem dX12_maze_34 : decode cX12_maze 34 = .ok (.bipush 10, 2) := by decide +kernel
theorem dX12_maze_36 : decode cX12_maze 36 = .ok (.if_icmp .ge 24, 3) := by decide +kernel
theorem dX12_maze_39 : decode cX12_maze 39 = .ok (.aload_n 0, 1) := by decide +kernel
theorem dX12_maze_40 : decode cX12_maze 40 = .ok (.getfield 29, 3) := by decide +kernel
theorem dX12_maze_43 : decode cX12_maze 43 = .ok (.bipush 10, 2) := by decide +kernel
theorem dX12_maze_45 : decode cX12_maze 45 = .ok (.aload_n 0, 1) := by decide +kernel
theorem dX12_maze_46 : decode cX12_maze 46 = .ok (.getfield 130, 3) := by decide +kernel
theorem dX12_maze_49 : decode cX12_maze 49 = .ok (.imul, 1) := by decide +kernel
theorem dX12_maze_50 : decode cX12_maze 50 = .ok (.iload_n 2, 1) := by decide +kernel
theorem dX12_maze_51 : decode cX12_maze 51 = .ok (.iadd, 1) := by decide +kernel
theorem dX12_maze_52 : decode cX12_maze 52 = .ok (.iconst 0, 1) := by decide +kernel
theorem dX12_maze_53 : decode cX12_maze 53 = .ok (.iastore, 1) := by decide +kernel
theorem dX12_maze_54 : decode cX12_maze 54 = .ok (.iinc 2 1, 3) := by decide +kernel
theorem dX12_maze_57 : decode cX12_maze 57 = .ok (.goto (-24), 3) := by decide +kernel
theorem dX12_maze_60 : decode cX12_maze 60 = .ok (.aload_n 0, 1) := by decide +kernel
theorem dX12_maze_61 : decode cX12_maze 61 = .ok (.dup, 1) := by decide +kernel
theorem dX12_maze_62 : decode cX12_maze 62 = .ok (.getfield 130, 3) := by decide +kernel
theorem dX12_maze_65 : decode cX12_maze 65 = .ok (.iconst 1, 1) := by decide +kernel
theorem dX12_maze_66 : decode cX12_maze 66 = .ok (.iadd, 1) := by decide +kernel
theorem dX12_maze_67 : decode cX12_maze 67 = .ok (.putfield 130, 3) := by decide +kernel
theorem dX12_maze_70 : decode cX12_maze 70 = .ok (.aload_n 0, 1) := by decide +kernel
theorem dX12_maze_71 : decode cX12_maze 71 = .ok (.getfield 130, 3) := by decide +kernel
theorem dX12_maze_74 : decode cX12_maze 74 = .ok (.iconst 1, 1) := by decide +kernel
theorem dX12_maze_75 : decode cX12_maze 75 = .ok (.isub, 1) := by decide +kernel
theorem dX12_maze_76 : decode cX12_maze 76 = .ok (.ireturn, 1) := by decide +kernel
theorem dX12_reads_0 : decode cX12_reads 0 = .ok (.aload_n 0, 1) := by decide +kernel
theorem dX12_reads_1 : decode cX12_reads 1 = .ok (.iconst 0, 1) := by decide +kernel
theorem dX12_reads_2 : decode cX12_reads 2 = .ok (.bipush 10, 2) := by decide +kernel
theorem dX12_reads_4 : decode cX12_reads 4 = .ok (.invokevirtual 158, 3) := by decide +kernel
theorem dX12_reads_7 : decode cX12_reads 7 = .ok (.ifCond .ne 5, 3) := by decide +kernel
theorem dX12_reads_10 : decode cX12_reads 10 = .ok (.iconst 0, 1) := by decide +kernel
theorem dX12_reads_11 : decode cX12_reads 11 = .ok (.ireturn, 1) := by decide +kernel
theorem dX12_reads_12 : decode cX12_reads 12 = .ok (.aload_n 0, 1) := by decide +kernel
theorem dX12_reads_13 : decode cX12_reads 13 = .ok (.getfield 20, 3) := by decide +kernel
theorem dX12_reads_16 : decode cX12_reads 16 = .ok (.iconst 0, 1) := by decide +kernel
theorem dX12_reads_17 : decode cX12_reads 17 = .ok (.iaload, 1) := by decide +kernel
theorem dX12_reads_18 : decode cX12_reads 18 = .ok (.bipush 97, 2) := by decide +kernel
theorem dX12_reads_20 : decode cX12_reads 20 = .ok (.isub, 1) := by decide +kernel
theorem dX12_reads_21 : decode cX12_reads 21 = .ok (.iconst 1, 1) := by decide +kernel
theorem dX12_reads_22 : decode cX12_reads 22 = .ok (.iadd, 1) := by decide +kernel
theorem dX12_reads_23 : decode cX12_reads 23 = .ok (.istore_n 1, 1) := by decide +kernel
theorem dX12_reads_24 : decode cX12_reads 24 = .ok (.aload_n 0, 1) := by decide +kernel
theorem dX12_reads_25 : decode cX12_reads 25 = .ok (.getfield 26, 3) := by decide +kernel
theorem dX12_reads_28 : decode cX12_reads 28 = .ok (.aload_n 0, 1) := by decide +kernel
theorem dX12_reads_29 : decode cX12_reads 29 = .ok (.getfield 130, 3) := by decide +kernel
theorem dX12_reads_32 : decode cX12_reads 32 = .ok (.iload_n 1, 1) := by decide +kernel
theorem dX12_reads_33 : decode cX12_reads 33 = .ok (.iastore, 1) := by decide +kernel
theorem dX12_reads_34 : decode cX12_reads 34 = .ok (.bipush 40, 2) := by decide +kernel
theorem dX12_reads_36 : decode cX12_reads 36 = .ok (.aload_n 0, 1) := by decide +kernel
theorem dX12_reads_37 : decode cX12_reads 37 = .ok (.getfield 130, 3) := by decide +kernel
theorem dX12_reads_40 : decode cX12_reads 40 = .ok (.imul, 1) := by decide +kernel
theorem dX12_reads_41 : decode cX12_reads 41 = .ok (.istore_n 2, 1) := by decide +kernel
theorem dX12_reads_42 : decode cX12_reads 42 = .ok (.iconst 0, 1) := by decide +kernel
theorem dX12_reads_43 : decode cX12_reads 43 = .ok (.istore_n 3, 1) := by decide +kernel
theorem dX12_reads_44 : decode cX12_reads 44 = .ok (.iload_n 3, 1) := by decide +kernel
theorem dX12_reads_45 : decode cX12_reads 45 = .ok (.bipush 40, 2) := by decide +kernel
theorem dX12_reads_47 : decode cX12_reads 47 = .ok (.if_icmp .ge 18, 3) := by decide +kernel
theorem dX12_reads_50 : decode cX12_reads 50 = .ok (.aload_n 0, 1) := by decide +kernel
theorem dX12_reads_51 : decode cX12_reads 51 = .ok (.getfield 23, 3) := by decide +kernel
theorem dX12_reads_54 : decode cX12_reads 54 = .ok (.iload_n 2, 1) := by decide +kernel
theorem dX12_reads_55 : decode cX12_reads 55 = .ok (.iload_n 3, 1) := by decide +kernel
theorem dX12_reads_56 : decode cX12_reads 56 = .ok (.iadd, 1) := by decide +kernel
theorem dX12_reads_57 : decode cX12_reads 57 = .ok (.iconst (-1), 1) := by decide +kernel
theorem dX12_reads_58 : decode cX12_reads 58 = .ok (.iastore, 1) := by decide +kernel
theorem dX12_reads_59 : decode cX12_reads 59 = .ok (.iinc 3 1, 3) := by decide +kernel
theorem dX12_reads_62 : decode cX12_reads 62 = .ok (.goto (-18), 3) := by decide +kernel
theorem dX12_reads_65 : decode cX12_reads 65 = .ok (.iconst 1, 1) := by decide +kernel
theorem dX12_reads_66 : decode cX12_reads 66 = .ok (.istore_n 3, 1) := by decide +kernel
theorem dX12_reads_67 : decode cX12_reads 67 = .ok (.iload_n 3, 1) := by decide +kernel
theorem dX12_reads_68 : decode cX12_reads 68 = .ok (.aload_n 0, 1) := by decide +kernel
theorem dX12_reads_69 : decode cX12_reads 69 = .ok (.getfield 141, 3) := by decide +kernel
theorem dX12_reads_72 : decode cX12_reads 72 = .ok (.if_icmp .ge 258, 3) := by decide +kernel
theorem dX12_reads_75 : decode cX12_reads 75 = .ok (.aload_n 0, 1) := by decide +kernel
theorem dX12_reads_76 : decode cX12_reads 76 = .ok (.iload_n 3, 1) := by decide +kernel
theorem dX12_reads_77 : decode cX12_reads 77 = .ok (.invokevirtual 144, 3) := by decide +kernel
theorem dX12_reads_80 : decode cX12_reads 80 = .ok (.bipush 59, 2) := by decide +kernel
theorem dX12_reads_82 : decode cX12_reads 82 = .ok (.if_icmp .eq 5, 3) := by decide +kernel
theorem dX12_reads_85 : decode cX12_reads 85 = .ok (.iload_n 3, 1) := by decide +kernel
theorem dX12_reads_86 : decode cX12_reads 86 = .ok (.ireturn, 1) := by decide +kernel
theorem dX12_reads_87 : decode cX12_reads 87 = .ok (.aload_n 0, 1) := by decide +kernel
theorem dX12_reads_88 : decode cX12_reads 88 = .ok (.iload_n 3, 1) := by decide +kernel
theorem dX12_reads_89 : decode cX12_reads 89 = .ok (.iconst 1, 1) := by decide +kernel
theorem dX12_reads_90 : decode cX12_reads 90 = .ok (.iadd, 1) := by decide +kernel
theorem dX12_reads_91 : decode cX12_reads 91 = .ok (.iload_n 1, 1) := by decide +kernel
theorem dX12_reads_92 : decode cX12_reads 92 = .ok (.invokevirtual 158, 3) := by decide +kernel
theorem dX12_reads_95 : decode cX12_reads 95 = .ok (.ifCond .ne 7, 3) := by decide +kernel
theorem dX12_reads_98 : decode cX12_reads 98 = .ok (.iload_n 3, 1) := by decide +kernel
theorem dX12_reads_99 : decode cX12_reads 99 = .ok (.iconst 1, 1) := by decide +kernel
theorem dX12_reads_100 : decode cX12_reads 100 = .ok (.iadd, 1) := by decide +kernel
theorem dX12_reads_101 : decode cX12_reads 101 = .ok (.ireturn, 1) := by decide +kernel
theorem dX12_reads_102 : decode cX12_reads 102 = .ok (.aload_n 0, 1) := by decide +kernel
theorem dX12_reads_103 : decode cX12_reads 103 = .ok (.iload_n 3, 1) := by decide +kernel
theorem dX12_reads_104 : decode cX12_reads 104 = .ok (.iconst 2, 1) := by decide +kernel
theorem dX12_reads_105 : decode cX12_reads 105 = .ok (.iadd, 1) := by decide +kernel
theorem dX12_reads_106 : decode cX12_reads 106 = .ok (.invokevirtual 162, 3) := by decide +kernel
theorem dX12_reads_109 : decode cX12_reads 109 = .ok (.ifCond .ne 7, 3) := by decide +kernel
theorem dX12_reads_112 : decode cX12_reads 112 = .ok (.iload_n 3, 1) := by decide +kernel
theorem dX12_reads_113 : decode cX12_reads 113 = .ok (.iconst 2, 1) := by decide +kernel
theorem dX12_reads_114 : decode cX12_reads 114 = .ok (.iadd, 1) := by decide +kernel
theorem dX12_reads_115 : decode cX12_reads 115 = .ok (.ireturn, 1) := by decide +kernel
theorem dX12_reads_116 : decode cX12_reads 116 = .ok (.bipush 10, 2) := by decide +kernel
theorem dX12_reads_118 : decode cX12_reads 118 = .ok (.aload_n 0, 1) := by decide +kernel
theorem dX12_reads_119 : decode cX12_reads 119 = .ok (.getfield 20, 3) := by decide +kernel
theorem dX12_reads_122 : decode cX12_reads 122 = .ok (.iload_n 3, 1) := by decide +kernel
theorem dX12_reads_123 : decode cX12_reads 123 = .ok (.iconst 1, 1) := by decide +kernel
theorem dX12_reads_124 : decode cX12_reads 124 = .ok (.iadd, 1) := by decide +kernel
theorem dX12_reads_125 : decode cX12_reads 125 = .ok (.iaload, 1) := by decide +kernel
theorem dX12_reads_126 : decode cX12_reads 126 = .ok (.bipush 97, 2) := by decide +kernel
theorem dX12_reads_128 : decode cX12_reads 128 = .ok (.isub, 1) := by decide +kernel
theorem dX12_reads_129 : decode cX12_reads 129 = .ok (.imul, 1) := by decide +kernel
theorem dX12_reads_130 : decode cX12_reads 130 = .ok (.aload_n 0, 1) := by decide +kernel
theorem dX12_reads_131 : decode cX12_reads 131 = .ok (.getfield 20, 3) := by decide +kernel
theorem dX12_reads_134 : decode cX12_reads 134 = .ok (.iload_n 3, 1) := by decide +kernel
theorem dX12_reads_135 : decode cX12_reads 135 = .ok (.iconst 2, 1) := by decide +kernel
theorem dX12_reads_136 : decode cX12_reads 136 = .ok (.iadd, 1) := by decide +kernel
theorem dX12_reads_137 : decode cX12_reads 137 = .ok (.iaload, 1) := by decide +kernel
theorem dX12_reads_138 : decode cX12_reads 138 = .ok (.iadd, 1) := by decide +kernel
theorem dX12_reads_139 : decode cX12_reads 139 = .ok (.bipush 48, 2) := by decide +kernel
theorem dX12_reads_141 : decode cX12_reads 141 = .ok (.isub, 1) := by decide +kernel
theorem dX12_reads_142 : decode cX12_reads 142 = .ok (.istore 4, 2) := by decide +kernel
theorem dX12_reads_144 : decode cX12_reads 144 = .ok (.iload_n 2, 1) := by decide +kernel
theorem dX12_reads_145 : decode cX12_reads 145 = .ok (.iconst 4, 1) := by decide +kernel
theorem dX12_reads_146 : decode cX12_reads 146 = .ok (.iload 4, 2) := by decide +kernel
theorem dX12_reads_148 : decode cX12_reads 148 = .ok (.bipush 10, 2) := by decide +kernel
theorem dX12_reads_150 : decode cX12_reads 150 = .ok (.idiv, 1) := by decide +kernel
theorem dX12_reads_151 : decode cX12_reads 151 = .ok (.imul, 1) := by decide +kernel
theorem dX12_reads_152 : decode cX12_reads 152 = .ok (.iadd, 1) := by decide +kernel
theorem dX12_reads_153 : decode cX12_reads 153 = .ok (.iload 4, 2) := by decide +kernel
theorem dX12_reads_155 : decode cX12_reads 155 = .ok (.bipush 10, 2) := by decide +kernel
theorem dX12_reads_157 : decode cX12_reads 157 = .ok (.irem, 1) := by decide +kernel
theorem dX12_reads_158 : decode cX12_reads 158 = .ok (.iadd, 1) := by decide +kernel
theorem dX12_reads_159 : decode cX12_reads 159 = .ok (.istore 5, 2) := by decide +kernel
theorem dX12_reads_161 : decode cX12_reads 161 = .ok (.aload_n 0, 1) := by decide +kernel
theorem dX12_reads_162 : decode cX12_reads 162 = .ok (.getfield 23, 3) := by decide +kernel
theorem dX12_reads_165 : decode cX12_reads 165 = .ok (.iload 5, 2) := by decide +kernel
theorem dX12_reads_167 : decode cX12_reads 167 = .ok (.iaload, 1) := by decide +kernel
theorem dX12_reads_168 : decode cX12_reads 168 = .ok (.iconst (-1), 1) := by decide +kernel
theorem dX12_reads_169 : decode cX12_reads 169 = .ok (.if_icmp .eq 7, 3) := by decide +kernel
theorem dX12_reads_172 : decode cX12_reads 172 = .ok (.iload_n 3, 1) := by decide +kernel
theorem dX12_reads_173 : decode cX12_reads 173 = .ok (.iconst 2, 1) := by decide +kernel
theorem dX12_reads_174 : decode cX12_reads 174 = .ok (.iadd, 1) := by decide +kernel
theorem dX12_reads_175 : decode cX12_reads 175 = .ok (.ireturn, 1) := by decide +kernel
theorem dX12_reads_176 : decode cX12_reads 176 = .ok (.aload_n 0, 1) := by decide +kernel
theorem dX12_reads_177 : decode cX12_reads 177 = .ok (.iload_n 3, 1) := by decide +kernel
theorem dX12_reads_178 : decode cX12_reads 178 = .ok (.iconst 3, 1) := by decide +kernel
theorem dX12_reads_179 : decode cX12_reads 179 = .ok (.iadd, 1) := by decide +kernel
theorem dX12_reads_180 : decode cX12_reads 180 = .ok (.invokevirtual 144, 3) := by decide +kernel
theorem dX12_reads_183 : decode cX12_reads 183 = .ok (.istore 6, 2) := by decide +kernel
theorem dX12_reads_185 : decode cX12_reads 185 = .ok (.iload 6, 2) := by decide +kernel
theorem dX12_reads_187 : decode cX12_reads 187 = .ok (.bipush 45, 2) := by decide +kernel
theorem dX12_reads_189 : decode cX12_reads 189 = .ok (.if_icmp .eq 14, 3) := by decide +kernel
theorem dX12_reads_192 : decode cX12_reads 192 = .ok (.iload 6, 2) := by decide +kernel
theorem dX12_reads_194 : decode cX12_reads 194 = .ok (.bipush 62, 2) := by decide +kernel
theorem dX12_reads_196 : decode cX12_reads 196 = .ok (.if_icmp .eq 7, 3) := by decide +kernel
theorem dX12_reads_199 : decode cX12_reads 199 = .ok (.iload_n 3, 1) := by decide +kernel
theorem dX12_reads_200 : decode cX12_reads 200 = .ok (.iconst 3, 1) := by decide +kernel
theorem dX12_reads_201 : decode cX12_reads 201 = .ok (.iadd, 1) := by decide +kernel
theorem dX12_reads_202 : decode cX12_reads 202 = .ok (.ireturn, 1) := by decide +kernel
theorem dX12_reads_203 : decode cX12_reads 203 = .ok (.aload_n 0, 1) := by decide +kernel
theorem dX12_reads_204 : decode cX12_reads 204 = .ok (.iload_n 3, 1) := by decide +kernel
theorem dX12_reads_205 : decode cX12_reads 205 = .ok (.iconst 4, 1) := by decide +kernel
theorem dX12_reads_206 : decode cX12_reads 206 = .ok (.iadd, 1) := by decide +kernel
theorem dX12_reads_207 : decode cX12_reads 207 = .ok (.iload_n 1, 1) := by decide +kernel
theorem dX12_reads_208 : decode cX12_reads 208 = .ok (.invokevirtual 158, 3) := by decide +kernel
theorem dX12_reads_211 : decode cX12_reads 211 = .ok (.ifCond .ne 7, 3) := by decide +kernel
theorem dX12_reads_214 : decode cX12_reads 214 = .ok (.iload_n 3, 1) := by decide +kernel
theorem dX12_reads_215 : decode cX12_reads 215 = .ok (.iconst 4, 1) := by decide +kernel
theorem dX12_reads_216 : decode cX12_reads 216 = .ok (.iadd, 1) := by decide +kernel
theorem dX12_reads_217 : decode cX12_reads 217 = .ok (.ireturn, 1) := by decide +kernel
theorem dX12_reads_218 : decode cX12_reads 218 = .ok (.aload_n 0, 1) := by decide +kernel
theorem dX12_reads_219 : decode cX12_reads 219 = .ok (.iload_n 3, 1) := by decide +kernel
theorem dX12_reads_220 : decode cX12_reads 220 = .ok (.iconst 5, 1) := by decide +kernel
theorem dX12_reads_221 : decode cX12_reads 221 = .ok (.iadd, 1) := by decide +kernel
theorem dX12_reads_222 : decode cX12_reads 222 = .ok (.invokevirtual 162, 3) := by decide +kernel
theorem dX12_reads_225 : decode cX12_reads 225 = .ok (.ifCond .ne 7, 3) := by decide +kernel
theorem dX12_reads_228 : decode cX12_reads 228 = .ok (.iload_n 3, 1) := by decide +kernel
theorem dX12_reads_229 : decode cX12_reads 229 = .ok (.iconst 5, 1) := by decide +kernel
theorem dX12_reads_230 : decode cX12_reads 230 = .ok (.iadd, 1) := by decide +kernel
theorem dX12_reads_231 : decode cX12_reads 231 = .ok (.ireturn, 1) := by decide +kernel
theorem dX12_reads_232 : decode cX12_reads 232 = .ok (.bipush 10, 2) := by decide +kernel
theorem dX12_reads_234 : decode cX12_reads 234 = .ok (.aload_n 0, 1) := by decide +kernel
theorem dX12_reads_235 : decode cX12_reads 235 = .ok (.getfield 20, 3) := by decide +kernel
