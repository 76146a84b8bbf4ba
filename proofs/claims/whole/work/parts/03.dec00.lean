theorem dX0_init_0 : decode cX0_init 0 = .ok (.aload_n 0, 1) := by decide +kernel
theorem dX0_init_1 : decode cX0_init 1 = .ok (.invokespecial 3, 3) := by decide +kernel
theorem dX0_init_4 : decode cX0_init 4 = .ok (.aload_n 0, 1) := by decide +kernel
theorem dX0_init_5 : decode cX0_init 5 = .ok (.iconst 4, 1) := by decide +kernel
theorem dX0_init_6 : decode cX0_init 6 = .ok (.bipush 10, 2) := by decide +kernel
theorem dX0_init_8 : decode cX0_init 8 = .ok (.multianewarray 9 2, 4) := by decide +kernel
theorem dX0_init_12 : decode cX0_init 12 = .ok (.putfield 11, 3) := by decide +kernel
theorem dX0_init_15 : decode cX0_init 15 = .ok (.aload_n 0, 1) := by decide +kernel
theorem dX0_init_16 : decode cX0_init 16 = .ok (.bipush 8, 2) := by decide +kernel
theorem dX0_init_18 : decode cX0_init 18 = .ok (.anewarray 16, 3) := by decide +kernel
theorem dX0_init_21 : decode cX0_init 21 = .ok (.putfield 18, 3) := by decide +kernel
theorem dX0_init_24 : decode cX0_init 24 = .ok (.iconst 0, 1) := by decide +kernel
theorem dX0_init_25 : decode cX0_init 25 = .ok (.istore_n 1, 1) := by decide +kernel
theorem dX0_init_26 : decode cX0_init 26 = .ok (.iload_n 1, 1) := by decide +kernel
theorem dX0_init_27 : decode cX0_init 27 = .ok (.bipush 8, 2) := by decide +kernel
theorem dX0_init_29 : decode cX0_init 29 = .ok (.if_icmp .ge 22, 3) := by decide +kernel
theorem dX0_init_32 : decode cX0_init 32 = .ok (.aload_n 0, 1) := by decide +kernel
theorem dX0_init_33 : decode cX0_init 33 = .ok (.getfield 18, 3) := by decide +kernel
theorem dX0_init_36 : decode cX0_init 36 = .ok (.iload_n 1, 1) := by decide +kernel
theorem dX0_init_37 : decode cX0_init 37 = .ok (.new 16, 3) := by decide +kernel
theorem dX0_init_40 : decode cX0_init 40 = .ok (.dup, 1) := by decide +kernel
theorem dX0_init_41 : decode cX0_init 41 = .ok (.invokespecial 22, 3) := by decide +kernel
theorem dX0_init_44 : decode cX0_init 44 = .ok (.aastore, 1) := by decide +kernel
theorem dX0_init_45 : decode cX0_init 45 = .ok (.iinc 1 1, 3) := by decide +kernel
theorem dX0_init_48 : decode cX0_init 48 = .ok (.goto (-22), 3) := by decide +kernel
theorem dX0_init_51 : decode cX0_init 51 = .ok (.return_, 1) := by decide +kernel
theorem dX1_init_0 : decode cX1_init 0 = .ok (.aload_n 0, 1) := by decide +kernel
theorem dX1_init_1 : decode cX1_init 1 = .ok (.invokespecial 3, 3) := by decide +kernel
theorem dX1_init_4 : decode cX1_init 4 = .ok (.aload_n 0, 1) := by decide +kernel
theorem dX1_init_5 : decode cX1_init 5 = .ok (.bipush 40, 2) := by decide +kernel
theorem dX1_init_7 : decode cX1_init 7 = .ok (.newarray .int, 2) := by decide +kernel
theorem dX1_init_9 : decode cX1_init 9 = .ok (.putfield 9, 3) := by decide +kernel
theorem dX1_init_12 : decode cX1_init 12 = .ok (.aload_n 0, 1) := by decide +kernel
theorem dX1_init_13 : decode cX1_init 13 = .ok (.bipush 10, 2) := by decide +kernel
theorem dX1_init_15 : decode cX1_init 15 = .ok (.newarray .int, 2) := by decide +kernel
theorem dX1_init_17 : decode cX1_init 17 = .ok (.putfield 15, 3) := by decide +kernel
theorem dX1_init_20 : decode cX1_init 20 = .ok (.aload_n 0, 1) := by decide +kernel
theorem dX1_init_21 : decode cX1_init 21 = .ok (.bipush 10, 2) := by decide +kernel
theorem dX1_init_23 : decode cX1_init 23 = .ok (.newarray .int, 2) := by decide +kernel
theorem dX1_init_25 : decode cX1_init 25 = .ok (.putfield 18, 3) := by decide +kernel
theorem dX1_init_28 : decode cX1_init 28 = .ok (.return_, 1) := by decide +kernel
theorem dX1_hasRoom_0 : decode cX1_hasRoom 0 = .ok (.iload_n 1, 1) := by decide +kernel
theorem dX1_hasRoom_1 : decode cX1_hasRoom 1 = .ok (.ifCond .lt 15, 3) := by decide +kernel
theorem dX1_hasRoom_4 : decode cX1_hasRoom 4 = .ok (.iload_n 1, 1) := by decide +kernel
theorem dX1_hasRoom_5 : decode cX1_hasRoom 5 = .ok (.aload_n 0, 1) := by decide +kernel
theorem dX1_hasRoom_6 : decode cX1_hasRoom 6 = .ok (.getfield 21, 3) := by decide +kernel
theorem dX1_hasRoom_9 : decode cX1_hasRoom 9 = .ok (.if_icmp .ge 7, 3) := by decide +kernel
theorem dX1_hasRoom_12 : decode cX1_hasRoom 12 = .ok (.iconst 1, 1) := by decide +kernel
theorem dX1_hasRoom_13 : decode cX1_hasRoom 13 = .ok (.goto 4, 3) := by decide +kernel
theorem dX1_hasRoom_16 : decode cX1_hasRoom 16 = .ok (.iconst 0, 1) := by decide +kernel
theorem dX1_hasRoom_17 : decode cX1_hasRoom 17 = .ok (.ireturn, 1) := by decide +kernel
theorem dX1_target_0 : decode cX1_target 0 = .ok (.iload_n 2, 1) := by decide +kernel
theorem dX1_target_1 : decode cX1_target 1 = .ok (.iconst 4, 1) := by decide +kernel
theorem dX1_target_2 : decode cX1_target 2 = .ok (.invokestatic 25, 3) := by decide +kernel
theorem dX1_target_5 : decode cX1_target 5 = .ok (.ifCond .eq 18, 3) := by decide +kernel
theorem dX1_target_8 : decode cX1_target 8 = .ok (.aload_n 0, 1) := by decide +kernel
theorem dX1_target_9 : decode cX1_target 9 = .ok (.getfield 9, 3) := by decide +kernel
theorem dX1_target_12 : decode cX1_target 12 = .ok (.iload_n 1, 1) := by decide +kernel
theorem dX1_target_13 : decode cX1_target 13 = .ok (.iconst 4, 1) := by decide +kernel
theorem dX1_target_14 : decode cX1_target 14 = .ok (.imul, 1) := by decide +kernel
theorem dX1_target_15 : decode cX1_target 15 = .ok (.iload_n 2, 1) := by decide +kernel
theorem dX1_target_16 : decode cX1_target 16 = .ok (.iadd, 1) := by decide +kernel
theorem dX1_target_17 : decode cX1_target 17 = .ok (.invokestatic 29, 3) := by decide +kernel
theorem dX1_target_20 : decode cX1_target 20 = .ok (.goto 4, 3) := by decide +kernel
theorem dX1_target_23 : decode cX1_target 23 = .ok (.iconst (-1), 1) := by decide +kernel
theorem dX1_target_24 : decode cX1_target 24 = .ok (.ireturn, 1) := by decide +kernel
theorem dX1_leading_0 : decode cX1_leading 0 = .ok (.aload_n 0, 1) := by decide +kernel
theorem dX1_leading_1 : decode cX1_leading 1 = .ok (.iload_n 1, 1) := by decide +kernel
theorem dX1_leading_2 : decode cX1_leading 2 = .ok (.invokevirtual 33, 3) := by decide +kernel
theorem dX1_leading_5 : decode cX1_leading 5 = .ok (.ifCond .eq 14, 3) := by decide +kernel
theorem dX1_leading_8 : decode cX1_leading 8 = .ok (.aload_n 0, 1) := by decide +kernel
theorem dX1_leading_9 : decode cX1_leading 9 = .ok (.getfield 15, 3) := by decide +kernel
theorem dX1_leading_12 : decode cX1_leading 12 = .ok (.iload_n 1, 1) := by decide +kernel
theorem dX1_leading_13 : decode cX1_leading 13 = .ok (.invokestatic 29, 3) := by decide +kernel
theorem dX1_leading_16 : decode cX1_leading 16 = .ok (.goto 4, 3) := by decide +kernel
theorem dX1_leading_19 : decode cX1_leading 19 = .ok (.iconst 0, 1) := by decide +kernel
theorem dX1_leading_20 : decode cX1_leading 20 = .ok (.ireturn, 1) := by decide +kernel
theorem dX1_read_0 : decode cX1_read 0 = .ok (.aload_n 1, 1) := by decide +kernel
theorem dX1_read_1 : decode cX1_read 1 = .ok (.iload_n 2, 1) := by decide +kernel
theorem dX1_read_2 : decode cX1_read 2 = .ok (.iconst 0, 1) := by decide +kernel
theorem dX1_read_3 : decode cX1_read 3 = .ok (.invokestatic 37, 3) := by decide +kernel
theorem dX1_read_6 : decode cX1_read 6 = .ok (.bipush 97, 2) := by decide +kernel
theorem dX1_read_8 : decode cX1_read 8 = .ok (.isub, 1) := by decide +kernel
theorem dX1_read_9 : decode cX1_read 9 = .ok (.istore_n 3, 1) := by decide +kernel
theorem dX1_read_10 : decode cX1_read 10 = .ok (.iload_n 3, 1) := by decide +kernel
theorem dX1_read_11 : decode cX1_read 11 = .ok (.bipush 10, 2) := by decide +kernel
theorem dX1_read_13 : decode cX1_read 13 = .ok (.invokestatic 25, 3) := by decide +kernel
theorem dX1_read_16 : decode cX1_read 16 = .ok (.ifCond .ne 5, 3) := by decide +kernel
theorem dX1_read_19 : decode cX1_read 19 = .ok (.iconst 0, 1) := by decide +kernel
theorem dX1_read_20 : decode cX1_read 20 = .ok (.ireturn, 1) := by decide +kernel
theorem dX1_read_21 : decode cX1_read 21 = .ok (.aload_n 0, 1) := by decide +kernel
theorem dX1_read_22 : decode cX1_read 22 = .ok (.iload_n 3, 1) := by decide +kernel
theorem dX1_read_23 : decode cX1_read 23 = .ok (.iconst 1, 1) := by decide +kernel
theorem dX1_read_24 : decode cX1_read 24 = .ok (.iadd, 1) := by decide +kernel
theorem dX1_read_25 : decode cX1_read 25 = .ok (.invokevirtual 41, 3) := by decide +kernel
theorem dX1_read_28 : decode cX1_read 28 = .ok (.iconst 1, 1) := by decide +kernel
theorem dX1_read_29 : decode cX1_read 29 = .ok (.istore 4, 2) := by decide +kernel
theorem dX1_read_31 : decode cX1_read 31 = .ok (.iload 4, 2) := by decide +kernel
theorem dX1_read_33 : decode cX1_read 33 = .ok (.iload_n 2, 1) := by decide +kernel
theorem dX1_read_34 : decode cX1_read 34 = .ok (.if_icmp .ge 28, 3) := by decide +kernel
theorem dX1_read_37 : decode cX1_read 37 = .ok (.aload_n 0, 1) := by decide +kernel
theorem dX1_read_38 : decode cX1_read 38 = .ok (.aload_n 1, 1) := by decide +kernel
theorem dX1_read_39 : decode cX1_read 39 = .ok (.iload_n 2, 1) := by decide +kernel
theorem dX1_read_40 : decode cX1_read 40 = .ok (.iload 4, 2) := by decide +kernel
theorem dX1_read_42 : decode cX1_read 42 = .ok (.invokevirtual 45, 3) := by decide +kernel
theorem dX1_read_45 : decode cX1_read 45 = .ok (.istore 5, 2) := by decide +kernel
theorem dX1_read_47 : decode cX1_read 47 = .ok (.iload 5, 2) := by decide +kernel
theorem dX1_read_49 : decode cX1_read 49 = .ok (.iconst (-1), 1) := by decide +kernel
theorem dX1_read_50 : decode cX1_read 50 = .ok (.if_icmp .eq 6, 3) := by decide +kernel
theorem dX1_read_53 : decode cX1_read 53 = .ok (.iload 5, 2) := by decide +kernel
theorem dX1_read_55 : decode cX1_read 55 = .ok (.ireturn, 1) := by decide +kernel
theorem dX1_read_56 : decode cX1_read 56 = .ok (.iinc 4 6, 3) := by decide +kernel
theorem dX1_read_59 : decode cX1_read 59 = .ok (.goto (-28), 3) := by decide +kernel
theorem dX1_read_62 : decode cX1_read 62 = .ok (.iconst (-1), 1) := by decide +kernel
theorem dX1_read_63 : decode cX1_read 63 = .ok (.ireturn, 1) := by decide +kernel
theorem dX1_readPart_0 : decode cX1_readPart 0 = .ok (.aload_n 1, 1) := by decide +kernel
theorem dX1_readPart_1 : decode cX1_readPart 1 = .ok (.iload_n 2, 1) := by decide +kernel
theorem dX1_readPart_2 : decode cX1_readPart 2 = .ok (.iload_n 3, 1) := by decide +kernel
theorem dX1_readPart_3 : decode cX1_readPart 3 = .ok (.iconst 1, 1) := by decide +kernel
theorem dX1_readPart_4 : decode cX1_readPart 4 = .ok (.iadd, 1) := by decide +kernel
theorem dX1_readPart_5 : decode cX1_readPart 5 = .ok (.invokestatic 37, 3) := by decide +kernel
theorem dX1_readPart_8 : decode cX1_readPart 8 = .ok (.bipush 97, 2) := by decide +kernel
theorem dX1_readPart_10 : decode cX1_readPart 10 = .ok (.isub, 1) := by decide +kernel
theorem dX1_readPart_11 : decode cX1_readPart 11 = .ok (.istore 4, 2) := by decide +kernel
theorem dX1_readPart_13 : decode cX1_readPart 13 = .ok (.aload_n 1, 1) := by decide +kernel
theorem dX1_readPart_14 : decode cX1_readPart 14 = .ok (.iload_n 2, 1) := by decide +kernel
theorem dX1_readPart_15 : decode cX1_readPart 15 = .ok (.iload_n 3, 1) := by decide +kernel
theorem dX1_readPart_16 : decode cX1_readPart 16 = .ok (.iconst 2, 1) := by decide +kernel
theorem dX1_readPart_17 : decode cX1_readPart 17 = .ok (.iadd, 1) := by decide +kernel
theorem dX1_readPart_18 : decode cX1_readPart 18 = .ok (.invokestatic 37, 3) := by decide +kernel
theorem dX1_readPart_21 : decode cX1_readPart 21 = .ok (.bipush 48, 2) := by decide +kernel
theorem dX1_readPart_23 : decode cX1_readPart 23 = .ok (.isub, 1) := by decide +kernel
theorem dX1_readPart_24 : decode cX1_readPart 24 = .ok (.istore 5, 2) := by decide +kernel
theorem dX1_readPart_26 : decode cX1_readPart 26 = .ok (.aload_n 1, 1) := by decide +kernel
theorem dX1_readPart_27 : decode cX1_readPart 27 = .ok (.iload_n 2, 1) := by decide +kernel
theorem dX1_readPart_28 : decode cX1_readPart 28 = .ok (.iload_n 3, 1) := by decide +kernel
theorem dX1_readPart_29 : decode cX1_readPart 29 = .ok (.iconst 3, 1) := by decide +kernel
theorem dX1_readPart_30 : decode cX1_readPart 30 = .ok (.iadd, 1) := by decide +kernel
theorem dX1_readPart_31 : decode cX1_readPart 31 = .ok (.invokestatic 37, 3) := by decide +kernel
theorem dX1_readPart_34 : decode cX1_readPart 34 = .ok (.istore 6, 2) := by decide +kernel
theorem dX1_readPart_36 : decode cX1_readPart 36 = .ok (.aload_n 1, 1) := by decide +kernel
theorem dX1_readPart_37 : decode cX1_readPart 37 = .ok (.iload_n 2, 1) := by decide +kernel
theorem dX1_readPart_38 : decode cX1_readPart 38 = .ok (.iload_n 3, 1) := by decide +kernel
theorem dX1_readPart_39 : decode cX1_readPart 39 = .ok (.iconst 4, 1) := by decide +kernel
theorem dX1_readPart_40 : decode cX1_readPart 40 = .ok (.iadd, 1) := by decide +kernel
theorem dX1_readPart_41 : decode cX1_readPart 41 = .ok (.invokestatic 37, 3) := by decide +kernel
theorem dX1_readPart_44 : decode cX1_readPart 44 = .ok (.bipush 97, 2) := by decide +kernel
theorem dX1_readPart_46 : decode cX1_readPart 46 = .ok (.isub, 1) := by decide +kernel
theorem dX1_readPart_47 : decode cX1_readPart 47 = .ok (.istore 7, 2) := by decide +kernel
theorem dX1_readPart_49 : decode cX1_readPart 49 = .ok (.aload_n 1, 1) := by decide +kernel
theorem dX1_readPart_50 : decode cX1_readPart 50 = .ok (.iload_n 2, 1) := by decide +kernel
theorem dX1_readPart_51 : decode cX1_readPart 51 = .ok (.iload_n 3, 1) := by decide +kernel
theorem dX1_readPart_52 : decode cX1_readPart 52 = .ok (.iconst 5, 1) := by decide +kernel
theorem dX1_readPart_53 : decode cX1_readPart 53 = .ok (.iadd, 1) := by decide +kernel
theorem dX1_readPart_54 : decode cX1_readPart 54 = .ok (.invokestatic 37, 3) := by decide +kernel
theorem dX1_readPart_57 : decode cX1_readPart 57 = .ok (.bipush 48, 2) := by decide +kernel
theorem dX1_readPart_59 : decode cX1_readPart 59 = .ok (.isub, 1) := by decide +kernel
theorem dX1_readPart_60 : decode cX1_readPart 60 = .ok (.istore 8, 2) := by decide +kernel
theorem dX1_readPart_62 : decode cX1_readPart 62 = .ok (.aload_n 1, 1) := by decide +kernel
theorem dX1_readPart_63 : decode cX1_readPart 63 = .ok (.iload_n 2, 1) := by decide +kernel
theorem dX1_readPart_64 : decode cX1_readPart 64 = .ok (.iload_n 3, 1) := by decide +kernel
theorem dX1_readPart_65 : decode cX1_readPart 65 = .ok (.invokestatic 37, 3) := by decide +kernel
theorem dX1_readPart_68 : decode cX1_readPart 68 = .ok (.bipush 59, 2) := by decide +kernel
theorem dX1_readPart_70 : decode cX1_readPart 70 = .ok (.if_icmp .eq 5, 3) := by decide +kernel
theorem dX1_readPart_73 : decode cX1_readPart 73 = .ok (.iload_n 3, 1) := by decide +kernel
theorem dX1_readPart_74 : decode cX1_readPart 74 = .ok (.ireturn, 1) := by decide +kernel
theorem dX1_readPart_75 : decode cX1_readPart 75 = .ok (.aload_n 0, 1) := by decide +kernel
theorem dX1_readPart_76 : decode cX1_readPart 76 = .ok (.iload 4, 2) := by decide +kernel
theorem dX1_readPart_78 : decode cX1_readPart 78 = .ok (.invokevirtual 33, 3) := by decide +kernel
theorem dX1_readPart_81 : decode cX1_readPart 81 = .ok (.ifCond .ne 7, 3) := by decide +kernel
theorem dX1_readPart_84 : decode cX1_readPart 84 = .ok (.iload_n 3, 1) := by decide +kernel
theorem dX1_readPart_85 : decode cX1_readPart 85 = .ok (.iconst 1, 1) := by decide +kernel
theorem dX1_readPart_86 : decode cX1_readPart 86 = .ok (.iadd, 1) := by decide +kernel
theorem dX1_readPart_87 : decode cX1_readPart 87 = .ok (.ireturn, 1) := by decide +kernel
theorem dX1_readPart_88 : decode cX1_readPart 88 = .ok (.iload 5, 2) := by decide +kernel
theorem dX1_readPart_90 : decode cX1_readPart 90 = .ok (.iconst 4, 1) := by decide +kernel
theorem dX1_readPart_91 : decode cX1_readPart 91 = .ok (.invokestatic 25, 3) := by decide +kernel
theorem dX1_readPart_94 : decode cX1_readPart 94 = .ok (.ifCond .eq 15, 3) := by decide +kernel
theorem dX1_readPart_97 : decode cX1_readPart 97 = .ok (.aload_n 0, 1) := by decide +kernel
theorem dX1_readPart_98 : decode cX1_readPart 98 = .ok (.iload 4, 2) := by decide +kernel
theorem dX1_readPart_100 : decode cX1_readPart 100 = .ok (.iload 5, 2) := by decide +kernel
theorem dX1_readPart_102 : decode cX1_readPart 102 = .ok (.invokevirtual 48, 3) := by decide +kernel
theorem dX1_readPart_105 : decode cX1_readPart 105 = .ok (.iconst (-1), 1) := by decide +kernel
theorem dX1_readPart_106 : decode cX1_readPart 106 = .ok (.if_icmp .eq 7, 3) := by decide +kernel
theorem dX1_readPart_109 : decode cX1_readPart 109 = .ok (.iload_n 3, 1) := by decide +kernel
theorem dX1_readPart_110 : decode cX1_readPart 110 = .ok (.iconst 2, 1) := by decide +kernel
theorem dX1_readPart_111 : decode cX1_readPart 111 = .ok (.iadd, 1) := by decide +kernel
theorem dX1_readPart_112 : decode cX1_readPart 112 = .ok (.ireturn, 1) := by decide +kernel
theorem dX1_readPart_113 : decode cX1_readPart 113 = .ok (.iload 6, 2) := by decide +kernel
theorem dX1_readPart_115 : decode cX1_readPart 115 = .ok (.bipush 45, 2) := by decide +kernel
theorem dX1_readPart_117 : decode cX1_readPart 117 = .ok (.if_icmp .eq 14, 3) := by decide +kernel
theorem dX1_readPart_120 : decode cX1_readPart 120 = .ok (.iload 6, 2) := by decide +kernel
theorem dX1_readPart_122 : decode cX1_readPart 122 = .ok (.bipush 62, 2) := by decide +kernel
theorem dX1_readPart_124 : decode cX1_readPart 124 = .ok (.if_icmp .eq 7, 3) := by decide +kernel
theorem dX1_readPart_127 : decode cX1_readPart 127 = .ok (.iload_n 3, 1) := by decide +kernel
theorem dX1_readPart_128 : decode cX1_readPart 128 = .ok (.iconst 3, 1) := by decide +kernel
theorem dX1_readPart_129 : decode cX1_readPart 129 = .ok (.iadd, 1) := by decide +kernel
theorem dX1_readPart_130 : decode cX1_readPart 130 = .ok (.ireturn, 1) := by decide +kernel
theorem dX1_readPart_131 : decode cX1_readPart 131 = .ok (.aload_n 0, 1) := by decide +kernel
theorem dX1_readPart_132 : decode cX1_readPart 132 = .ok (.iload 7, 2) := by decide +kernel
theorem dX1_readPart_134 : decode cX1_readPart 134 = .ok (.invokevirtual 33, 3) := by decide +kernel
theorem dX1_readPart_137 : decode cX1_readPart 137 = .ok (.ifCond .ne 7, 3) := by decide +kernel
theorem dX1_readPart_140 : decode cX1_readPart 140 = .ok (.iload_n 3, 1) := by decide +kernel
theorem dX1_readPart_141 : decode cX1_readPart 141 = .ok (.iconst 4, 1) := by decide +kernel
theorem dX1_readPart_142 : decode cX1_readPart 142 = .ok (.iadd, 1) := by decide +kernel
theorem dX1_readPart_143 : decode cX1_readPart 143 = .ok (.ireturn, 1) := by decide +kernel
theorem dX1_readPart_144 : decode cX1_readPart 144 = .ok (.iload 8, 2) := by decide +kernel
theorem dX1_readPart_146 : decode cX1_readPart 146 = .ok (.iconst 4, 1) := by decide +kernel
theorem dX1_readPart_147 : decode cX1_readPart 147 = .ok (.invokestatic 25, 3) := by decide +kernel
theorem dX1_readPart_150 : decode cX1_readPart 150 = .ok (.ifCond .eq 22, 3) := by decide +kernel
theorem dX1_readPart_153 : decode cX1_readPart 153 = .ok (.iload 6, 2) := by decide +kernel
theorem dX1_readPart_155 : decode cX1_readPart 155 = .ok (.bipush 45, 2) := by decide +kernel
theorem dX1_readPart_157 : decode cX1_readPart 157 = .ok (.if_icmp .ne 19, 3) := by decide +kernel
theorem dX1_readPart_160 : decode cX1_readPart 160 = .ok (.aload_n 0, 1) := by decide +kernel
theorem dX1_readPart_161 : decode cX1_readPart 161 = .ok (.iload 7, 2) := by decide +kernel
theorem dX1_readPart_163 : decode cX1_readPart 163 = .ok (.iload 8, 2) := by decide +kernel
theorem dX1_readPart_165 : decode cX1_readPart 165 = .ok (.invokevirtual 48, 3) := by decide +kernel
theorem dX1_readPart_168 : decode cX1_readPart 168 = .ok (.iconst (-1), 1) := by decide +kernel
theorem dX1_readPart_169 : decode cX1_readPart 169 = .ok (.if_icmp .eq 7, 3) := by decide +kernel
theorem dX1_readPart_172 : decode cX1_readPart 172 = .ok (.iload_n 3, 1) := by decide +kernel
theorem dX1_readPart_173 : decode cX1_readPart 173 = .ok (.iconst 5, 1) := by decide +kernel
theorem dX1_readPart_174 : decode cX1_readPart 174 = .ok (.iadd, 1) := by decide +kernel
theorem dX1_readPart_175 : decode cX1_readPart 175 = .ok (.ireturn, 1) := by decide +kernel
theorem dX1_readPart_176 : decode cX1_readPart 176 = .ok (.aload_n 0, 1) := by decide +kernel
theorem dX1_readPart_177 : decode cX1_readPart 177 = .ok (.iload 4, 2) := by decide +kernel
theorem dX1_readPart_179 : decode cX1_readPart 179 = .ok (.iload 5, 2) := by decide +kernel
theorem dX1_readPart_181 : decode cX1_readPart 181 = .ok (.iload 7, 2) := by decide +kernel
theorem dX1_readPart_183 : decode cX1_readPart 183 = .ok (.iload 8, 2) := by decide +kernel
theorem dX1_readPart_185 : decode cX1_readPart 185 = .ok (.invokevirtual 52, 3) := by decide +kernel
theorem dX1_readPart_188 : decode cX1_readPart 188 = .ok (.iload 6, 2) := by decide +kernel
theorem dX1_readPart_190 : decode cX1_readPart 190 = .ok (.bipush 45, 2) := by decide +kernel
theorem dX1_readPart_192 : decode cX1_readPart 192 = .ok (.if_icmp .ne 15, 3) := by decide +kernel
theorem dX1_readPart_195 : decode cX1_readPart 195 = .ok (.aload_n 0, 1) := by decide +kernel
theorem dX1_readPart_196 : decode cX1_readPart 196 = .ok (.iload 7, 2) := by decide +kernel
theorem dX1_readPart_198 : decode cX1_readPart 198 = .ok (.iload 8, 2) := by decide +kernel
theorem dX1_readPart_200 : decode cX1_readPart 200 = .ok (.iload 4, 2) := by decide +kernel
theorem dX1_readPart_202 : decode cX1_readPart 202 = .ok (.iload 5, 2) := by decide +kernel
theorem dX1_readPart_204 : decode cX1_readPart 204 = .ok (.invokevirtual 52, 3) := by decide +kernel
theorem dX1_readPart_207 : decode cX1_readPart 207 = .ok (.iconst (-1), 1) := by decide +kernel
theorem dX1_readPart_208 : decode cX1_readPart 208 = .ok (.ireturn, 1) := by decide +kernel
theorem dX1_clear_0 : decode cX1_clear 0 = .ok (.aload_n 0, 1) := by decide +kernel
theorem dX1_clear_1 : decode cX1_clear 1 = .ok (.iload_n 1, 1) := by decide +kernel
theorem dX1_clear_2 : decode cX1_clear 2 = .ok (.putfield 21, 3) := by decide +kernel
theorem dX1_clear_5 : decode cX1_clear 5 = .ok (.iconst 0, 1) := by decide +kernel
theorem dX1_clear_6 : decode cX1_clear 6 = .ok (.istore_n 2, 1) := by decide +kernel
theorem dX1_clear_7 : decode cX1_clear 7 = .ok (.iload_n 2, 1) := by decide +kernel
theorem dX1_clear_8 : decode cX1_clear 8 = .ok (.bipush 40, 2) := by decide +kernel
theorem dX1_clear_10 : decode cX1_clear 10 = .ok (.if_icmp .ge 16, 3) := by decide +kernel
theorem dX1_clear_13 : decode cX1_clear 13 = .ok (.aload_n 0, 1) := by decide +kernel
theorem dX1_clear_14 : decode cX1_clear 14 = .ok (.getfield 9, 3) := by decide +kernel
theorem dX1_clear_17 : decode cX1_clear 17 = .ok (.iload_n 2, 1) := by decide +kernel
theorem dX1_clear_18 : decode cX1_clear 18 = .ok (.iconst (-1), 1) := by decide +kernel
theorem dX1_clear_19 : decode cX1_clear 19 = .ok (.iastore, 1) := by decide +kernel
theorem dX1_clear_20 : decode cX1_clear 20 = .ok (.iinc 2 1, 3) := by decide +kernel
theorem dX1_clear_23 : decode cX1_clear 23 = .ok (.goto (-16), 3) := by decide +kernel
theorem dX1_clear_26 : decode cX1_clear 26 = .ok (.iconst 0, 1) := by decide +kernel
theorem dX1_clear_27 : decode cX1_clear 27 = .ok (.istore_n 2, 1) := by decide +kernel
theorem dX1_clear_28 : decode cX1_clear 28 = .ok (.iload_n 2, 1) := by decide +kernel
theorem dX1_clear_29 : decode cX1_clear 29 = .ok (.bipush 10, 2) := by decide +kernel
theorem dX1_clear_31 : decode cX1_clear 31 = .ok (.if_icmp .ge 16, 3) := by decide +kernel
theorem dX1_clear_34 : decode cX1_clear 34 = .ok (.aload_n 0, 1) := by decide +kernel
theorem dX1_clear_35 : decode cX1_clear 35 = .ok (.getfield 15, 3) := by decide +kernel
theorem dX1_clear_38 : decode cX1_clear 38 = .ok (.iload_n 2, 1) := by decide +kernel
theorem dX1_clear_39 : decode cX1_clear 39 = .ok (.iconst 0, 1) := by decide +kernel
theorem dX1_clear_40 : decode cX1_clear 40 = .ok (.iastore, 1) := by decide +kernel
theorem dX1_clear_41 : decode cX1_clear 41 = .ok (.iinc 2 1, 3) := by decide +kernel
theorem dX1_clear_44 : decode cX1_clear 44 = .ok (.goto (-16), 3) := by decide +kernel
theorem dX1_clear_47 : decode cX1_clear 47 = .ok (.return_, 1) := by decide +kernel
theorem dX1_lead_0 : decode cX1_lead 0 = .ok (.aload_n 0, 1) := by decide +kernel
theorem dX1_lead_1 : decode cX1_lead 1 = .ok (.getfield 9, 3) := by decide +kernel
theorem dX1_lead_4 : decode cX1_lead 4 = .ok (.iload_n 1, 1) := by decide +kernel
theorem dX1_lead_5 : decode cX1_lead 5 = .ok (.iconst 4, 1) := by decide +kernel
theorem dX1_lead_6 : decode cX1_lead 6 = .ok (.imul, 1) := by decide +kernel
theorem dX1_lead_7 : decode cX1_lead 7 = .ok (.iload_n 2, 1) := by decide +kernel
theorem dX1_lead_8 : decode cX1_lead 8 = .ok (.iadd, 1) := by decide +kernel
theorem dX1_lead_9 : decode cX1_lead 9 = .ok (.bipush 10, 2) := by decide +kernel
theorem dX1_lead_11 : decode cX1_lead 11 = .ok (.iload_n 3, 1) := by decide +kernel
theorem dX1_lead_12 : decode cX1_lead 12 = .ok (.imul, 1) := by decide +kernel
theorem dX1_lead_13 : decode cX1_lead 13 = .ok (.iload 4, 2) := by decide +kernel
theorem dX1_lead_15 : decode cX1_lead 15 = .ok (.iadd, 1) := by decide +kernel
theorem dX1_lead_16 : decode cX1_lead 16 = .ok (.invokestatic 56, 3) := by decide +kernel
theorem dX1_lead_19 : decode cX1_lead 19 = .ok (.aload_n 0, 1) := by decide +kernel
theorem dX1_lead_20 : decode cX1_lead 20 = .ok (.getfield 15, 3) := by decide +kernel
theorem dX1_lead_23 : decode cX1_lead 23 = .ok (.iload_n 1, 1) := by decide +kernel
theorem dX1_lead_24 : decode cX1_lead 24 = .ok (.aload_n 0, 1) := by decide +kernel
theorem dX1_lead_25 : decode cX1_lead 25 = .ok (.getfield 15, 3) := by decide +kernel
theorem dX1_lead_28 : decode cX1_lead 28 = .ok (.iload_n 1, 1) := by decide +kernel
theorem dX1_lead_29 : decode cX1_lead 29 = .ok (.invokestatic 29, 3) := by decide +kernel
theorem dX1_lead_32 : decode cX1_lead 32 = .ok (.iconst 1, 1) := by decide +kernel
theorem dX1_lead_33 : decode cX1_lead 33 = .ok (.iload_n 2, 1) := by decide +kernel
theorem dX1_lead_34 : decode cX1_lead 34 = .ok (.ishl, 1) := by decide +kernel
theorem dX1_lead_35 : decode cX1_lead 35 = .ok (.ior, 1) := by decide +kernel
theorem dX1_lead_36 : decode cX1_lead 36 = .ok (.invokestatic 56, 3) := by decide +kernel
theorem dX1_lead_39 : decode cX1_lead 39 = .ok (.return_, 1) := by decide +kernel
theorem dX1_byteAt_0 : decode cX1_byteAt 0 = .ok (.iload_n 2, 1) := by decide +kernel
theorem dX1_byteAt_1 : decode cX1_byteAt 1 = .ok (.ifCond .lt 20, 3) := by decide +kernel
theorem dX1_byteAt_4 : decode cX1_byteAt 4 = .ok (.iload_n 2, 1) := by decide +kernel
theorem dX1_byteAt_5 : decode cX1_byteAt 5 = .ok (.iload_n 1, 1) := by decide +kernel
theorem dX1_byteAt_6 : decode cX1_byteAt 6 = .ok (.if_icmp .ge 15, 3) := by decide +kernel
theorem dX1_byteAt_9 : decode cX1_byteAt 9 = .ok (.iload_n 2, 1) := by decide +kernel
theorem dX1_byteAt_10 : decode cX1_byteAt 10 = .ok (.aload_n 0, 1) := by decide +kernel
theorem dX1_byteAt_11 : decode cX1_byteAt 11 = .ok (.arraylength, 1) := by decide +kernel
theorem dX1_byteAt_12 : decode cX1_byteAt 12 = .ok (.if_icmp .ge 9, 3) := by decide +kernel
theorem dX1_byteAt_15 : decode cX1_byteAt 15 = .ok (.aload_n 0, 1) := by decide +kernel
theorem dX1_byteAt_16 : decode cX1_byteAt 16 = .ok (.iload_n 2, 1) := by decide +kernel
theorem dX1_byteAt_17 : decode cX1_byteAt 17 = .ok (.baload, 1) := by decide +kernel
theorem dX1_byteAt_18 : decode cX1_byteAt 18 = .ok (.goto 4, 3) := by decide +kernel
theorem dX1_byteAt_21 : decode cX1_byteAt 21 = .ok (.iconst (-1), 1) := by decide +kernel
theorem dX1_byteAt_22 : decode cX1_byteAt 22 = .ok (.ireturn, 1) := by decide +kernel
theorem dX2_init_0 : decode cX2_init 0 = .ok (.aload_n 0, 1) := by decide +kernel
theorem dX2_init_1 : decode cX2_init 1 = .ok (.invokespecial 3, 3) := by decide +kernel
theorem dX2_init_4 : decode cX2_init 4 = .ok (.aload_n 0, 1) := by decide +kernel
theorem dX2_init_5 : decode cX2_init 5 = .ok (.bipush 100, 2) := by decide +kernel
theorem dX2_init_7 : decode cX2_init 7 = .ok (.newarray .int, 2) := by decide +kernel
theorem dX2_init_9 : decode cX2_init 9 = .ok (.putfield 11, 3) := by decide +kernel
theorem dX2_init_12 : decode cX2_init 12 = .ok (.aload_n 0, 1) := by decide +kernel
theorem dX2_init_13 : decode cX2_init 13 = .ok (.bipush 100, 2) := by decide +kernel
theorem dX2_init_15 : decode cX2_init 15 = .ok (.newarray .int, 2) := by decide +kernel
theorem dX2_init_17 : decode cX2_init 17 = .ok (.putfield 15, 3) := by decide +kernel
theorem dX2_init_20 : decode cX2_init 20 = .ok (.aload_n 0, 1) := by decide +kernel
theorem dX2_init_21 : decode cX2_init 21 = .ok (.bipush 100, 2) := by decide +kernel
theorem dX2_init_23 : decode cX2_init 23 = .ok (.newarray .int, 2) := by decide +kernel
theorem dX2_init_25 : decode cX2_init 25 = .ok (.putfield 18, 3) := by decide +kernel
theorem dX2_init_28 : decode cX2_init 28 = .ok (.aload_n 0, 1) := by decide +kernel
theorem dX2_init_29 : decode cX2_init 29 = .ok (.bipush 100, 2) := by decide +kernel
theorem dX2_init_31 : decode cX2_init 31 = .ok (.newarray .boolean, 2) := by decide +kernel
theorem dX2_init_33 : decode cX2_init 33 = .ok (.putfield 21, 3) := by decide +kernel
theorem dX2_init_36 : decode cX2_init 36 = .ok (.return_, 1) := by decide +kernel
theorem dX2_seek_0 : decode cX2_seek 0 = .ok (.iconst 0, 1) := by decide +kernel
theorem dX2_seek_1 : decode cX2_seek 1 = .ok (.istore 5, 2) := by decide +kernel
theorem dX2_seek_3 : decode cX2_seek 3 = .ok (.iload 5, 2) := by decide +kernel
theorem dX2_seek_5 : decode cX2_seek 5 = .ok (.bipush 100, 2) := by decide +kernel
theorem dX2_seek_7 : decode cX2_seek 7 = .ok (.if_icmp .ge 17, 3) := by decide +kernel
theorem dX2_seek_10 : decode cX2_seek 10 = .ok (.aload_n 0, 1) := by decide +kernel
theorem dX2_seek_11 : decode cX2_seek 11 = .ok (.getfield 21, 3) := by decide +kernel
theorem dX2_seek_14 : decode cX2_seek 14 = .ok (.iload 5, 2) := by decide +kernel
theorem dX2_seek_16 : decode cX2_seek 16 = .ok (.iconst 0, 1) := by decide +kernel
theorem dX2_seek_17 : decode cX2_seek 17 = .ok (.bastore, 1) := by decide +kernel
theorem dX2_seek_18 : decode cX2_seek 18 = .ok (.iinc 5 1, 3) := by decide +kernel
theorem dX2_seek_21 : decode cX2_seek 21 = .ok (.goto (-18), 3) := by decide +kernel
theorem dX2_seek_24 : decode cX2_seek 24 = .ok (.aload_n 0, 1) := by decide +kernel
theorem dX2_seek_25 : decode cX2_seek 25 = .ok (.iconst 0, 1) := by decide +kernel
theorem dX2_seek_26 : decode cX2_seek 26 = .ok (.putfield 25, 3) := by decide +kernel
theorem dX2_seek_29 : decode cX2_seek 29 = .ok (.aload_n 1, 1) := by decide +kernel
theorem dX2_seek_30 : decode cX2_seek 30 = .ok (.iload_n 2, 1) := by decide +kernel
theorem dX2_seek_31 : decode cX2_seek 31 = .ok (.invokevirtual 29, 3) := by decide +kernel
theorem dX2_seek_34 : decode cX2_seek 34 = .ok (.aload_n 3, 1) := by decide +kernel
theorem dX2_seek_35 : decode cX2_seek 35 = .ok (.iload 4, 2) := by decide +kernel
theorem dX2_seek_37 : decode cX2_seek 37 = .ok (.invokevirtual 29, 3) := by decide +kernel
theorem dX2_seek_40 : decode cX2_seek 40 = .ok (.if_icmp .eq 14, 3) := by decide +kernel
theorem dX2_seek_43 : decode cX2_seek 43 = .ok (.aload_n 0, 1) := by decide +kernel
theorem dX2_seek_44 : decode cX2_seek 44 = .ok (.iconst 0, 1) := by decide +kernel
theorem dX2_seek_45 : decode cX2_seek 45 = .ok (.putfield 35, 3) := by decide +kernel
theorem dX2_seek_48 : decode cX2_seek 48 = .ok (.aload_n 0, 1) := by decide +kernel
theorem dX2_seek_49 : decode cX2_seek 49 = .ok (.iconst 0, 1) := by decide +kernel
theorem dX2_seek_50 : decode cX2_seek 50 = .ok (.putfield 38, 3) := by decide +kernel
theorem dX2_seek_53 : decode cX2_seek 53 = .ok (.return_, 1) := by decide +kernel
theorem dX2_seek_54 : decode cX2_seek 54 = .ok (.aload_n 0, 1) := by decide +kernel
theorem dX2_seek_55 : decode cX2_seek 55 = .ok (.iload_n 2, 1) := by decide +kernel
theorem dX2_seek_56 : decode cX2_seek 56 = .ok (.bipush 10, 2) := by decide +kernel
theorem dX2_seek_58 : decode cX2_seek 58 = .ok (.imul, 1) := by decide +kernel
theorem dX2_seek_59 : decode cX2_seek 59 = .ok (.iload 4, 2) := by decide +kernel
theorem dX2_seek_61 : decode cX2_seek 61 = .ok (.iadd, 1) := by decide +kernel
theorem dX2_seek_62 : decode cX2_seek 62 = .ok (.iconst 0, 1) := by decide +kernel
theorem dX2_seek_63 : decode cX2_seek 63 = .ok (.iconst 0, 1) := by decide +kernel
theorem dX2_seek_64 : decode cX2_seek 64 = .ok (.invokevirtual 41, 3) := by decide +kernel
theorem dX2_seek_67 : decode cX2_seek 67 = .ok (.iconst 0, 1) := by decide +kernel
theorem dX2_seek_68 : decode cX2_seek 68 = .ok (.istore 5, 2) := by decide +kernel
theorem dX2_seek_70 : decode cX2_seek 70 = .ok (.iload 5, 2) := by decide +kernel
theorem dX2_seek_72 : decode cX2_seek 72 = .ok (.aload_n 0, 1) := by decide +kernel
theorem dX2_seek_73 : decode cX2_seek 73 = .ok (.getfield 25, 3) := by decide +kernel
theorem dX2_seek_76 : decode cX2_seek 76 = .ok (.if_icmp .ge 28, 3) := by decide +kernel
theorem dX2_seek_79 : decode cX2_seek 79 = .ok (.iload 5, 2) := by decide +kernel
theorem dX2_seek_81 : decode cX2_seek 81 = .ok (.bipush 100, 2) := by decide +kernel
theorem dX2_seek_83 : decode cX2_seek 83 = .ok (.if_icmp .ge 21, 3) := by decide +kernel
theorem dX2_seek_86 : decode cX2_seek 86 = .ok (.aload_n 0, 1) := by decide +kernel
theorem dX2_seek_87 : decode cX2_seek 87 = .ok (.aload_n 1, 1) := by decide +kernel
theorem dX2_seek_88 : decode cX2_seek 88 = .ok (.aload_n 3, 1) := by decide +kernel
theorem dX2_seek_89 : decode cX2_seek 89 = .ok (.iload 5, 2) := by decide +kernel
theorem dX2_seek_91 : decode cX2_seek 91 = .ok (.invokevirtual 45, 3) := by decide +kernel
theorem dX2_seek_94 : decode cX2_seek 94 = .ok (.ifCond .eq 4, 3) := by decide +kernel
theorem dX2_seek_97 : decode cX2_seek 97 = .ok (.return_, 1) := by decide +kernel
theorem dX2_seek_98 : decode cX2_seek 98 = .ok (.iinc 5 1, 3) := by decide +kernel
theorem dX2_seek_101 : decode cX2_seek 101 = .ok (.goto (-31), 3) := by decide +kernel
theorem dX2_seek_104 : decode cX2_seek 104 = .ok (.aload_n 0, 1) := by decide +kernel
theorem dX2_seek_105 : decode cX2_seek 105 = .ok (.iconst (-1), 1) := by decide +kernel
theorem dX2_seek_106 : decode cX2_seek 106 = .ok (.putfield 35, 3) := by decide +kernel
theorem dX2_seek_109 : decode cX2_seek 109 = .ok (.aload_n 0, 1) := by decide +kernel
theorem dX2_seek_110 : decode cX2_seek 110 = .ok (.iconst (-1), 1) := by decide +kernel
theorem dX2_seek_111 : decode cX2_seek 111 = .ok (.putfield 38, 3) := by decide +kernel
theorem dX2_seek_114 : decode cX2_seek 114 = .ok (.return_, 1) := by decide +kernel
theorem dX2_goOn_0 : decode cX2_goOn 0 = .ok (.iload_n 3, 1) := by decide +kernel
theorem dX2_goOn_1 : decode cX2_goOn 1 = .ok (.bipush 100, 2) := by decide +kernel
theorem dX2_goOn_3 : decode cX2_goOn 3 = .ok (.invokestatic 49, 3) := by decide +kernel
theorem dX2_goOn_6 : decode cX2_goOn 6 = .ok (.ifCond .ne 5, 3) := by decide +kernel
theorem dX2_goOn_9 : decode cX2_goOn 9 = .ok (.iconst 0, 1) := by decide +kernel
theorem dX2_goOn_10 : decode cX2_goOn 10 = .ok (.ireturn, 1) := by decide +kernel
theorem dX2_goOn_11 : decode cX2_goOn 11 = .ok (.aload_n 0, 1) := by decide +kernel
theorem dX2_goOn_12 : decode cX2_goOn 12 = .ok (.getfield 11, 3) := by decide +kernel
theorem dX2_goOn_15 : decode cX2_goOn 15 = .ok (.iload_n 3, 1) := by decide +kernel
theorem dX2_goOn_16 : decode cX2_goOn 16 = .ok (.iaload, 1) := by decide +kernel
theorem dX2_goOn_17 : decode cX2_goOn 17 = .ok (.bipush 10, 2) := by decide +kernel
theorem dX2_goOn_19 : decode cX2_goOn 19 = .ok (.idiv, 1) := by decide +kernel
theorem dX2_goOn_20 : decode cX2_goOn 20 = .ok (.istore 4, 2) := by decide +kernel
theorem dX2_goOn_22 : decode cX2_goOn 22 = .ok (.aload_n 0, 1) := by decide +kernel
theorem dX2_goOn_23 : decode cX2_goOn 23 = .ok (.getfield 11, 3) := by decide +kernel
theorem dX2_goOn_26 : decode cX2_goOn 26 = .ok (.iload_n 3, 1) := by decide +kernel
theorem dX2_goOn_27 : decode cX2_goOn 27 = .ok (.iaload, 1) := by decide +kernel
theorem dX2_goOn_28 : decode cX2_goOn 28 = .ok (.bipush 10, 2) := by decide +kernel
theorem dX2_goOn_30 : decode cX2_goOn 30 = .ok (.irem, 1) := by decide +kernel
theorem dX2_goOn_31 : decode cX2_goOn 31 = .ok (.istore 5, 2) := by decide +kernel
theorem dX2_goOn_33 : decode cX2_goOn 33 = .ok (.aload_n 0, 1) := by decide +kernel
theorem dX2_goOn_34 : decode cX2_goOn 34 = .ok (.getfield 15, 3) := by decide +kernel
theorem dX2_goOn_37 : decode cX2_goOn 37 = .ok (.iload_n 3, 1) := by decide +kernel
theorem dX2_goOn_38 : decode cX2_goOn 38 = .ok (.iaload, 1) := by decide +kernel
theorem dX2_goOn_39 : decode cX2_goOn 39 = .ok (.iconst 1, 1) := by decide +kernel
theorem dX2_goOn_40 : decode cX2_goOn 40 = .ok (.iadd, 1) := by decide +kernel
theorem dX2_goOn_41 : decode cX2_goOn 41 = .ok (.istore 6, 2) := by decide +kernel
theorem dX2_goOn_43 : decode cX2_goOn 43 = .ok (.iconst 0, 1) := by decide +kernel
theorem dX2_goOn_44 : decode cX2_goOn 44 = .ok (.istore 7, 2) := by decide +kernel
theorem dX2_goOn_46 : decode cX2_goOn 46 = .ok (.iload 7, 2) := by decide +kernel
theorem dX2_goOn_48 : decode cX2_goOn 48 = .ok (.iconst 4, 1) := by decide +kernel
theorem dX2_goOn_49 : decode cX2_goOn 49 = .ok (.if_icmp .ge 146, 3) := by decide +kernel
theorem dX2_goOn_52 : decode cX2_goOn 52 = .ok (.aload_n 1, 1) := by decide +kernel
theorem dX2_goOn_53 : decode cX2_goOn 53 = .ok (.iload 4, 2) := by decide +kernel
theorem dX2_goOn_55 : decode cX2_goOn 55 = .ok (.iload 7, 2) := by decide +kernel
theorem dX2_goOn_57 : decode cX2_goOn 57 = .ok (.invokevirtual 53, 3) := by decide +kernel
theorem dX2_goOn_60 : decode cX2_goOn 60 = .ok (.istore 8, 2) := by decide +kernel
theorem dX2_goOn_62 : decode cX2_goOn 62 = .ok (.aload_n 2, 1) := by decide +kernel
theorem dX2_goOn_63 : decode cX2_goOn 63 = .ok (.iload 5, 2) := by decide +kernel
theorem dX2_goOn_65 : decode cX2_goOn 65 = .ok (.iload 7, 2) := by decide +kernel
theorem dX2_goOn_67 : decode cX2_goOn 67 = .ok (.invokevirtual 53, 3) := by decide +kernel
theorem dX2_goOn_70 : decode cX2_goOn 70 = .ok (.istore 9, 2) := by decide +kernel
theorem dX2_goOn_72 : decode cX2_goOn 72 = .ok (.iload 8, 2) := by decide +kernel
theorem dX2_goOn_74 : decode cX2_goOn 74 = .ok (.iconst (-1), 1) := by decide +kernel
theorem dX2_goOn_75 : decode cX2_goOn 75 = .ok (.if_icmp .eq 114, 3) := by decide +kernel
theorem dX2_goOn_78 : decode cX2_goOn 78 = .ok (.iload 9, 2) := by decide +kernel
theorem dX2_goOn_80 : decode cX2_goOn 80 = .ok (.iconst (-1), 1) := by decide +kernel
theorem dX2_goOn_81 : decode cX2_goOn 81 = .ok (.if_icmp .ne 6, 3) := by decide +kernel
theorem dX2_goOn_84 : decode cX2_goOn 84 = .ok (.goto 105, 3) := by decide +kernel
theorem dX2_goOn_87 : decode cX2_goOn 87 = .ok (.iload 6, 2) := by decide +kernel
theorem dX2_goOn_89 : decode cX2_goOn 89 = .ok (.bipush 8, 2) := by decide +kernel
theorem dX2_goOn_91 : decode cX2_goOn 91 = .ok (.if_icmp .gt 20, 3) := by decide +kernel
theorem dX2_goOn_94 : decode cX2_goOn 94 = .ok (.bipush 10, 2) := by decide +kernel
theorem dX2_goOn_96 : decode cX2_goOn 96 = .ok (.aload_n 0, 1) := by decide +kernel
theorem dX2_goOn_97 : decode cX2_goOn 97 = .ok (.getfield 18, 3) := by decide +kernel
theorem dX2_goOn_100 : decode cX2_goOn 100 = .ok (.iload_n 3, 1) := by decide +kernel
theorem dX2_goOn_101 : decode cX2_goOn 101 = .ok (.iaload, 1) := by decide +kernel
theorem dX2_goOn_102 : decode cX2_goOn 102 = .ok (.imul, 1) := by decide +kernel
theorem dX2_goOn_103 : decode cX2_goOn 103 = .ok (.iload 7, 2) := by decide +kernel
theorem dX2_goOn_105 : decode cX2_goOn 105 = .ok (.iadd, 1) := by decide +kernel
theorem dX2_goOn_106 : decode cX2_goOn 106 = .ok (.iconst 1, 1) := by decide +kernel
theorem dX2_goOn_107 : decode cX2_goOn 107 = .ok (.iadd, 1) := by decide +kernel
theorem dX2_goOn_108 : decode cX2_goOn 108 = .ok (.goto 9, 3) := by decide +kernel
theorem dX2_goOn_111 : decode cX2_goOn 111 = .ok (.aload_n 0, 1) := by decide +kernel
theorem dX2_goOn_112 : decode cX2_goOn 112 = .ok (.getfield 18, 3) := by decide +kernel
theorem dX2_goOn_115 : decode cX2_goOn 115 = .ok (.iload_n 3, 1) := by decide +kernel
theorem dX2_goOn_116 : decode cX2_goOn 116 = .ok (.iaload, 1) := by decide +kernel
theorem dX2_goOn_117 : decode cX2_goOn 117 = .ok (.istore 10, 2) := by decide +kernel
theorem dX2_goOn_119 : decode cX2_goOn 119 = .ok (.iload 8, 2) := by decide +kernel
theorem dX2_goOn_121 : decode cX2_goOn 121 = .ok (.bipush 10, 2) := by decide +kernel
theorem dX2_goOn_123 : decode cX2_goOn 123 = .ok (.irem, 1) := by decide +kernel
theorem dX2_goOn_124 : decode cX2_goOn 124 = .ok (.iload 9, 2) := by decide +kernel
theorem dX2_goOn_126 : decode cX2_goOn 126 = .ok (.bipush 10, 2) := by decide +kernel
theorem dX2_goOn_128 : decode cX2_goOn 128 = .ok (.irem, 1) := by decide +kernel
theorem dX2_goOn_129 : decode cX2_goOn 129 = .ok (.if_icmp .ne 24, 3) := by decide +kernel
theorem dX2_goOn_132 : decode cX2_goOn 132 = .ok (.aload_n 1, 1) := by decide +kernel
theorem dX2_goOn_133 : decode cX2_goOn 133 = .ok (.iload 8, 2) := by decide +kernel
theorem dX2_goOn_135 : decode cX2_goOn 135 = .ok (.bipush 10, 2) := by decide +kernel
theorem dX2_goOn_137 : decode cX2_goOn 137 = .ok (.idiv, 1) := by decide +kernel
theorem dX2_goOn_138 : decode cX2_goOn 138 = .ok (.invokevirtual 29, 3) := by decide +kernel
theorem dX2_goOn_141 : decode cX2_goOn 141 = .ok (.aload_n 2, 1) := by decide +kernel
theorem dX2_goOn_142 : decode cX2_goOn 142 = .ok (.iload 9, 2) := by decide +kernel
theorem dX2_goOn_144 : decode cX2_goOn 144 = .ok (.bipush 10, 2) := by decide +kernel
theorem dX2_goOn_146 : decode cX2_goOn 146 = .ok (.idiv, 1) := by decide +kernel
theorem dX2_goOn_147 : decode cX2_goOn 147 = .ok (.invokevirtual 29, 3) := by decide +kernel
theorem dX2_goOn_150 : decode cX2_goOn 150 = .ok (.if_icmp .eq 17, 3) := by decide +kernel
theorem dX2_goOn_153 : decode cX2_goOn 153 = .ok (.aload_n 0, 1) := by decide +kernel
theorem dX2_goOn_154 : decode cX2_goOn 154 = .ok (.iload 6, 2) := by decide +kernel
theorem dX2_goOn_156 : decode cX2_goOn 156 = .ok (.putfield 35, 3) := by decide +kernel
theorem dX2_goOn_159 : decode cX2_goOn 159 = .ok (.aload_n 0, 1) := by decide +kernel
theorem dX2_goOn_160 : decode cX2_goOn 160 = .ok (.iload 10, 2) := by decide +kernel
theorem dX2_goOn_162 : decode cX2_goOn 162 = .ok (.putfield 38, 3) := by decide +kernel
theorem dX2_goOn_165 : decode cX2_goOn 165 = .ok (.iconst 1, 1) := by decide +kernel
theorem dX2_goOn_166 : decode cX2_goOn 166 = .ok (.ireturn, 1) := by decide +kernel
theorem dX2_goOn_167 : decode cX2_goOn 167 = .ok (.aload_n 0, 1) := by decide +kernel
theorem dX2_goOn_168 : decode cX2_goOn 168 = .ok (.iload 8, 2) := by decide +kernel
theorem dX2_goOn_170 : decode cX2_goOn 170 = .ok (.bipush 10, 2) := by decide +kernel
theorem dX2_goOn_172 : decode cX2_goOn 172 = .ok (.idiv, 1) := by decide +kernel
theorem dX2_goOn_173 : decode cX2_goOn 173 = .ok (.bipush 10, 2) := by decide +kernel
theorem dX2_goOn_175 : decode cX2_goOn 175 = .ok (.imul, 1) := by decide +kernel
theorem dX2_goOn_176 : decode cX2_goOn 176 = .ok (.iload 9, 2) := by decide +kernel
theorem dX2_goOn_178 : decode cX2_goOn 178 = .ok (.bipush 10, 2) := by decide +kernel
theorem dX2_goOn_180 : decode cX2_goOn 180 = .ok (.idiv, 1) := by decide +kernel
theorem dX2_goOn_181 : decode cX2_goOn 181 = .ok (.iadd, 1) := by decide +kernel
theorem dX2_goOn_182 : decode cX2_goOn 182 = .ok (.iload 6, 2) := by decide +kernel
theorem dX2_goOn_184 : decode cX2_goOn 184 = .ok (.iload 10, 2) := by decide +kernel
theorem dX2_goOn_186 : decode cX2_goOn 186 = .ok (.invokevirtual 41, 3) := by decide +kernel
theorem dX2_goOn_189 : decode cX2_goOn 189 = .ok (.iinc 7 1, 3) := by decide +kernel
theorem dX2_goOn_192 : decode cX2_goOn 192 = .ok (.goto (-146), 3) := by decide +kernel
theorem dX2_goOn_195 : decode cX2_goOn 195 = .ok (.iconst 0, 1) := by decide +kernel
theorem dX2_goOn_196 : decode cX2_goOn 196 = .ok (.ireturn, 1) := by decide +kernel
theorem dX2_add_0 : decode cX2_add 0 = .ok (.iload_n 1, 1) := by decide +kernel
theorem dX2_add_1 : decode cX2_add 1 = .ok (.bipush 100, 2) := by decide +kernel
theorem dX2_add_3 : decode cX2_add 3 = .ok (.invokestatic 49, 3) := by decide +kernel
theorem dX2_add_6 : decode cX2_add 6 = .ok (.ifCond .eq 24, 3) := by decide +kernel
theorem dX2_add_9 : decode cX2_add 9 = .ok (.aload_n 0, 1) := by decide +kernel
theorem dX2_add_10 : decode cX2_add 10 = .ok (.getfield 21, 3) := by decide +kernel
theorem dX2_add_13 : decode cX2_add 13 = .ok (.iload_n 1, 1) := by decide +kernel
theorem dX2_add_14 : decode cX2_add 14 = .ok (.baload, 1) := by decide +kernel
theorem dX2_add_15 : decode cX2_add 15 = .ok (.ifCond .ne 15, 3) := by decide +kernel
theorem dX2_add_18 : decode cX2_add 18 = .ok (.aload_n 0, 1) := by decide +kernel
theorem dX2_add_19 : decode cX2_add 19 = .ok (.getfield 25, 3) := by decide +kernel
theorem dX2_add_22 : decode cX2_add 22 = .ok (.bipush 100, 2) := by decide +kernel
theorem dX2_add_24 : decode cX2_add 24 = .ok (.invokestatic 49, 3) := by decide +kernel
theorem dX2_add_27 : decode cX2_add 27 = .ok (.ifCond .ne 4, 3) := by decide +kernel
theorem dX2_add_30 : decode cX2_add 30 = .ok (.return_, 1) := by decide +kernel
theorem dX2_add_31 : decode cX2_add 31 = .ok (.aload_n 0, 1) := by decide +kernel
theorem dX2_add_32 : decode cX2_add 32 = .ok (.getfield 21, 3) := by decide +kernel
theorem dX2_add_35 : decode cX2_add 35 = .ok (.iload_n 1, 1) := by decide +kernel
theorem dX2_add_36 : decode cX2_add 36 = .ok (.iconst 1, 1) := by decide +kernel
theorem dX2_add_37 : decode cX2_add 37 = .ok (.bastore, 1) := by decide +kernel
theorem dX2_add_38 : decode cX2_add 38 = .ok (.aload_n 0, 1) := by decide +kernel
theorem dX2_add_39 : decode cX2_add 39 = .ok (.getfield 11, 3) := by decide +kernel
theorem dX2_add_42 : decode cX2_add 42 = .ok (.aload_n 0, 1) := by decide +kernel
theorem dX2_add_43 : decode cX2_add 43 = .ok (.getfield 25, 3) := by decide +kernel
theorem dX2_add_46 : decode cX2_add 46 = .ok (.iload_n 1, 1) := by decide +kernel
theorem dX2_add_47 : decode cX2_add 47 = .ok (.iastore, 1) := by decide +kernel
theorem dX2_add_48 : decode cX2_add 48 = .ok (.aload_n 0, 1) := by decide +kernel
theorem dX2_add_49 : decode cX2_add 49 = .ok (.getfield 15, 3) := by decide +kernel
theorem dX2_add_52 : decode cX2_add 52 = .ok (.aload_n 0, 1) := by decide +kernel
theorem dX2_add_53 : decode cX2_add 53 = .ok (.getfield 25, 3) := by decide +kernel
theorem dX2_add_56 : decode cX2_add 56 = .ok (.iload_n 2, 1) := by decide +kernel
theorem dX2_add_57 : decode cX2_add 57 = .ok (.iastore, 1) := by decide +kernel
theorem dX2_add_58 : decode cX2_add 58 = .ok (.aload_n 0, 1) := by decide +kernel
theorem dX2_add_59 : decode cX2_add 59 = .ok (.getfield 18, 3) := by decide +kernel
theorem dX2_add_62 : decode cX2_add 62 = .ok (.aload_n 0, 1) := by decide +kernel
theorem dX2_add_63 : decode cX2_add 63 = .ok (.getfield 25, 3) := by decide +kernel
theorem dX2_add_66 : decode cX2_add 66 = .ok (.iload_n 3, 1) := by decide +kernel
theorem dX2_add_67 : decode cX2_add 67 = .ok (.iastore, 1) := by decide +kernel
theorem dX2_add_68 : decode cX2_add 68 = .ok (.aload_n 0, 1) := by decide +kernel
theorem dX2_add_69 : decode cX2_add 69 = .ok (.dup, 1) := by decide +kernel
theorem dX2_add_70 : decode cX2_add 70 = .ok (.getfield 25, 3) := by decide +kernel
theorem dX2_add_73 : decode cX2_add 73 = .ok (.iconst 1, 1) := by decide +kernel
theorem dX2_add_74 : decode cX2_add 74 = .ok (.iadd, 1) := by decide +kernel
theorem dX2_add_75 : decode cX2_add 75 = .ok (.putfield 25, 3) := by decide +kernel
theorem dX2_add_78 : decode cX2_add 78 = .ok (.return_, 1) := by decide +kernel
theorem dX3_init_0 : decode cX3_init 0 = .ok (.aload_n 0, 1) := by decide +kernel
theorem dX3_init_1 : decode cX3_init 1 = .ok (.invokespecial 3, 3) := by decide +kernel
theorem dX3_init_4 : decode cX3_init 4 = .ok (.aload_n 0, 1) := by decide +kernel
theorem dX3_init_5 : decode cX3_init 5 = .ok (.sipush 160, 3) := by decide +kernel
theorem dX3_init_8 : decode cX3_init 8 = .ok (.newarray .int, 2) := by decide +kernel
theorem dX3_init_10 : decode cX3_init 10 = .ok (.putfield 9, 3) := by decide +kernel
theorem dX3_init_13 : decode cX3_init 13 = .ok (.aload_n 0, 1) := by decide +kernel
theorem dX3_init_14 : decode cX3_init 14 = .ok (.iconst 3, 1) := by decide +kernel
theorem dX3_init_15 : decode cX3_init 15 = .ok (.newarray .int, 2) := by decide +kernel
theorem dX3_init_17 : decode cX3_init 17 = .ok (.putfield 15, 3) := by decide +kernel
theorem dX3_init_20 : decode cX3_init 20 = .ok (.return_, 1) := by decide +kernel
theorem dX3_add_0 : decode cX3_add 0 = .ok (.aload_n 0, 1) := by decide +kernel
theorem dX3_add_1 : decode cX3_add 1 = .ok (.getfield 18, 3) := by decide +kernel
theorem dX3_add_4 : decode cX3_add 4 = .ok (.ifCond .lt 35, 3) := by decide +kernel
theorem dX3_add_7 : decode cX3_add 7 = .ok (.aload_n 0, 1) := by decide +kernel
theorem dX3_add_8 : decode cX3_add 8 = .ok (.getfield 18, 3) := by decide +kernel
theorem dX3_add_11 : decode cX3_add 11 = .ok (.aload_n 0, 1) := by decide +kernel
theorem dX3_add_12 : decode cX3_add 12 = .ok (.getfield 9, 3) := by decide +kernel
theorem dX3_add_15 : decode cX3_add 15 = .ok (.arraylength, 1) := by decide +kernel
theorem dX3_add_16 : decode cX3_add 16 = .ok (.if_icmp .ge 23, 3) := by decide +kernel
theorem dX3_add_19 : decode cX3_add 19 = .ok (.aload_n 0, 1) := by decide +kernel
theorem dX3_add_20 : decode cX3_add 20 = .ok (.getfield 9, 3) := by decide +kernel
theorem dX3_add_23 : decode cX3_add 23 = .ok (.aload_n 0, 1) := by decide +kernel
theorem dX3_add_24 : decode cX3_add 24 = .ok (.getfield 18, 3) := by decide +kernel
theorem dX3_add_27 : decode cX3_add 27 = .ok (.iload_n 1, 1) := by decide +kernel
theorem dX3_add_28 : decode cX3_add 28 = .ok (.iastore, 1) := by decide +kernel
theorem dX3_add_29 : decode cX3_add 29 = .ok (.aload_n 0, 1) := by decide +kernel
theorem dX3_add_30 : decode cX3_add 30 = .ok (.dup, 1) := by decide +kernel
theorem dX3_add_31 : decode cX3_add 31 = .ok (.getfield 18, 3) := by decide +kernel
theorem dX3_add_34 : decode cX3_add 34 = .ok (.iconst 1, 1) := by decide +kernel
theorem dX3_add_35 : decode cX3_add 35 = .ok (.iadd, 1) := by decide +kernel
theorem dX3_add_36 : decode cX3_add 36 = .ok (.putfield 18, 3) := by decide +kernel
theorem dX3_add_39 : decode cX3_add 39 = .ok (.return_, 1) := by decide +kernel
theorem dX3_end_0 : decode cX3_end 0 = .ok (.aload_n 0, 1) := by decide +kernel
theorem dX3_end_1 : decode cX3_end 1 = .ok (.getfield 15, 3) := by decide +kernel
theorem dX3_end_4 : decode cX3_end 4 = .ok (.iload_n 1, 1) := by decide +kernel
theorem dX3_end_5 : decode cX3_end 5 = .ok (.aload_n 0, 1) := by decide +kernel
theorem dX3_end_6 : decode cX3_end 6 = .ok (.getfield 18, 3) := by decide +kernel
theorem dX3_end_9 : decode cX3_end 9 = .ok (.invokestatic 22, 3) := by decide +kernel
theorem dX3_end_12 : decode cX3_end 12 = .ok (.return_, 1) := by decide +kernel
theorem dX3_become_0 : decode cX3_become 0 = .ok (.aload_n 0, 1) := by decide +kernel
theorem dX3_become_1 : decode cX3_become 1 = .ok (.aload_n 1, 1) := by decide +kernel
theorem dX3_become_2 : decode cX3_become 2 = .ok (.getfield 18, 3) := by decide +kernel
theorem dX3_become_5 : decode cX3_become 5 = .ok (.putfield 18, 3) := by decide +kernel
theorem dX3_become_8 : decode cX3_become 8 = .ok (.aload_n 1, 1) := by decide +kernel
theorem dX3_become_9 : decode cX3_become 9 = .ok (.getfield 9, 3) := by decide +kernel
theorem dX3_become_12 : decode cX3_become 12 = .ok (.aload_n 0, 1) := by decide +kernel
theorem dX3_become_13 : decode cX3_become 13 = .ok (.getfield 9, 3) := by decide +kernel
theorem dX3_become_16 : decode cX3_become 16 = .ok (.invokestatic 26, 3) := by decide +kernel
theorem dX3_become_19 : decode cX3_become 19 = .ok (.aload_n 1, 1) := by decide +kernel
theorem dX3_become_20 : decode cX3_become 20 = .ok (.getfield 15, 3) := by decide +kernel
theorem dX3_become_23 : decode cX3_become 23 = .ok (.aload_n 0, 1) := by decide +kernel
theorem dX3_become_24 : decode cX3_become 24 = .ok (.getfield 15, 3) := by decide +kernel
theorem dX3_become_27 : decode cX3_become 27 = .ok (.invokestatic 26, 3) := by decide +kernel
theorem dX3_become_30 : decode cX3_become 30 = .ok (.return_, 1) := by decide +kernel
theorem dX3_comesTo_0 : decode cX3_comesTo 0 = .ok (.iload_n 1, 1) := by decide +kernel
theorem dX3_comesTo_1 : decode cX3_comesTo 1 = .ok (.ifCond .le 16, 3) := by decide +kernel
theorem dX3_comesTo_4 : decode cX3_comesTo 4 = .ok (.aload_n 0, 1) := by decide +kernel
theorem dX3_comesTo_5 : decode cX3_comesTo 5 = .ok (.getfield 15, 3) := by decide +kernel
theorem dX3_comesTo_8 : decode cX3_comesTo 8 = .ok (.iload_n 1, 1) := by decide +kernel
theorem dX3_comesTo_9 : decode cX3_comesTo 9 = .ok (.iconst 1, 1) := by decide +kernel
theorem dX3_comesTo_10 : decode cX3_comesTo 10 = .ok (.isub, 1) := by decide +kernel
theorem dX3_comesTo_11 : decode cX3_comesTo 11 = .ok (.invokestatic 30, 3) := by decide +kernel
theorem dX3_comesTo_14 : decode cX3_comesTo 14 = .ok (.goto 4, 3) := by decide +kernel
theorem dX3_comesTo_17 : decode cX3_comesTo 17 = .ok (.iconst 0, 1) := by decide +kernel
theorem dX3_comesTo_18 : decode cX3_comesTo 18 = .ok (.istore 4, 2) := by decide +kernel
theorem dX3_comesTo_20 : decode cX3_comesTo 20 = .ok (.aload_n 0, 1) := by decide +kernel
theorem dX3_comesTo_21 : decode cX3_comesTo 21 = .ok (.getfield 15, 3) := by decide +kernel
theorem dX3_comesTo_24 : decode cX3_comesTo 24 = .ok (.iload_n 1, 1) := by decide +kernel
theorem dX3_comesTo_25 : decode cX3_comesTo 25 = .ok (.invokestatic 30, 3) := by decide +kernel
theorem dX3_comesTo_28 : decode cX3_comesTo 28 = .ok (.aload_n 0, 1) := by decide +kernel
theorem dX3_comesTo_29 : decode cX3_comesTo 29 = .ok (.getfield 9, 3) := by decide +kernel
theorem dX3_comesTo_32 : decode cX3_comesTo 32 = .ok (.arraylength, 1) := by decide +kernel
theorem dX3_comesTo_33 : decode cX3_comesTo 33 = .ok (.invokestatic 34, 3) := by decide +kernel
theorem dX3_comesTo_36 : decode cX3_comesTo 36 = .ok (.istore 5, 2) := by decide +kernel
theorem dX3_comesTo_38 : decode cX3_comesTo 38 = .ok (.iconst 0, 1) := by decide +kernel
theorem dX3_comesTo_39 : decode cX3_comesTo 39 = .ok (.istore 6, 2) := by decide +kernel
theorem dX3_comesTo_41 : decode cX3_comesTo 41 = .ok (.iload 4, 2) := by decide +kernel
theorem dX3_comesTo_43 : decode cX3_comesTo 43 = .ok (.iconst 0, 1) := by decide +kernel
theorem dX3_comesTo_44 : decode cX3_comesTo 44 = .ok (.invokestatic 40, 3) := by decide +kernel
theorem dX3_comesTo_47 : decode cX3_comesTo 47 = .ok (.istore 7, 2) := by decide +kernel
theorem dX3_comesTo_49 : decode cX3_comesTo 49 = .ok (.iload 7, 2) := by decide +kernel
theorem dX3_comesTo_51 : decode cX3_comesTo 51 = .ok (.iload 5, 2) := by decide +kernel
theorem dX3_comesTo_53 : decode cX3_comesTo 53 = .ok (.if_icmp .ge 147, 3) := by decide +kernel
theorem dX3_comesTo_56 : decode cX3_comesTo 56 = .ok (.aload_n 0, 1) := by decide +kernel
theorem dX3_comesTo_57 : decode cX3_comesTo 57 = .ok (.getfield 9, 3) := by decide +kernel
theorem dX3_comesTo_60 : decode cX3_comesTo 60 = .ok (.iload 7, 2) := by decide +kernel
theorem dX3_comesTo_62 : decode cX3_comesTo 62 = .ok (.iaload, 1) := by decide +kernel
theorem dX3_comesTo_63 : decode cX3_comesTo 63 = .ok (.istore 8, 2) := by decide +kernel
theorem dX3_comesTo_65 : decode cX3_comesTo 65 = .ok (.iload 8, 2) := by decide +kernel
theorem dX3_comesTo_67 : decode cX3_comesTo 67 = .ok (.bipush (-20), 2) := by decide +kernel
theorem dX3_comesTo_69 : decode cX3_comesTo 69 = .ok (.if_icmp .le 34, 3) := by decide +kernel
theorem dX3_comesTo_72 : decode cX3_comesTo 72 = .ok (.aload_n 3, 1) := by decide +kernel
theorem dX3_comesTo_73 : decode cX3_comesTo 73 = .ok (.iload 6, 2) := by decide +kernel
theorem dX3_comesTo_75 : decode cX3_comesTo 75 = .ok (.iload 8, 2) := by decide +kernel
theorem dX3_comesTo_77 : decode cX3_comesTo 77 = .ok (.ifCond .lt 8, 3) := by decide +kernel
theorem dX3_comesTo_80 : decode cX3_comesTo 80 = .ok (.iload 8, 2) := by decide +kernel
theorem dX3_comesTo_82 : decode cX3_comesTo 82 = .ok (.goto 12, 3) := by decide +kernel
theorem dX3_comesTo_85 : decode cX3_comesTo 85 = .ok (.aload_n 2, 1) := by decide +kernel
theorem dX3_comesTo_86 : decode cX3_comesTo 86 = .ok (.bipush (-10), 2) := by decide +kernel
theorem dX3_comesTo_88 : decode cX3_comesTo 88 = .ok (.iload 8, 2) := by decide +kernel
theorem dX3_comesTo_90 : decode cX3_comesTo 90 = .ok (.isub, 1) := by decide +kernel
theorem dX3_comesTo_91 : decode cX3_comesTo 91 = .ok (.invokestatic 30, 3) := by decide +kernel
theorem dX3_comesTo_94 : decode cX3_comesTo 94 = .ok (.invokestatic 22, 3) := by decide +kernel
theorem dX3_comesTo_97 : decode cX3_comesTo 97 = .ok (.iinc 6 1, 3) := by decide +kernel
theorem dX3_comesTo_100 : decode cX3_comesTo 100 = .ok (.goto 94, 3) := by decide +kernel
theorem dX3_comesTo_103 : decode cX3_comesTo 103 = .ok (.iload 8, 2) := by decide +kernel
theorem dX3_comesTo_105 : decode cX3_comesTo 105 = .ok (.bipush (-22), 2) := by decide +kernel
theorem dX3_comesTo_107 : decode cX3_comesTo 107 = .ok (.if_icmp .eq 10, 3) := by decide +kernel
theorem dX3_comesTo_110 : decode cX3_comesTo 110 = .ok (.iload 8, 2) := by decide +kernel
theorem dX3_comesTo_112 : decode cX3_comesTo 112 = .ok (.bipush (-28), 2) := by decide +kernel
theorem dX3_comesTo_114 : decode cX3_comesTo 114 = .ok (.if_icmp .ne 50, 3) := by decide +kernel
theorem dX3_comesTo_117 : decode cX3_comesTo 117 = .ok (.aload_n 3, 1) := by decide +kernel
theorem dX3_comesTo_118 : decode cX3_comesTo 118 = .ok (.iload 6, 2) := by decide +kernel
theorem dX3_comesTo_120 : decode cX3_comesTo 120 = .ok (.iconst 1, 1) := by decide +kernel
theorem dX3_comesTo_121 : decode cX3_comesTo 121 = .ok (.isub, 1) := by decide +kernel
theorem dX3_comesTo_122 : decode cX3_comesTo 122 = .ok (.invokestatic 30, 3) := by decide +kernel
theorem dX3_comesTo_125 : decode cX3_comesTo 125 = .ok (.istore 9, 2) := by decide +kernel
theorem dX3_comesTo_127 : decode cX3_comesTo 127 = .ok (.aload_n 3, 1) := by decide +kernel
theorem dX3_comesTo_128 : decode cX3_comesTo 128 = .ok (.iload 6, 2) := by decide +kernel
theorem dX3_comesTo_130 : decode cX3_comesTo 130 = .ok (.iconst 1, 1) := by decide +kernel
theorem dX3_comesTo_131 : decode cX3_comesTo 131 = .ok (.isub, 1) := by decide +kernel
theorem dX3_comesTo_132 : decode cX3_comesTo 132 = .ok (.iload 8, 2) := by decide +kernel
theorem dX3_comesTo_134 : decode cX3_comesTo 134 = .ok (.bipush (-28), 2) := by decide +kernel
theorem dX3_comesTo_136 : decode cX3_comesTo 136 = .ok (.if_icmp .ne 9, 3) := by decide +kernel
theorem dX3_comesTo_139 : decode cX3_comesTo 139 = .ok (.iload 9, 2) := by decide +kernel
theorem dX3_comesTo_141 : decode cX3_comesTo 141 = .ok (.ineg, 1) := by decide +kernel
theorem dX3_comesTo_142 : decode cX3_comesTo 142 = .ok (.goto 16, 3) := by decide +kernel
theorem dX3_comesTo_145 : decode cX3_comesTo 145 = .ok (.iload 9, 2) := by decide +kernel
theorem dX3_comesTo_147 : decode cX3_comesTo 147 = .ok (.ifCond .ne 7, 3) := by decide +kernel
theorem dX3_comesTo_150 : decode cX3_comesTo 150 = .ok (.iconst 1, 1) := by decide +kernel
theorem dX3_comesTo_151 : decode cX3_comesTo 151 = .ok (.goto 4, 3) := by decide +kernel
theorem dX3_comesTo_154 : decode cX3_comesTo 154 = .ok (.iconst 0, 1) := by decide +kernel
theorem dX3_comesTo_155 : decode cX3_comesTo 155 = .ok (.invokestatic 43, 3) := by decide +kernel
theorem dX3_comesTo_158 : decode cX3_comesTo 158 = .ok (.invokestatic 22, 3) := by decide +kernel
theorem dX3_comesTo_161 : decode cX3_comesTo 161 = .ok (.goto 33, 3) := by decide +kernel
theorem dX3_comesTo_164 : decode cX3_comesTo 164 = .ok (.iinc 6 (-1), 3) := by decide +kernel
theorem dX3_comesTo_167 : decode cX3_comesTo 167 = .ok (.aload_n 3, 1) := by decide +kernel
theorem dX3_comesTo_168 : decode cX3_comesTo 168 = .ok (.iload 6, 2) := by decide +kernel
theorem dX3_comesTo_170 : decode cX3_comesTo 170 = .ok (.iconst 1, 1) := by decide +kernel
theorem dX3_comesTo_171 : decode cX3_comesTo 171 = .ok (.isub, 1) := by decide +kernel
theorem dX3_comesTo_172 : decode cX3_comesTo 172 = .ok (.iload 8, 2) := by decide +kernel
theorem dX3_comesTo_174 : decode cX3_comesTo 174 = .ok (.aload_n 3, 1) := by decide +kernel
theorem dX3_comesTo_175 : decode cX3_comesTo 175 = .ok (.iload 6, 2) := by decide +kernel
theorem dX3_comesTo_177 : decode cX3_comesTo 177 = .ok (.iconst 1, 1) := by decide +kernel
theorem dX3_comesTo_178 : decode cX3_comesTo 178 = .ok (.isub, 1) := by decide +kernel
theorem dX3_comesTo_179 : decode cX3_comesTo 179 = .ok (.invokestatic 30, 3) := by decide +kernel
theorem dX3_comesTo_182 : decode cX3_comesTo 182 = .ok (.aload_n 3, 1) := by decide +kernel
theorem dX3_comesTo_183 : decode cX3_comesTo 183 = .ok (.iload 6, 2) := by decide +kernel
theorem dX3_comesTo_185 : decode cX3_comesTo 185 = .ok (.invokestatic 30, 3) := by decide +kernel
theorem dX3_comesTo_188 : decode cX3_comesTo 188 = .ok (.invokestatic 47, 3) := by decide +kernel
theorem dX3_comesTo_191 : decode cX3_comesTo 191 = .ok (.invokestatic 22, 3) := by decide +kernel
theorem dX3_comesTo_194 : decode cX3_comesTo 194 = .ok (.iinc 7 1, 3) := by decide +kernel
theorem dX3_comesTo_197 : decode cX3_comesTo 197 = .ok (.goto (-148), 3) := by decide +kernel
theorem dX3_comesTo_200 : decode cX3_comesTo 200 = .ok (.aload_n 3, 1) := by decide +kernel
theorem dX3_comesTo_201 : decode cX3_comesTo 201 = .ok (.iconst 0, 1) := by decide +kernel
theorem dX3_comesTo_202 : decode cX3_comesTo 202 = .ok (.invokestatic 30, 3) := by decide +kernel
theorem dX3_comesTo_205 : decode cX3_comesTo 205 = .ok (.ireturn, 1) := by decide +kernel
theorem dX3_joined_0 : decode cX3_joined 0 = .ok (.iload_n 0, 1) := by decide +kernel
theorem dX3_joined_1 : decode cX3_joined 1 = .ok (.tableswitch 113 (-26) (-20) #[109, 105, 91, 77, 113, 60, 43], 43) := by decide +kernel
theorem dX3_joined_44 : decode cX3_joined 44 = .ok (.iload_n 1, 1) := by decide +kernel
theorem dX3_joined_45 : decode cX3_joined 45 = .ok (.ifCond .ne 7, 3) := by decide +kernel
theorem dX3_joined_48 : decode cX3_joined 48 = .ok (.iload_n 2, 1) := by decide +kernel
theorem dX3_joined_49 : decode cX3_joined 49 = .ok (.ifCond .eq 7, 3) := by decide +kernel
theorem dX3_joined_52 : decode cX3_joined 52 = .ok (.iconst 1, 1) := by decide +kernel
theorem dX3_joined_53 : decode cX3_joined 53 = .ok (.goto 4, 3) := by decide +kernel
theorem dX3_joined_56 : decode cX3_joined 56 = .ok (.iconst 0, 1) := by decide +kernel
theorem dX3_joined_57 : decode cX3_joined 57 = .ok (.invokestatic 43, 3) := by decide +kernel
theorem dX3_joined_60 : decode cX3_joined 60 = .ok (.ireturn, 1) := by decide +kernel
theorem dX3_joined_61 : decode cX3_joined 61 = .ok (.iload_n 1, 1) := by decide +kernel
theorem dX3_joined_62 : decode cX3_joined 62 = .ok (.ifCond .eq 11, 3) := by decide +kernel
theorem dX3_joined_65 : decode cX3_joined 65 = .ok (.iload_n 2, 1) := by decide +kernel
theorem dX3_joined_66 : decode cX3_joined 66 = .ok (.ifCond .eq 7, 3) := by decide +kernel
theorem dX3_joined_69 : decode cX3_joined 69 = .ok (.iconst 1, 1) := by decide +kernel
theorem dX3_joined_70 : decode cX3_joined 70 = .ok (.goto 4, 3) := by decide +kernel
theorem dX3_joined_73 : decode cX3_joined 73 = .ok (.iconst 0, 1) := by decide +kernel
theorem dX3_joined_74 : decode cX3_joined 74 = .ok (.invokestatic 43, 3) := by decide +kernel
theorem dX3_joined_77 : decode cX3_joined 77 = .ok (.ireturn, 1) := by decide +kernel
theorem dX3_joined_78 : decode cX3_joined 78 = .ok (.iload_n 1, 1) := by decide +kernel
theorem dX3_joined_79 : decode cX3_joined 79 = .ok (.iload_n 2, 1) := by decide +kernel
theorem dX3_joined_80 : decode cX3_joined 80 = .ok (.if_icmp .ge 7, 3) := by decide +kernel
theorem dX3_joined_83 : decode cX3_joined 83 = .ok (.iconst 1, 1) := by decide +kernel
theorem dX3_joined_84 : decode cX3_joined 84 = .ok (.goto 4, 3) := by decide +kernel
theorem dX3_joined_87 : decode cX3_joined 87 = .ok (.iconst 0, 1) := by decide +kernel
theorem dX3_joined_88 : decode cX3_joined 88 = .ok (.invokestatic 43, 3) := by decide +kernel
theorem dX3_joined_91 : decode cX3_joined 91 = .ok (.ireturn, 1) := by decide +kernel
theorem dX3_joined_92 : decode cX3_joined 92 = .ok (.iload_n 1, 1) := by decide +kernel
theorem dX3_joined_93 : decode cX3_joined 93 = .ok (.iload_n 2, 1) := by decide +kernel
theorem dX3_joined_94 : decode cX3_joined 94 = .ok (.if_icmp .ne 7, 3) := by decide +kernel
theorem dX3_joined_97 : decode cX3_joined 97 = .ok (.iconst 1, 1) := by decide +kernel
theorem dX3_joined_98 : decode cX3_joined 98 = .ok (.goto 4, 3) := by decide +kernel
theorem dX3_joined_101 : decode cX3_joined 101 = .ok (.iconst 0, 1) := by decide +kernel
theorem dX3_joined_102 : decode cX3_joined 102 = .ok (.invokestatic 43, 3) := by decide +kernel
theorem dX3_joined_105 : decode cX3_joined 105 = .ok (.ireturn, 1) := by decide +kernel
theorem dX3_joined_106 : decode cX3_joined 106 = .ok (.iload_n 1, 1) := by decide +kernel
theorem dX3_joined_107 : decode cX3_joined 107 = .ok (.iload_n 2, 1) := by decide +kernel
theorem dX3_joined_108 : decode cX3_joined 108 = .ok (.iadd, 1) := by decide +kernel
theorem dX3_joined_109 : decode cX3_joined 109 = .ok (.ireturn, 1) := by decide +kernel
theorem dX3_joined_110 : decode cX3_joined 110 = .ok (.iload_n 1, 1) := by decide +kernel
theorem dX3_joined_111 : decode cX3_joined 111 = .ok (.iload_n 2, 1) := by decide +kernel
theorem dX3_joined_112 : decode cX3_joined 112 = .ok (.isub, 1) := by decide +kernel
theorem dX3_joined_113 : decode cX3_joined 113 = .ok (.ireturn, 1) := by decide +kernel
theorem dX3_joined_114 : decode cX3_joined 114 = .ok (.iload_n 1, 1) := by decide +kernel
theorem dX3_joined_115 : decode cX3_joined 115 = .ok (.iload_n 2, 1) := by decide +kernel
theorem dX3_joined_116 : decode cX3_joined 116 = .ok (.imul, 1) := by decide +kernel
theorem dX3_joined_117 : decode cX3_joined 117 = .ok (.ireturn, 1) := by decide +kernel
theorem dX3_truth_0 : decode cX3_truth 0 = .ok (.iload_n 0, 1) := by decide +kernel
theorem dX3_truth_1 : decode cX3_truth 1 = .ok (.ifCond .eq 7, 3) := by decide +kernel
theorem dX3_truth_4 : decode cX3_truth 4 = .ok (.iconst 1, 1) := by decide +kernel
theorem dX3_truth_5 : decode cX3_truth 5 = .ok (.goto 4, 3) := by decide +kernel
theorem dX3_truth_8 : decode cX3_truth 8 = .ok (.iconst 0, 1) := by decide +kernel
theorem dX3_truth_9 : decode cX3_truth 9 = .ok (.ireturn, 1) := by decide +kernel
theorem dX4_init_0 : decode cX4_init 0 = .ok (.aload_n 0, 1) := by decide +kernel
theorem dX4_init_1 : decode cX4_init 1 = .ok (.invokespecial 3, 3) := by decide +kernel
theorem dX4_init_4 : decode cX4_init 4 = .ok (.aload_n 0, 1) := by decide +kernel
theorem dX4_init_5 : decode cX4_init 5 = .ok (.iconst (-1), 1) := by decide +kernel
theorem dX4_init_6 : decode cX4_init 6 = .ok (.putfield 9, 3) := by decide +kernel
theorem dX4_init_9 : decode cX4_init 9 = .ok (.aload_n 0, 1) := by decide +kernel
theorem dX4_init_10 : decode cX4_init 10 = .ok (.bipush 40, 2) := by decide +kernel
theorem dX4_init_12 : decode cX4_init 12 = .ok (.newarray .int, 2) := by decide +kernel
theorem dX4_init_14 : decode cX4_init 14 = .ok (.putfield 15, 3) := by decide +kernel
theorem dX4_init_17 : decode cX4_init 17 = .ok (.return_, 1) := by decide +kernel
theorem dX4_isMissing_0 : decode cX4_isMissing 0 = .ok (.aload_n 0, 1) := by decide +kernel
theorem dX4_isMissing_1 : decode cX4_isMissing 1 = .ok (.getfield 9, 3) := by decide +kernel
theorem dX4_isMissing_4 : decode cX4_isMissing 4 = .ok (.iconst (-1), 1) := by decide +kernel
theorem dX4_isMissing_5 : decode cX4_isMissing 5 = .ok (.if_icmp .ne 7, 3) := by decide +kernel
theorem dX4_isMissing_8 : decode cX4_isMissing 8 = .ok (.iconst 1, 1) := by decide +kernel
theorem dX4_isMissing_9 : decode cX4_isMissing 9 = .ok (.goto 4, 3) := by decide +kernel
theorem dX4_isMissing_12 : decode cX4_isMissing 12 = .ok (.iconst 0, 1) := by decide +kernel
theorem dX4_isMissing_13 : decode cX4_isMissing 13 = .ok (.ireturn, 1) := by decide +kernel
theorem dX4_clear_0 : decode cX4_clear 0 = .ok (.aload_n 0, 1) := by decide +kernel
theorem dX4_clear_1 : decode cX4_clear 1 = .ok (.iload_n 1, 1) := by decide +kernel
theorem dX4_clear_2 : decode cX4_clear 2 = .ok (.putfield 9, 3) := by decide +kernel
theorem dX4_clear_5 : decode cX4_clear 5 = .ok (.aload_n 0, 1) := by decide +kernel
theorem dX4_clear_6 : decode cX4_clear 6 = .ok (.iload_n 2, 1) := by decide +kernel
theorem dX4_clear_7 : decode cX4_clear 7 = .ok (.putfield 19, 3) := by decide +kernel
theorem dX4_clear_10 : decode cX4_clear 10 = .ok (.iconst 0, 1) := by decide +kernel
theorem dX4_clear_11 : decode cX4_clear 11 = .ok (.istore_n 3, 1) := by decide +kernel
theorem dX4_clear_12 : decode cX4_clear 12 = .ok (.iload_n 3, 1) := by decide +kernel
theorem dX4_clear_13 : decode cX4_clear 13 = .ok (.bipush 40, 2) := by decide +kernel
theorem dX4_clear_15 : decode cX4_clear 15 = .ok (.if_icmp .ge 16, 3) := by decide +kernel
theorem dX4_clear_18 : decode cX4_clear 18 = .ok (.aload_n 0, 1) := by decide +kernel
theorem dX4_clear_19 : decode cX4_clear 19 = .ok (.getfield 15, 3) := by decide +kernel
theorem dX4_clear_22 : decode cX4_clear 22 = .ok (.iload_n 3, 1) := by decide +kernel
theorem dX4_clear_23 : decode cX4_clear 23 = .ok (.iconst 0, 1) := by decide +kernel
theorem dX4_clear_24 : decode cX4_clear 24 = .ok (.iastore, 1) := by decide +kernel
theorem dX4_clear_25 : decode cX4_clear 25 = .ok (.iinc 3 1, 3) := by decide +kernel
theorem dX4_clear_28 : decode cX4_clear 28 = .ok (.goto (-16), 3) := by decide +kernel
theorem dX4_clear_31 : decode cX4_clear 31 = .ok (.return_, 1) := by decide +kernel
theorem dX4_narrowed_0 : decode cX4_narrowed 0 = .ok (.aload_n 0, 1) := by decide +kernel
theorem dX4_narrowed_1 : decode cX4_narrowed 1 = .ok (.getfield 9, 3) := by decide +kernel
theorem dX4_narrowed_4 : decode cX4_narrowed 4 = .ok (.ifCond .ne 6, 3) := by decide +kernel
theorem dX4_narrowed_7 : decode cX4_narrowed 7 = .ok (.iload_n 1, 1) := by decide +kernel
theorem dX4_narrowed_8 : decode cX4_narrowed 8 = .ok (.i2b, 1) := by decide +kernel
theorem dX4_narrowed_9 : decode cX4_narrowed 9 = .ok (.ireturn, 1) := by decide +kernel
theorem dX4_narrowed_10 : decode cX4_narrowed 10 = .ok (.aload_n 0, 1) := by decide +kernel
theorem dX4_narrowed_11 : decode cX4_narrowed 11 = .ok (.getfield 9, 3) := by decide +kernel
theorem dX4_narrowed_14 : decode cX4_narrowed 14 = .ok (.iconst 1, 1) := by decide +kernel
theorem dX4_narrowed_15 : decode cX4_narrowed 15 = .ok (.if_icmp .ne 8, 3) := by decide +kernel
theorem dX4_narrowed_18 : decode cX4_narrowed 18 = .ok (.iload_n 1, 1) := by decide +kernel
theorem dX4_narrowed_19 : decode cX4_narrowed 19 = .ok (.i2s, 1) := by decide +kernel
theorem dX4_narrowed_20 : decode cX4_narrowed 20 = .ok (.goto 4, 3) := by decide +kernel
theorem dX4_narrowed_23 : decode cX4_narrowed 23 = .ok (.iload_n 1, 1) := by decide +kernel
theorem dX4_narrowed_24 : decode cX4_narrowed 24 = .ok (.ireturn, 1) := by decide +kernel
theorem dX4_hasItems_0 : decode cX4_hasItems 0 = .ok (.iload_n 1, 1) := by decide +kernel
theorem dX4_hasItems_1 : decode cX4_hasItems 1 = .ok (.ifCond .lt 29, 3) := by decide +kernel
theorem dX4_hasItems_4 : decode cX4_hasItems 4 = .ok (.iload_n 2, 1) := by decide +kernel
theorem dX4_hasItems_5 : decode cX4_hasItems 5 = .ok (.ifCond .lt 25, 3) := by decide +kernel
theorem dX4_hasItems_8 : decode cX4_hasItems 8 = .ok (.iload_n 2, 1) := by decide +kernel
theorem dX4_hasItems_9 : decode cX4_hasItems 9 = .ok (.aload_n 0, 1) := by decide +kernel
theorem dX4_hasItems_10 : decode cX4_hasItems 10 = .ok (.getfield 19, 3) := by decide +kernel
theorem dX4_hasItems_13 : decode cX4_hasItems 13 = .ok (.if_icmp .gt 17, 3) := by decide +kernel
theorem dX4_hasItems_16 : decode cX4_hasItems 16 = .ok (.iload_n 1, 1) := by decide +kernel
theorem dX4_hasItems_17 : decode cX4_hasItems 17 = .ok (.aload_n 0, 1) := by decide +kernel
theorem dX4_hasItems_18 : decode cX4_hasItems 18 = .ok (.getfield 19, 3) := by decide +kernel
theorem dX4_hasItems_21 : decode cX4_hasItems 21 = .ok (.iload_n 2, 1) := by decide +kernel
theorem dX4_hasItems_22 : decode cX4_hasItems 22 = .ok (.isub, 1) := by decide +kernel
theorem dX4_hasItems_23 : decode cX4_hasItems 23 = .ok (.if_icmp .gt 7, 3) := by decide +kernel
theorem dX4_hasItems_26 : decode cX4_hasItems 26 = .ok (.iconst 1, 1) := by decide +kernel
theorem dX4_hasItems_27 : decode cX4_hasItems 27 = .ok (.goto 4, 3) := by decide +kernel
theorem dX4_hasItems_30 : decode cX4_hasItems 30 = .ok (.iconst 0, 1) := by decide +kernel
theorem dX4_hasItems_31 : decode cX4_hasItems 31 = .ok (.ireturn, 1) := by decide +kernel
theorem dX4_isWalk_0 : decode cX4_isWalk 0 = .ok (.iconst 0, 1) := by decide +kernel
theorem dX4_isWalk_1 : decode cX4_isWalk 1 = .ok (.istore_n 1, 1) := by decide +kernel
theorem dX4_isWalk_2 : decode cX4_isWalk 2 = .ok (.iload_n 1, 1) := by decide +kernel
theorem dX4_isWalk_3 : decode cX4_isWalk 3 = .ok (.aload_n 0, 1) := by decide +kernel
theorem dX4_isWalk_4 : decode cX4_isWalk 4 = .ok (.getfield 19, 3) := by decide +kernel
theorem dX4_isWalk_7 : decode cX4_isWalk 7 = .ok (.if_icmp .ge 26, 3) := by decide +kernel
theorem dX4_isWalk_10 : decode cX4_isWalk 10 = .ok (.aload_n 0, 1) := by decide +kernel
theorem dX4_isWalk_11 : decode cX4_isWalk 11 = .ok (.getfield 15, 3) := by decide +kernel
theorem dX4_isWalk_14 : decode cX4_isWalk 14 = .ok (.iload_n 1, 1) := by decide +kernel
theorem dX4_isWalk_15 : decode cX4_isWalk 15 = .ok (.invokestatic 22, 3) := by decide +kernel
theorem dX4_isWalk_18 : decode cX4_isWalk 18 = .ok (.iconst 4, 1) := by decide +kernel
theorem dX4_isWalk_19 : decode cX4_isWalk 19 = .ok (.invokestatic 26, 3) := by decide +kernel
theorem dX4_isWalk_22 : decode cX4_isWalk 22 = .ok (.ifCond .ne 5, 3) := by decide +kernel
theorem dX4_isWalk_25 : decode cX4_isWalk 25 = .ok (.iconst 0, 1) := by decide +kernel
theorem dX4_isWalk_26 : decode cX4_isWalk 26 = .ok (.ireturn, 1) := by decide +kernel
theorem dX4_isWalk_27 : decode cX4_isWalk 27 = .ok (.iinc 1 1, 3) := by decide +kernel
theorem dX4_isWalk_30 : decode cX4_isWalk 30 = .ok (.goto (-28), 3) := by decide +kernel
theorem dX4_isWalk_33 : decode cX4_isWalk 33 = .ok (.aload_n 0, 1) := by decide +kernel
theorem dX4_isWalk_34 : decode cX4_isWalk 34 = .ok (.getfield 19, 3) := by decide +kernel
theorem dX4_isWalk_37 : decode cX4_isWalk 37 = .ok (.iconst 2, 1) := by decide +kernel
theorem dX4_isWalk_38 : decode cX4_isWalk 38 = .ok (.irem, 1) := by decide +kernel
theorem dX4_isWalk_39 : decode cX4_isWalk 39 = .ok (.ifCond .ne 7, 3) := by decide +kernel
theorem dX4_isWalk_42 : decode cX4_isWalk 42 = .ok (.iconst 1, 1) := by decide +kernel
theorem dX4_isWalk_43 : decode cX4_isWalk 43 = .ok (.goto 4, 3) := by decide +kernel
theorem dX4_isWalk_46 : decode cX4_isWalk 46 = .ok (.iconst 0, 1) := by decide +kernel
theorem dX4_isWalk_47 : decode cX4_isWalk 47 = .ok (.ireturn, 1) := by decide +kernel
theorem dX5_init_0 : decode cX5_init 0 = .ok (.aload_n 0, 1) := by decide +kernel
theorem dX5_init_1 : decode cX5_init 1 = .ok (.invokespecial 3, 3) := by decide +kernel
theorem dX5_init_4 : decode cX5_init 4 = .ok (.aload_n 0, 1) := by decide +kernel
theorem dX5_init_5 : decode cX5_init 5 = .ok (.bipush 6, 2) := by decide +kernel
theorem dX5_init_7 : decode cX5_init 7 = .ok (.newarray .int, 2) := by decide +kernel
theorem dX5_init_9 : decode cX5_init 9 = .ok (.putfield 9, 3) := by decide +kernel
theorem dX5_init_12 : decode cX5_init 12 = .ok (.aload_n 0, 1) := by decide +kernel
theorem dX5_init_13 : decode cX5_init 13 = .ok (.bipush 64, 2) := by decide +kernel
theorem dX5_init_15 : decode cX5_init 15 = .ok (.newarray .int, 2) := by decide +kernel
theorem dX5_init_17 : decode cX5_init 17 = .ok (.putfield 15, 3) := by decide +kernel
theorem dX5_init_20 : decode cX5_init 20 = .ok (.return_, 1) := by decide +kernel
theorem dX5_look_0 : decode cX5_look 0 = .ok (.aload_n 0, 1) := by decide +kernel
theorem dX5_look_1 : decode cX5_look 1 = .ok (.getfield 9, 3) := by decide +kernel
theorem dX5_look_4 : decode cX5_look 4 = .ok (.iconst 0, 1) := by decide +kernel
theorem dX5_look_5 : decode cX5_look 5 = .ok (.aload_n 1, 1) := by decide +kernel
theorem dX5_look_6 : decode cX5_look 6 = .ok (.getfield 18, 3) := by decide +kernel
theorem dX5_look_9 : decode cX5_look 9 = .ok (.iastore, 1) := by decide +kernel
theorem dX5_look_10 : decode cX5_look 10 = .ok (.aload_n 0, 1) := by decide +kernel
theorem dX5_look_11 : decode cX5_look 11 = .ok (.getfield 9, 3) := by decide +kernel
theorem dX5_look_14 : decode cX5_look 14 = .ok (.iconst 1, 1) := by decide +kernel
theorem dX5_look_15 : decode cX5_look 15 = .ok (.aload_n 2, 1) := by decide +kernel
theorem dX5_look_16 : decode cX5_look 16 = .ok (.aload_n 1, 1) := by decide +kernel
theorem dX5_look_17 : decode cX5_look 17 = .ok (.getfield 24, 3) := by decide +kernel
theorem dX5_look_20 : decode cX5_look 20 = .ok (.invokevirtual 27, 3) := by decide +kernel
theorem dX5_look_23 : decode cX5_look 23 = .ok (.invokestatic 33, 3) := by decide +kernel
theorem dX5_look_26 : decode cX5_look 26 = .ok (.iastore, 1) := by decide +kernel
theorem dX5_look_27 : decode cX5_look 27 = .ok (.aload_n 0, 1) := by decide +kernel
theorem dX5_look_28 : decode cX5_look 28 = .ok (.getfield 9, 3) := by decide +kernel
theorem dX5_look_31 : decode cX5_look 31 = .ok (.iconst 2, 1) := by decide +kernel
theorem dX5_look_32 : decode cX5_look 32 = .ok (.aload_n 3, 1) := by decide +kernel
theorem dX5_look_33 : decode cX5_look 33 = .ok (.aload_n 1, 1) := by decide +kernel
theorem dX5_look_34 : decode cX5_look 34 = .ok (.getfield 24, 3) := by decide +kernel
theorem dX5_look_37 : decode cX5_look 37 = .ok (.invokestatic 38, 3) := by decide +kernel
theorem dX5_look_40 : decode cX5_look 40 = .ok (.iastore, 1) := by decide +kernel
theorem dX5_look_41 : decode cX5_look 41 = .ok (.aload_n 0, 1) := by decide +kernel
theorem dX5_look_42 : decode cX5_look 42 = .ok (.getfield 9, 3) := by decide +kernel
theorem dX5_look_45 : decode cX5_look 45 = .ok (.iconst 3, 1) := by decide +kernel
theorem dX5_look_46 : decode cX5_look 46 = .ok (.aload_n 1, 1) := by decide +kernel
theorem dX5_look_47 : decode cX5_look 47 = .ok (.getfield 42, 3) := by decide +kernel
theorem dX5_look_50 : decode cX5_look 50 = .ok (.iastore, 1) := by decide +kernel
theorem dX5_look_51 : decode cX5_look 51 = .ok (.aload_n 0, 1) := by decide +kernel
theorem dX5_look_52 : decode cX5_look 52 = .ok (.getfield 9, 3) := by decide +kernel
theorem dX5_look_55 : decode cX5_look 55 = .ok (.iconst 4, 1) := by decide +kernel
theorem dX5_look_56 : decode cX5_look 56 = .ok (.aload_n 0, 1) := by decide +kernel
theorem dX5_look_57 : decode cX5_look 57 = .ok (.getfield 45, 3) := by decide +kernel
theorem dX5_look_60 : decode cX5_look 60 = .ok (.ifCond .eq 7, 3) := by decide +kernel
theorem dX5_look_63 : decode cX5_look 63 = .ok (.iconst 0, 1) := by decide +kernel
theorem dX5_look_64 : decode cX5_look 64 = .ok (.goto 7, 3) := by decide +kernel
theorem dX5_look_67 : decode cX5_look 67 = .ok (.aload_n 1, 1) := by decide +kernel
theorem dX5_look_68 : decode cX5_look 68 = .ok (.getfield 49, 3) := by decide +kernel
theorem dX5_look_71 : decode cX5_look 71 = .ok (.iastore, 1) := by decide +kernel
theorem dX5_look_72 : decode cX5_look 72 = .ok (.aload_n 0, 1) := by decide +kernel
theorem dX5_look_73 : decode cX5_look 73 = .ok (.getfield 9, 3) := by decide +kernel
theorem dX5_look_76 : decode cX5_look 76 = .ok (.iconst 5, 1) := by decide +kernel
theorem dX5_look_77 : decode cX5_look 77 = .ok (.aload_n 1, 1) := by decide +kernel
theorem dX5_look_78 : decode cX5_look 78 = .ok (.getfield 52, 3) := by decide +kernel
theorem dX5_look_81 : decode cX5_look 81 = .ok (.iastore, 1) := by decide +kernel
theorem dX5_look_82 : decode cX5_look 82 = .ok (.return_, 1) := by decide +kernel
theorem dX6_init_0 : decode cX6_init 0 = .ok (.aload_n 0, 1) := by decide +kernel
theorem dX6_init_1 : decode cX6_init 1 = .ok (.invokespecial 3, 3) := by decide +kernel
theorem dX6_init_4 : decode cX6_init 4 = .ok (.aload_n 0, 1) := by decide +kernel
theorem dX6_init_5 : decode cX6_init 5 = .ok (.bipush 10, 2) := by decide +kernel
theorem dX6_init_7 : decode cX6_init 7 = .ok (.newarray .int, 2) := by decide +kernel
theorem dX6_init_9 : decode cX6_init 9 = .ok (.putfield 9, 3) := by decide +kernel
theorem dX6_init_12 : decode cX6_init 12 = .ok (.aload_n 0, 1) := by decide +kernel
theorem dX6_init_13 : decode cX6_init 13 = .ok (.bipush 10, 2) := by decide +kernel
theorem dX6_init_15 : decode cX6_init 15 = .ok (.newarray .int, 2) := by decide +kernel
theorem dX6_init_17 : decode cX6_init 17 = .ok (.putfield 15, 3) := by decide +kernel
theorem dX6_init_20 : decode cX6_init 20 = .ok (.return_, 1) := by decide +kernel
theorem dX6_from_0 : decode cX6_from 0 = .ok (.iconst 0, 1) := by decide +kernel
theorem dX6_from_1 : decode cX6_from 1 = .ok (.istore_n 3, 1) := by decide +kernel
theorem dX6_from_2 : decode cX6_from 2 = .ok (.iload_n 3, 1) := by decide +kernel
theorem dX6_from_3 : decode cX6_from 3 = .ok (.bipush 10, 2) := by decide +kernel
theorem dX6_from_5 : decode cX6_from 5 = .ok (.if_icmp .ge 16, 3) := by decide +kernel
theorem dX6_from_8 : decode cX6_from 8 = .ok (.aload_n 0, 1) := by decide +kernel
theorem dX6_from_9 : decode cX6_from 9 = .ok (.getfield 9, 3) := by decide +kernel
theorem dX6_from_12 : decode cX6_from 12 = .ok (.iload_n 3, 1) := by decide +kernel
theorem dX6_from_13 : decode cX6_from 13 = .ok (.iconst (-1), 1) := by decide +kernel
theorem dX6_from_14 : decode cX6_from 14 = .ok (.iastore, 1) := by decide +kernel
theorem dX6_from_15 : decode cX6_from 15 = .ok (.iinc 3 1, 3) := by decide +kernel
theorem dX6_from_18 : decode cX6_from 18 = .ok (.goto (-16), 3) := by decide +kernel
theorem dX6_from_21 : decode cX6_from 21 = .ok (.aload_n 0, 1) := by decide +kernel
theorem dX6_from_22 : decode cX6_from 22 = .ok (.getfield 9, 3) := by decide +kernel
theorem dX6_from_25 : decode cX6_from 25 = .ok (.iload_n 2, 1) := by decide +kernel
theorem dX6_from_26 : decode cX6_from 26 = .ok (.iconst 0, 1) := by decide +kernel
theorem dX6_from_27 : decode cX6_from 27 = .ok (.invokestatic 18, 3) := by decide +kernel
theorem dX6_from_30 : decode cX6_from 30 = .ok (.aload_n 0, 1) := by decide +kernel
theorem dX6_from_31 : decode cX6_from 31 = .ok (.getfield 15, 3) := by decide +kernel
theorem dX6_from_34 : decode cX6_from 34 = .ok (.iconst 0, 1) := by decide +kernel
theorem dX6_from_35 : decode cX6_from 35 = .ok (.iload_n 2, 1) := by decide +kernel
theorem dX6_from_36 : decode cX6_from 36 = .ok (.iastore, 1) := by decide +kernel
theorem dX6_from_37 : decode cX6_from 37 = .ok (.iconst 1, 1) := by decide +kernel
theorem dX6_from_38 : decode cX6_from 38 = .ok (.istore_n 3, 1) := by decide +kernel
theorem dX6_from_39 : decode cX6_from 39 = .ok (.iconst 0, 1) := by decide +kernel
theorem dX6_from_40 : decode cX6_from 40 = .ok (.istore 4, 2) := by decide +kernel
theorem dX6_from_42 : decode cX6_from 42 = .ok (.iload 4, 2) := by decide +kernel
theorem dX6_from_44 : decode cX6_from 44 = .ok (.iload_n 3, 1) := by decide +kernel
theorem dX6_from_45 : decode cX6_from 45 = .ok (.if_icmp .ge 111, 3) := by decide +kernel
theorem dX6_from_48 : decode cX6_from 48 = .ok (.iload 4, 2) := by decide +kernel
theorem dX6_from_50 : decode cX6_from 50 = .ok (.bipush 10, 2) := by decide +kernel
theorem dX6_from_52 : decode cX6_from 52 = .ok (.if_icmp .ge 104, 3) := by decide +kernel
theorem dX6_from_55 : decode cX6_from 55 = .ok (.aload_n 0, 1) := by decide +kernel
theorem dX6_from_56 : decode cX6_from 56 = .ok (.getfield 15, 3) := by decide +kernel
theorem dX6_from_59 : decode cX6_from 59 = .ok (.iload 4, 2) := by decide +kernel
theorem dX6_from_61 : decode cX6_from 61 = .ok (.iaload, 1) := by decide +kernel
theorem dX6_from_62 : decode cX6_from 62 = .ok (.istore 5, 2) := by decide +kernel
theorem dX6_from_64 : decode cX6_from 64 = .ok (.iconst 0, 1) := by decide +kernel
theorem dX6_from_65 : decode cX6_from 65 = .ok (.istore 6, 2) := by decide +kernel
theorem dX6_from_67 : decode cX6_from 67 = .ok (.iload 6, 2) := by decide +kernel
theorem dX6_from_69 : decode cX6_from 69 = .ok (.iconst 4, 1) := by decide +kernel
theorem dX6_from_70 : decode cX6_from 70 = .ok (.if_icmp .ge 80, 3) := by decide +kernel
theorem dX6_from_73 : decode cX6_from 73 = .ok (.aload_n 1, 1) := by decide +kernel
theorem dX6_from_74 : decode cX6_from 74 = .ok (.iload 5, 2) := by decide +kernel
theorem dX6_from_76 : decode cX6_from 76 = .ok (.iload 6, 2) := by decide +kernel
theorem dX6_from_78 : decode cX6_from 78 = .ok (.invokevirtual 22, 3) := by decide +kernel
theorem dX6_from_81 : decode cX6_from 81 = .ok (.istore 7, 2) := by decide +kernel
theorem dX6_from_83 : decode cX6_from 83 = .ok (.iload 7, 2) := by decide +kernel
theorem dX6_from_85 : decode cX6_from 85 = .ok (.iconst (-1), 1) := by decide +kernel
theorem dX6_from_86 : decode cX6_from 86 = .ok (.if_icmp .eq 58, 3) := by decide +kernel
theorem dX6_from_89 : decode cX6_from 89 = .ok (.aload_n 0, 1) := by decide +kernel
theorem dX6_from_90 : decode cX6_from 90 = .ok (.getfield 9, 3) := by decide +kernel
theorem dX6_from_93 : decode cX6_from 93 = .ok (.iload 7, 2) := by decide +kernel
theorem dX6_from_95 : decode cX6_from 95 = .ok (.bipush 10, 2) := by decide +kernel
theorem dX6_from_97 : decode cX6_from 97 = .ok (.idiv, 1) := by decide +kernel
theorem dX6_from_98 : decode cX6_from 98 = .ok (.invokestatic 28, 3) := by decide +kernel
theorem dX6_from_101 : decode cX6_from 101 = .ok (.iconst (-1), 1) := by decide +kernel
theorem dX6_from_102 : decode cX6_from 102 = .ok (.if_icmp .ne 42, 3) := by decide +kernel
theorem dX6_from_105 : decode cX6_from 105 = .ok (.aload_n 0, 1) := by decide +kernel
theorem dX6_from_106 : decode cX6_from 106 = .ok (.getfield 9, 3) := by decide +kernel
theorem dX6_from_109 : decode cX6_from 109 = .ok (.iload 7, 2) := by decide +kernel
theorem dX6_from_111 : decode cX6_from 111 = .ok (.bipush 10, 2) := by decide +kernel
theorem dX6_from_113 : decode cX6_from 113 = .ok (.idiv, 1) := by decide +kernel
theorem dX6_from_114 : decode cX6_from 114 = .ok (.aload_n 0, 1) := by decide +kernel
theorem dX6_from_115 : decode cX6_from 115 = .ok (.getfield 9, 3) := by decide +kernel
theorem dX6_from_118 : decode cX6_from 118 = .ok (.iload 5, 2) := by decide +kernel
theorem dX6_from_120 : decode cX6_from 120 = .ok (.invokestatic 28, 3) := by decide +kernel
theorem dX6_from_123 : decode cX6_from 123 = .ok (.iconst 1, 1) := by decide +kernel
theorem dX6_from_124 : decode cX6_from 124 = .ok (.iadd, 1) := by decide +kernel
theorem dX6_from_125 : decode cX6_from 125 = .ok (.invokestatic 18, 3) := by decide +kernel
theorem dX6_from_128 : decode cX6_from 128 = .ok (.aload_n 0, 1) := by decide +kernel
theorem dX6_from_129 : decode cX6_from 129 = .ok (.getfield 15, 3) := by decide +kernel
theorem dX6_from_132 : decode cX6_from 132 = .ok (.iload_n 3, 1) := by decide +kernel
theorem dX6_from_133 : decode cX6_from 133 = .ok (.iload 7, 2) := by decide +kernel
theorem dX6_from_135 : decode cX6_from 135 = .ok (.bipush 10, 2) := by decide +kernel
theorem dX6_from_137 : decode cX6_from 137 = .ok (.idiv, 1) := by decide +kernel
theorem dX6_from_138 : decode cX6_from 138 = .ok (.invokestatic 18, 3) := by decide +kernel
theorem dX6_from_141 : decode cX6_from 141 = .ok (.iinc 3 1, 3) := by decide +kernel
theorem dX6_from_144 : decode cX6_from 144 = .ok (.iinc 6 1, 3) := by decide +kernel
theorem dX6_from_147 : decode cX6_from 147 = .ok (.goto (-80), 3) := by decide +kernel
theorem dX6_from_150 : decode cX6_from 150 = .ok (.iinc 4 1, 3) := by decide +kernel
theorem dX6_from_153 : decode cX6_from 153 = .ok (.goto (-111), 3) := by decide +kernel
theorem dX6_from_156 : decode cX6_from 156 = .ok (.iload_n 3, 1) := by decide +kernel
theorem dX6_from_157 : decode cX6_from 157 = .ok (.ireturn, 1) := by decide +kernel
theorem dX7_init_0 : decode cX7_init 0 = .ok (.aload_n 0, 1) := by decide +kernel
theorem dX7_init_1 : decode cX7_init 1 = .ok (.invokespecial 3, 3) := by decide +kernel
theorem dX7_init_4 : decode cX7_init 4 = .ok (.aload_n 0, 1) := by decide +kernel
theorem dX7_init_5 : decode cX7_init 5 = .ok (.sipush 160, 3) := by decide +kernel
theorem dX7_init_8 : decode cX7_init 8 = .ok (.newarray .byte, 2) := by decide +kernel
theorem dX7_init_10 : decode cX7_init 10 = .ok (.putfield 9, 3) := by decide +kernel
theorem dX7_init_13 : decode cX7_init 13 = .ok (.aload_n 0, 1) := by decide +kernel
theorem dX7_init_14 : decode cX7_init 14 = .ok (.sipush 161, 3) := by decide +kernel
theorem dX7_init_17 : decode cX7_init 17 = .ok (.newarray .int, 2) := by decide +kernel
theorem dX7_init_19 : decode cX7_init 19 = .ok (.putfield 15, 3) := by decide +kernel
theorem dX7_init_22 : decode cX7_init 22 = .ok (.aload_n 0, 1) := by decide +kernel
theorem dX7_init_23 : decode cX7_init 23 = .ok (.sipush 161, 3) := by decide +kernel
theorem dX7_init_26 : decode cX7_init 26 = .ok (.newarray .int, 2) := by decide +kernel
theorem dX7_init_28 : decode cX7_init 28 = .ok (.putfield 19, 3) := by decide +kernel
theorem dX7_init_31 : decode cX7_init 31 = .ok (.aload_n 0, 1) := by decide +kernel
theorem dX7_init_32 : decode cX7_init 32 = .ok (.new 22, 3) := by decide +kernel
theorem dX7_init_35 : decode cX7_init 35 = .ok (.dup, 1) := by decide +kernel
theorem dX7_init_36 : decode cX7_init 36 = .ok (.invokespecial 24, 3) := by decide +kernel
theorem dX7_init_39 : decode cX7_init 39 = .ok (.putfield 25, 3) := by decide +kernel
theorem dX7_init_42 : decode cX7_init 42 = .ok (.return_, 1) := by decide +kernel
theorem dX7_append_0 : decode cX7_append 0 = .ok (.aload_n 0, 1) := by decide +kernel
theorem dX7_append_1 : decode cX7_append 1 = .ok (.getfield 29, 3) := by decide +kernel
theorem dX7_append_4 : decode cX7_append 4 = .ok (.ifCond .lt 33, 3) := by decide +kernel
theorem dX7_append_7 : decode cX7_append 7 = .ok (.aload_n 0, 1) := by decide +kernel
theorem dX7_append_8 : decode cX7_append 8 = .ok (.getfield 29, 3) := by decide +kernel
theorem dX7_append_11 : decode cX7_append 11 = .ok (.sipush 160, 3) := by decide +kernel
theorem dX7_append_14 : decode cX7_append 14 = .ok (.if_icmp .ge 23, 3) := by decide +kernel
theorem dX7_append_17 : decode cX7_append 17 = .ok (.aload_n 0, 1) := by decide +kernel
theorem dX7_append_18 : decode cX7_append 18 = .ok (.getfield 9, 3) := by decide +kernel
theorem dX7_append_21 : decode cX7_append 21 = .ok (.aload_n 0, 1) := by decide +kernel
theorem dX7_append_22 : decode cX7_append 22 = .ok (.getfield 29, 3) := by decide +kernel
theorem dX7_append_25 : decode cX7_append 25 = .ok (.iload_n 1, 1) := by decide +kernel
theorem dX7_append_26 : decode cX7_append 26 = .ok (.bastore, 1) := by decide +kernel
theorem dX7_append_27 : decode cX7_append 27 = .ok (.aload_n 0, 1) := by decide +kernel
theorem dX7_append_28 : decode cX7_append 28 = .ok (.dup, 1) := by decide +kernel
theorem dX7_append_29 : decode cX7_append 29 = .ok (.getfield 29, 3) := by decide +kernel
theorem dX7_append_32 : decode cX7_append 32 = .ok (.iconst 1, 1) := by decide +kernel
theorem dX7_append_33 : decode cX7_append 33 = .ok (.iadd, 1) := by decide +kernel
theorem dX7_append_34 : decode cX7_append 34 = .ok (.putfield 29, 3) := by decide +kernel
theorem dX7_append_37 : decode cX7_append 37 = .ok (.return_, 1) := by decide +kernel
theorem dX7_readText_0 : decode cX7_readText 0 = .ok (.aload_n 0, 1) := by decide +kernel
theorem dX7_readText_1 : decode cX7_readText 1 = .ok (.invokevirtual 33, 3) := by decide +kernel
theorem dX7_readText_4 : decode cX7_readText 4 = .ok (.aload_n 0, 1) := by decide +kernel
theorem dX7_readText_5 : decode cX7_readText 5 = .ok (.iconst 0, 1) := by decide +kernel
theorem dX7_readText_6 : decode cX7_readText 6 = .ok (.putfield 36, 3) := by decide +kernel
theorem dX7_readText_9 : decode cX7_readText 9 = .ok (.aload_n 0, 1) := by decide +kernel
theorem dX7_readText_10 : decode cX7_readText 10 = .ok (.aload_n 0, 1) := by decide +kernel
theorem dX7_readText_11 : decode cX7_readText 11 = .ok (.getfield 15, 3) := by decide +kernel
theorem dX7_readText_14 : decode cX7_readText 14 = .ok (.iconst 0, 1) := by decide +kernel
theorem dX7_readText_15 : decode cX7_readText 15 = .ok (.iaload, 1) := by decide +kernel
theorem dX7_readText_16 : decode cX7_readText 16 = .ok (.putfield 39, 3) := by decide +kernel
theorem dX7_readText_19 : decode cX7_readText 19 = .ok (.aload_n 0, 1) := by decide +kernel
theorem dX7_readText_20 : decode cX7_readText 20 = .ok (.iconst (-1), 1) := by decide +kernel
theorem dX7_readText_21 : decode cX7_readText 21 = .ok (.putfield 42, 3) := by decide +kernel
theorem dX7_readText_24 : decode cX7_readText 24 = .ok (.aload_n 0, 1) := by decide +kernel
theorem dX7_readText_25 : decode cX7_readText 25 = .ok (.getfield 25, 3) := by decide +kernel
theorem dX7_readText_28 : decode cX7_readText 28 = .ok (.iconst 0, 1) := by decide +kernel
theorem dX7_readText_29 : decode cX7_readText 29 = .ok (.putfield 45, 3) := by decide +kernel
theorem dX7_readText_32 : decode cX7_readText 32 = .ok (.iconst 0, 1) := by decide +kernel
theorem dX7_readText_33 : decode cX7_readText 33 = .ok (.istore_n 1, 1) := by decide +kernel
theorem dX7_readText_34 : decode cX7_readText 34 = .ok (.iload_n 1, 1) := by decide +kernel
theorem dX7_readText_35 : decode cX7_readText 35 = .ok (.iconst 3, 1) := by decide +kernel
theorem dX7_readText_36 : decode cX7_readText 36 = .ok (.if_icmp .ge 36, 3) := by decide +kernel
theorem dX7_readText_39 : decode cX7_readText 39 = .ok (.aload_n 0, 1) := by decide +kernel
theorem dX7_readText_40 : decode cX7_readText 40 = .ok (.bipush 16, 2) := by decide +kernel
theorem dX7_readText_42 : decode cX7_readText 42 = .ok (.iload_n 1, 1) := by decide +kernel
theorem dX7_readText_43 : decode cX7_readText 43 = .ok (.iadd, 1) := by decide +kernel
theorem dX7_readText_44 : decode cX7_readText 44 = .ok (.invokevirtual 46, 3) := by decide +kernel
theorem dX7_readText_47 : decode cX7_readText 47 = .ok (.aload_n 0, 1) := by decide +kernel
theorem dX7_readText_48 : decode cX7_readText 48 = .ok (.iconst 0, 1) := by decide +kernel
theorem dX7_readText_49 : decode cX7_readText 49 = .ok (.invokevirtual 50, 3) := by decide +kernel
theorem dX7_readText_52 : decode cX7_readText 52 = .ok (.aload_n 0, 1) := by decide +kernel
theorem dX7_readText_53 : decode cX7_readText 53 = .ok (.bipush 59, 2) := by decide +kernel
theorem dX7_readText_55 : decode cX7_readText 55 = .ok (.invokevirtual 46, 3) := by decide +kernel
theorem dX7_readText_58 : decode cX7_readText 58 = .ok (.aload_n 0, 1) := by decide +kernel
theorem dX7_readText_59 : decode cX7_readText 59 = .ok (.getfield 25, 3) := by decide +kernel
theorem dX7_readText_62 : decode cX7_readText 62 = .ok (.iload_n 1, 1) := by decide +kernel
theorem dX7_readText_63 : decode cX7_readText 63 = .ok (.invokevirtual 53, 3) := by decide +kernel
theorem dX7_readText_66 : decode cX7_readText 66 = .ok (.iinc 1 1, 3) := by decide +kernel
theorem dX7_readText_69 : decode cX7_readText 69 = .ok (.goto (-35), 3) := by decide +kernel
theorem dX7_readText_72 : decode cX7_readText 72 = .ok (.aload_n 0, 1) := by decide +kernel
theorem dX7_readText_73 : decode cX7_readText 73 = .ok (.getfield 39, 3) := by decide +kernel
theorem dX7_readText_76 : decode cX7_readText 76 = .ok (.ifCond .eq 7, 3) := by decide +kernel
theorem dX7_readText_79 : decode cX7_readText 79 = .ok (.aload_n 0, 1) := by decide +kernel
theorem dX7_readText_80 : decode cX7_readText 80 = .ok (.invokevirtual 56, 3) := by decide +kernel
theorem dX7_readText_83 : decode cX7_readText 83 = .ok (.aload_n 0, 1) := by decide +kernel
theorem dX7_readText_84 : decode cX7_readText 84 = .ok (.getfield 42, 3) := by decide +kernel
theorem dX7_readText_87 : decode cX7_readText 87 = .ok (.ireturn, 1) := by decide +kernel
theorem dX7_scan_0 : decode cX7_scan 0 = .ok (.iconst 0, 1) := by decide +kernel
theorem dX7_scan_1 : decode cX7_scan 1 = .ok (.istore_n 1, 1) := by decide +kernel
theorem dX7_scan_2 : decode cX7_scan 2 = .ok (.iconst 0, 1) := by decide +kernel
theorem dX7_scan_3 : decode cX7_scan 3 = .ok (.istore_n 2, 1) := by decide +kernel
