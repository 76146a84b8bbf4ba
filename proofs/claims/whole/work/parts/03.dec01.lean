theorem dX7_scan_4 : decode cX7_scan 4 = .ok (.iload_n 2, 1) := by decide +kernel
theorem dX7_scan_5 : decode cX7_scan 5 = .ok (.sipush 160, 3) := by decide +kernel
theorem dX7_scan_8 : decode cX7_scan 8 = .ok (.if_icmp .gt 81, 3) := by decide +kernel
theorem dX7_scan_11 : decode cX7_scan 11 = .ok (.iload_n 1, 1) := by decide +kernel
theorem dX7_scan_12 : decode cX7_scan 12 = .ok (.aload_n 0, 1) := by decide +kernel
theorem dX7_scan_13 : decode cX7_scan 13 = .ok (.getfield 29, 3) := by decide +kernel
theorem dX7_scan_16 : decode cX7_scan 16 = .ok (.if_icmp .ge 20, 3) := by decide +kernel
theorem dX7_scan_19 : decode cX7_scan 19 = .ok (.aload_n 0, 1) := by decide +kernel
theorem dX7_scan_20 : decode cX7_scan 20 = .ok (.iload_n 1, 1) := by decide +kernel
theorem dX7_scan_21 : decode cX7_scan 21 = .ok (.invokevirtual 59, 3) := by decide +kernel
theorem dX7_scan_24 : decode cX7_scan 24 = .ok (.invokestatic 63, 3) := by decide +kernel
theorem dX7_scan_27 : decode cX7_scan 27 = .ok (.ifCond .eq 9, 3) := by decide +kernel
theorem dX7_scan_30 : decode cX7_scan 30 = .ok (.iinc 1 1, 3) := by decide +kernel
theorem dX7_scan_33 : decode cX7_scan 33 = .ok (.goto (-22), 3) := by decide +kernel
theorem dX7_scan_36 : decode cX7_scan 36 = .ok (.aload_n 0, 1) := by decide +kernel
theorem dX7_scan_37 : decode cX7_scan 37 = .ok (.iload_n 1, 1) := by decide +kernel
theorem dX7_scan_38 : decode cX7_scan 38 = .ok (.invokevirtual 67, 3) := by decide +kernel
theorem dX7_scan_41 : decode cX7_scan 41 = .ok (.istore_n 3, 1) := by decide +kernel
theorem dX7_scan_42 : decode cX7_scan 42 = .ok (.aload_n 0, 1) := by decide +kernel
theorem dX7_scan_43 : decode cX7_scan 43 = .ok (.getfield 19, 3) := by decide +kernel
theorem dX7_scan_46 : decode cX7_scan 46 = .ok (.iload_n 2, 1) := by decide +kernel
theorem dX7_scan_47 : decode cX7_scan 47 = .ok (.iload_n 1, 1) := by decide +kernel
theorem dX7_scan_48 : decode cX7_scan 48 = .ok (.iastore, 1) := by decide +kernel
theorem dX7_scan_49 : decode cX7_scan 49 = .ok (.aload_n 0, 1) := by decide +kernel
theorem dX7_scan_50 : decode cX7_scan 50 = .ok (.getfield 15, 3) := by decide +kernel
theorem dX7_scan_53 : decode cX7_scan 53 = .ok (.iload_n 2, 1) := by decide +kernel
theorem dX7_scan_54 : decode cX7_scan 54 = .ok (.aload_n 0, 1) := by decide +kernel
theorem dX7_scan_55 : decode cX7_scan 55 = .ok (.iload_n 1, 1) := by decide +kernel
theorem dX7_scan_56 : decode cX7_scan 56 = .ok (.iload_n 3, 1) := by decide +kernel
theorem dX7_scan_57 : decode cX7_scan 57 = .ok (.invokevirtual 70, 3) := by decide +kernel
theorem dX7_scan_60 : decode cX7_scan 60 = .ok (.iastore, 1) := by decide +kernel
theorem dX7_scan_61 : decode cX7_scan 61 = .ok (.aload_n 0, 1) := by decide +kernel
theorem dX7_scan_62 : decode cX7_scan 62 = .ok (.getfield 15, 3) := by decide +kernel
theorem dX7_scan_65 : decode cX7_scan 65 = .ok (.iload_n 2, 1) := by decide +kernel
theorem dX7_scan_66 : decode cX7_scan 66 = .ok (.iaload, 1) := by decide +kernel
theorem dX7_scan_67 : decode cX7_scan 67 = .ok (.ifCond .eq 13, 3) := by decide +kernel
theorem dX7_scan_70 : decode cX7_scan 70 = .ok (.aload_n 0, 1) := by decide +kernel
theorem dX7_scan_71 : decode cX7_scan 71 = .ok (.getfield 15, 3) := by decide +kernel
theorem dX7_scan_74 : decode cX7_scan 74 = .ok (.iload_n 2, 1) := by decide +kernel
theorem dX7_scan_75 : decode cX7_scan 75 = .ok (.iaload, 1) := by decide +kernel
theorem dX7_scan_76 : decode cX7_scan 76 = .ok (.iconst 1, 1) := by decide +kernel
theorem dX7_scan_77 : decode cX7_scan 77 = .ok (.if_icmp .ne 4, 3) := by decide +kernel
theorem dX7_scan_80 : decode cX7_scan 80 = .ok (.return_, 1) := by decide +kernel
theorem dX7_scan_81 : decode cX7_scan 81 = .ok (.iload_n 3, 1) := by decide +kernel
theorem dX7_scan_82 : decode cX7_scan 82 = .ok (.istore_n 1, 1) := by decide +kernel
theorem dX7_scan_83 : decode cX7_scan 83 = .ok (.iinc 2 1, 3) := by decide +kernel
theorem dX7_scan_86 : decode cX7_scan 86 = .ok (.goto (-82), 3) := by decide +kernel
theorem dX7_scan_89 : decode cX7_scan 89 = .ok (.return_, 1) := by decide +kernel
theorem dX7_endOf_0 : decode cX7_endOf 0 = .ok (.aload_n 0, 1) := by decide +kernel
theorem dX7_endOf_1 : decode cX7_endOf 1 = .ok (.iload_n 1, 1) := by decide +kernel
theorem dX7_endOf_2 : decode cX7_endOf 2 = .ok (.invokevirtual 59, 3) := by decide +kernel
theorem dX7_endOf_5 : decode cX7_endOf 5 = .ok (.invokestatic 74, 3) := by decide +kernel
theorem dX7_endOf_8 : decode cX7_endOf 8 = .ok (.istore_n 2, 1) := by decide +kernel
theorem dX7_endOf_9 : decode cX7_endOf 9 = .ok (.aload_n 0, 1) := by decide +kernel
theorem dX7_endOf_10 : decode cX7_endOf 10 = .ok (.iload_n 1, 1) := by decide +kernel
theorem dX7_endOf_11 : decode cX7_endOf 11 = .ok (.invokevirtual 59, 3) := by decide +kernel
theorem dX7_endOf_14 : decode cX7_endOf 14 = .ok (.invokestatic 77, 3) := by decide +kernel
theorem dX7_endOf_17 : decode cX7_endOf 17 = .ok (.istore_n 3, 1) := by decide +kernel
theorem dX7_endOf_18 : decode cX7_endOf 18 = .ok (.iload_n 1, 1) := by decide +kernel
theorem dX7_endOf_19 : decode cX7_endOf 19 = .ok (.iconst 1, 1) := by decide +kernel
theorem dX7_endOf_20 : decode cX7_endOf 20 = .ok (.iadd, 1) := by decide +kernel
theorem dX7_endOf_21 : decode cX7_endOf 21 = .ok (.istore 4, 2) := by decide +kernel
theorem dX7_endOf_23 : decode cX7_endOf 23 = .ok (.iload 4, 2) := by decide +kernel
theorem dX7_endOf_25 : decode cX7_endOf 25 = .ok (.aload_n 0, 1) := by decide +kernel
theorem dX7_endOf_26 : decode cX7_endOf 26 = .ok (.getfield 29, 3) := by decide +kernel
theorem dX7_endOf_29 : decode cX7_endOf 29 = .ok (.if_icmp .ge 41, 3) := by decide +kernel
theorem dX7_endOf_32 : decode cX7_endOf 32 = .ok (.iload_n 2, 1) := by decide +kernel
theorem dX7_endOf_33 : decode cX7_endOf 33 = .ok (.ifCond .eq 15, 3) := by decide +kernel
theorem dX7_endOf_36 : decode cX7_endOf 36 = .ok (.aload_n 0, 1) := by decide +kernel
theorem dX7_endOf_37 : decode cX7_endOf 37 = .ok (.iload 4, 2) := by decide +kernel
theorem dX7_endOf_39 : decode cX7_endOf 39 = .ok (.invokevirtual 59, 3) := by decide +kernel
theorem dX7_endOf_42 : decode cX7_endOf 42 = .ok (.invokestatic 74, 3) := by decide +kernel
theorem dX7_endOf_45 : decode cX7_endOf 45 = .ok (.ifCond .ne 19, 3) := by decide +kernel
theorem dX7_endOf_48 : decode cX7_endOf 48 = .ok (.iload_n 3, 1) := by decide +kernel
theorem dX7_endOf_49 : decode cX7_endOf 49 = .ok (.ifCond .eq 21, 3) := by decide +kernel
theorem dX7_endOf_52 : decode cX7_endOf 52 = .ok (.aload_n 0, 1) := by decide +kernel
theorem dX7_endOf_53 : decode cX7_endOf 53 = .ok (.iload 4, 2) := by decide +kernel
theorem dX7_endOf_55 : decode cX7_endOf 55 = .ok (.invokevirtual 59, 3) := by decide +kernel
theorem dX7_endOf_58 : decode cX7_endOf 58 = .ok (.invokestatic 77, 3) := by decide +kernel
theorem dX7_endOf_61 : decode cX7_endOf 61 = .ok (.ifCond .eq 9, 3) := by decide +kernel
theorem dX7_endOf_64 : decode cX7_endOf 64 = .ok (.iinc 4 1, 3) := by decide +kernel
theorem dX7_endOf_67 : decode cX7_endOf 67 = .ok (.goto (-44), 3) := by decide +kernel
theorem dX7_endOf_70 : decode cX7_endOf 70 = .ok (.iload 4, 2) := by decide +kernel
theorem dX7_endOf_72 : decode cX7_endOf 72 = .ok (.ireturn, 1) := by decide +kernel
theorem dX7_tokenOf_0 : decode cX7_tokenOf 0 = .ok (.aload_n 0, 1) := by decide +kernel
theorem dX7_tokenOf_1 : decode cX7_tokenOf 1 = .ok (.iload_n 1, 1) := by decide +kernel
theorem dX7_tokenOf_2 : decode cX7_tokenOf 2 = .ok (.invokevirtual 59, 3) := by decide +kernel
theorem dX7_tokenOf_5 : decode cX7_tokenOf 5 = .ok (.istore_n 3, 1) := by decide +kernel
theorem dX7_tokenOf_6 : decode cX7_tokenOf 6 = .ok (.iload_n 1, 1) := by decide +kernel
theorem dX7_tokenOf_7 : decode cX7_tokenOf 7 = .ok (.aload_n 0, 1) := by decide +kernel
theorem dX7_tokenOf_8 : decode cX7_tokenOf 8 = .ok (.getfield 29, 3) := by decide +kernel
theorem dX7_tokenOf_11 : decode cX7_tokenOf 11 = .ok (.if_icmp .lt 5, 3) := by decide +kernel
theorem dX7_tokenOf_14 : decode cX7_tokenOf 14 = .ok (.iconst 0, 1) := by decide +kernel
theorem dX7_tokenOf_15 : decode cX7_tokenOf 15 = .ok (.ireturn, 1) := by decide +kernel
theorem dX7_tokenOf_16 : decode cX7_tokenOf 16 = .ok (.iload_n 3, 1) := by decide +kernel
theorem dX7_tokenOf_17 : decode cX7_tokenOf 17 = .ok (.invokestatic 74, 3) := by decide +kernel
theorem dX7_tokenOf_20 : decode cX7_tokenOf 20 = .ok (.ifCond .eq 10, 3) := by decide +kernel
theorem dX7_tokenOf_23 : decode cX7_tokenOf 23 = .ok (.aload_n 0, 1) := by decide +kernel
theorem dX7_tokenOf_24 : decode cX7_tokenOf 24 = .ok (.iload_n 1, 1) := by decide +kernel
theorem dX7_tokenOf_25 : decode cX7_tokenOf 25 = .ok (.iload_n 2, 1) := by decide +kernel
theorem dX7_tokenOf_26 : decode cX7_tokenOf 26 = .ok (.invokevirtual 80, 3) := by decide +kernel
theorem dX7_tokenOf_29 : decode cX7_tokenOf 29 = .ok (.ireturn, 1) := by decide +kernel
theorem dX7_tokenOf_30 : decode cX7_tokenOf 30 = .ok (.iload_n 3, 1) := by decide +kernel
theorem dX7_tokenOf_31 : decode cX7_tokenOf 31 = .ok (.invokestatic 77, 3) := by decide +kernel
theorem dX7_tokenOf_34 : decode cX7_tokenOf 34 = .ok (.ifCond .eq 10, 3) := by decide +kernel
theorem dX7_tokenOf_37 : decode cX7_tokenOf 37 = .ok (.aload_n 0, 1) := by decide +kernel
theorem dX7_tokenOf_38 : decode cX7_tokenOf 38 = .ok (.iload_n 1, 1) := by decide +kernel
theorem dX7_tokenOf_39 : decode cX7_tokenOf 39 = .ok (.iload_n 2, 1) := by decide +kernel
theorem dX7_tokenOf_40 : decode cX7_tokenOf 40 = .ok (.invokevirtual 83, 3) := by decide +kernel
theorem dX7_tokenOf_43 : decode cX7_tokenOf 43 = .ok (.ireturn, 1) := by decide +kernel
theorem dX7_tokenOf_44 : decode cX7_tokenOf 44 = .ok (.iload_n 3, 1) := by decide +kernel
theorem dX7_tokenOf_45 : decode cX7_tokenOf 45 = .ok (.invokestatic 86, 3) := by decide +kernel
theorem dX7_tokenOf_48 : decode cX7_tokenOf 48 = .ok (.ifCond .eq 7, 3) := by decide +kernel
theorem dX7_tokenOf_51 : decode cX7_tokenOf 51 = .ok (.iload_n 3, 1) := by decide +kernel
theorem dX7_tokenOf_52 : decode cX7_tokenOf 52 = .ok (.goto 4, 3) := by decide +kernel
theorem dX7_tokenOf_55 : decode cX7_tokenOf 55 = .ok (.iconst 1, 1) := by decide +kernel
theorem dX7_tokenOf_56 : decode cX7_tokenOf 56 = .ok (.ireturn, 1) := by decide +kernel
theorem dX7_wordOf_0 : decode cX7_wordOf 0 = .ok (.iconst 0, 1) := by decide +kernel
theorem dX7_wordOf_1 : decode cX7_wordOf 1 = .ok (.istore_n 3, 1) := by decide +kernel
theorem dX7_wordOf_2 : decode cX7_wordOf 2 = .ok (.iload_n 3, 1) := by decide +kernel
theorem dX7_wordOf_3 : decode cX7_wordOf 3 = .ok (.bipush 12, 2) := by decide +kernel
theorem dX7_wordOf_5 : decode cX7_wordOf 5 = .ok (.if_icmp .ge 92, 3) := by decide +kernel
theorem dX7_wordOf_8 : decode cX7_wordOf 8 = .ok (.iload_n 3, 1) := by decide +kernel
theorem dX7_wordOf_9 : decode cX7_wordOf 9 = .ok (.invokestatic 89, 3) := by decide +kernel
theorem dX7_wordOf_12 : decode cX7_wordOf 12 = .ok (.astore 4, 2) := by decide +kernel
theorem dX7_wordOf_14 : decode cX7_wordOf 14 = .ok (.aload 4, 2) := by decide +kernel
theorem dX7_wordOf_16 : decode cX7_wordOf 16 = .ok (.invokevirtual 93, 3) := by decide +kernel
theorem dX7_wordOf_19 : decode cX7_wordOf 19 = .ok (.iload_n 2, 1) := by decide +kernel
theorem dX7_wordOf_20 : decode cX7_wordOf 20 = .ok (.iload_n 1, 1) := by decide +kernel
theorem dX7_wordOf_21 : decode cX7_wordOf 21 = .ok (.isub, 1) := by decide +kernel
theorem dX7_wordOf_22 : decode cX7_wordOf 22 = .ok (.if_icmp .ne 7, 3) := by decide +kernel
theorem dX7_wordOf_25 : decode cX7_wordOf 25 = .ok (.iconst 1, 1) := by decide +kernel
theorem dX7_wordOf_26 : decode cX7_wordOf 26 = .ok (.goto 4, 3) := by decide +kernel
theorem dX7_wordOf_29 : decode cX7_wordOf 29 = .ok (.iconst 0, 1) := by decide +kernel
theorem dX7_wordOf_30 : decode cX7_wordOf 30 = .ok (.istore 5, 2) := by decide +kernel
theorem dX7_wordOf_32 : decode cX7_wordOf 32 = .ok (.iconst 0, 1) := by decide +kernel
theorem dX7_wordOf_33 : decode cX7_wordOf 33 = .ok (.istore 6, 2) := by decide +kernel
theorem dX7_wordOf_35 : decode cX7_wordOf 35 = .ok (.iload 6, 2) := by decide +kernel
theorem dX7_wordOf_37 : decode cX7_wordOf 37 = .ok (.aload 4, 2) := by decide +kernel
theorem dX7_wordOf_39 : decode cX7_wordOf 39 = .ok (.invokevirtual 93, 3) := by decide +kernel
theorem dX7_wordOf_42 : decode cX7_wordOf 42 = .ok (.if_icmp .ge 39, 3) := by decide +kernel
theorem dX7_wordOf_45 : decode cX7_wordOf 45 = .ok (.iload 5, 2) := by decide +kernel
theorem dX7_wordOf_47 : decode cX7_wordOf 47 = .ok (.ifCond .eq 34, 3) := by decide +kernel
theorem dX7_wordOf_50 : decode cX7_wordOf 50 = .ok (.aload 4, 2) := by decide +kernel
theorem dX7_wordOf_52 : decode cX7_wordOf 52 = .ok (.iload 6, 2) := by decide +kernel
theorem dX7_wordOf_54 : decode cX7_wordOf 54 = .ok (.invokevirtual 99, 3) := by decide +kernel
theorem dX7_wordOf_57 : decode cX7_wordOf 57 = .ok (.aload_n 0, 1) := by decide +kernel
theorem dX7_wordOf_58 : decode cX7_wordOf 58 = .ok (.iload_n 1, 1) := by decide +kernel
theorem dX7_wordOf_59 : decode cX7_wordOf 59 = .ok (.iload 6, 2) := by decide +kernel
theorem dX7_wordOf_61 : decode cX7_wordOf 61 = .ok (.iadd, 1) := by decide +kernel
theorem dX7_wordOf_62 : decode cX7_wordOf 62 = .ok (.invokevirtual 59, 3) := by decide +kernel
theorem dX7_wordOf_65 : decode cX7_wordOf 65 = .ok (.if_icmp .ne 7, 3) := by decide +kernel
theorem dX7_wordOf_68 : decode cX7_wordOf 68 = .ok (.iconst 1, 1) := by decide +kernel
theorem dX7_wordOf_69 : decode cX7_wordOf 69 = .ok (.goto 4, 3) := by decide +kernel
theorem dX7_wordOf_72 : decode cX7_wordOf 72 = .ok (.iconst 0, 1) := by decide +kernel
theorem dX7_wordOf_73 : decode cX7_wordOf 73 = .ok (.istore 5, 2) := by decide +kernel
theorem dX7_wordOf_75 : decode cX7_wordOf 75 = .ok (.iinc 6 1, 3) := by decide +kernel
theorem dX7_wordOf_78 : decode cX7_wordOf 78 = .ok (.goto (-43), 3) := by decide +kernel
theorem dX7_wordOf_81 : decode cX7_wordOf 81 = .ok (.iload 5, 2) := by decide +kernel
theorem dX7_wordOf_83 : decode cX7_wordOf 83 = .ok (.ifCond .eq 8, 3) := by decide +kernel
theorem dX7_wordOf_86 : decode cX7_wordOf 86 = .ok (.bipush 10, 2) := by decide +kernel
theorem dX7_wordOf_88 : decode cX7_wordOf 88 = .ok (.iload_n 3, 1) := by decide +kernel
theorem dX7_wordOf_89 : decode cX7_wordOf 89 = .ok (.iadd, 1) := by decide +kernel
theorem dX7_wordOf_90 : decode cX7_wordOf 90 = .ok (.ireturn, 1) := by decide +kernel
theorem dX7_wordOf_91 : decode cX7_wordOf 91 = .ok (.iinc 3 1, 3) := by decide +kernel
theorem dX7_wordOf_94 : decode cX7_wordOf 94 = .ok (.goto (-92), 3) := by decide +kernel
theorem dX7_wordOf_97 : decode cX7_wordOf 97 = .ok (.iconst 1, 1) := by decide +kernel
theorem dX7_wordOf_98 : decode cX7_wordOf 98 = .ok (.ireturn, 1) := by decide +kernel
theorem dX7_numeralOf_0 : decode cX7_numeralOf 0 = .ok (.iload_n 2, 1) := by decide +kernel
theorem dX7_numeralOf_1 : decode cX7_numeralOf 1 = .ok (.iload_n 1, 1) := by decide +kernel
theorem dX7_numeralOf_2 : decode cX7_numeralOf 2 = .ok (.isub, 1) := by decide +kernel
theorem dX7_numeralOf_3 : decode cX7_numeralOf 3 = .ok (.iconst 4, 1) := by decide +kernel
theorem dX7_numeralOf_4 : decode cX7_numeralOf 4 = .ok (.if_icmp .le 5, 3) := by decide +kernel
theorem dX7_numeralOf_7 : decode cX7_numeralOf 7 = .ok (.iconst 1, 1) := by decide +kernel
theorem dX7_numeralOf_8 : decode cX7_numeralOf 8 = .ok (.ireturn, 1) := by decide +kernel
theorem dX7_numeralOf_9 : decode cX7_numeralOf 9 = .ok (.iconst 0, 1) := by decide +kernel
theorem dX7_numeralOf_10 : decode cX7_numeralOf 10 = .ok (.istore_n 3, 1) := by decide +kernel
theorem dX7_numeralOf_11 : decode cX7_numeralOf 11 = .ok (.iload_n 1, 1) := by decide +kernel
theorem dX7_numeralOf_12 : decode cX7_numeralOf 12 = .ok (.istore 4, 2) := by decide +kernel
theorem dX7_numeralOf_14 : decode cX7_numeralOf 14 = .ok (.iload 4, 2) := by decide +kernel
theorem dX7_numeralOf_16 : decode cX7_numeralOf 16 = .ok (.iload_n 2, 1) := by decide +kernel
theorem dX7_numeralOf_17 : decode cX7_numeralOf 17 = .ok (.if_icmp .ge 24, 3) := by decide +kernel
theorem dX7_numeralOf_20 : decode cX7_numeralOf 20 = .ok (.bipush 10, 2) := by decide +kernel
theorem dX7_numeralOf_22 : decode cX7_numeralOf 22 = .ok (.iload_n 3, 1) := by decide +kernel
theorem dX7_numeralOf_23 : decode cX7_numeralOf 23 = .ok (.imul, 1) := by decide +kernel
theorem dX7_numeralOf_24 : decode cX7_numeralOf 24 = .ok (.aload_n 0, 1) := by decide +kernel
theorem dX7_numeralOf_25 : decode cX7_numeralOf 25 = .ok (.iload 4, 2) := by decide +kernel
theorem dX7_numeralOf_27 : decode cX7_numeralOf 27 = .ok (.invokevirtual 59, 3) := by decide +kernel
theorem dX7_numeralOf_30 : decode cX7_numeralOf 30 = .ok (.iadd, 1) := by decide +kernel
theorem dX7_numeralOf_31 : decode cX7_numeralOf 31 = .ok (.bipush 48, 2) := by decide +kernel
theorem dX7_numeralOf_33 : decode cX7_numeralOf 33 = .ok (.isub, 1) := by decide +kernel
theorem dX7_numeralOf_34 : decode cX7_numeralOf 34 = .ok (.istore_n 3, 1) := by decide +kernel
theorem dX7_numeralOf_35 : decode cX7_numeralOf 35 = .ok (.iinc 4 1, 3) := by decide +kernel
theorem dX7_numeralOf_38 : decode cX7_numeralOf 38 = .ok (.goto (-24), 3) := by decide +kernel
theorem dX7_numeralOf_41 : decode cX7_numeralOf 41 = .ok (.sipush 1000, 3) := by decide +kernel
theorem dX7_numeralOf_44 : decode cX7_numeralOf 44 = .ok (.iload_n 3, 1) := by decide +kernel
theorem dX7_numeralOf_45 : decode cX7_numeralOf 45 = .ok (.iadd, 1) := by decide +kernel
theorem dX7_numeralOf_46 : decode cX7_numeralOf 46 = .ok (.ireturn, 1) := by decide +kernel
theorem dX7_advance_0 : decode cX7_advance 0 = .ok (.aload_n 0, 1) := by decide +kernel
theorem dX7_advance_1 : decode cX7_advance 1 = .ok (.dup, 1) := by decide +kernel
theorem dX7_advance_2 : decode cX7_advance 2 = .ok (.getfield 36, 3) := by decide +kernel
theorem dX7_advance_5 : decode cX7_advance 5 = .ok (.iconst 1, 1) := by decide +kernel
theorem dX7_advance_6 : decode cX7_advance 6 = .ok (.iadd, 1) := by decide +kernel
theorem dX7_advance_7 : decode cX7_advance 7 = .ok (.putfield 36, 3) := by decide +kernel
theorem dX7_advance_10 : decode cX7_advance 10 = .ok (.aload_n 0, 1) := by decide +kernel
theorem dX7_advance_11 : decode cX7_advance 11 = .ok (.aload_n 0, 1) := by decide +kernel
theorem dX7_advance_12 : decode cX7_advance 12 = .ok (.getfield 15, 3) := by decide +kernel
theorem dX7_advance_15 : decode cX7_advance 15 = .ok (.aload_n 0, 1) := by decide +kernel
theorem dX7_advance_16 : decode cX7_advance 16 = .ok (.getfield 36, 3) := by decide +kernel
theorem dX7_advance_19 : decode cX7_advance 19 = .ok (.invokestatic 103, 3) := by decide +kernel
theorem dX7_advance_22 : decode cX7_advance 22 = .ok (.putfield 39, 3) := by decide +kernel
theorem dX7_advance_25 : decode cX7_advance 25 = .ok (.return_, 1) := by decide +kernel
theorem dX7_refuse_0 : decode cX7_refuse 0 = .ok (.aload_n 0, 1) := by decide +kernel
theorem dX7_refuse_1 : decode cX7_refuse 1 = .ok (.getfield 42, 3) := by decide +kernel
theorem dX7_refuse_4 : decode cX7_refuse 4 = .ok (.iconst (-1), 1) := by decide +kernel
theorem dX7_refuse_5 : decode cX7_refuse 5 = .ok (.if_icmp .ne 18, 3) := by decide +kernel
theorem dX7_refuse_8 : decode cX7_refuse 8 = .ok (.aload_n 0, 1) := by decide +kernel
theorem dX7_refuse_9 : decode cX7_refuse 9 = .ok (.aload_n 0, 1) := by decide +kernel
theorem dX7_refuse_10 : decode cX7_refuse 10 = .ok (.getfield 19, 3) := by decide +kernel
theorem dX7_refuse_13 : decode cX7_refuse 13 = .ok (.aload_n 0, 1) := by decide +kernel
theorem dX7_refuse_14 : decode cX7_refuse 14 = .ok (.getfield 36, 3) := by decide +kernel
theorem dX7_refuse_17 : decode cX7_refuse 17 = .ok (.invokestatic 103, 3) := by decide +kernel
theorem dX7_refuse_20 : decode cX7_refuse 20 = .ok (.putfield 42, 3) := by decide +kernel
theorem dX7_refuse_23 : decode cX7_refuse 23 = .ok (.aload_n 0, 1) := by decide +kernel
theorem dX7_refuse_24 : decode cX7_refuse 24 = .ok (.iconst 1, 1) := by decide +kernel
theorem dX7_refuse_25 : decode cX7_refuse 25 = .ok (.putfield 39, 3) := by decide +kernel
theorem dX7_refuse_28 : decode cX7_refuse 28 = .ok (.return_, 1) := by decide +kernel
theorem dX7_expect_0 : decode cX7_expect 0 = .ok (.aload_n 0, 1) := by decide +kernel
theorem dX7_expect_1 : decode cX7_expect 1 = .ok (.getfield 39, 3) := by decide +kernel
theorem dX7_expect_4 : decode cX7_expect 4 = .ok (.iload_n 1, 1) := by decide +kernel
theorem dX7_expect_5 : decode cX7_expect 5 = .ok (.if_icmp .ne 10, 3) := by decide +kernel
theorem dX7_expect_8 : decode cX7_expect 8 = .ok (.aload_n 0, 1) := by decide +kernel
theorem dX7_expect_9 : decode cX7_expect 9 = .ok (.invokevirtual 107, 3) := by decide +kernel
theorem dX7_expect_12 : decode cX7_expect 12 = .ok (.goto 7, 3) := by decide +kernel
theorem dX7_expect_15 : decode cX7_expect 15 = .ok (.aload_n 0, 1) := by decide +kernel
theorem dX7_expect_16 : decode cX7_expect 16 = .ok (.invokevirtual 56, 3) := by decide +kernel
theorem dX7_expect_19 : decode cX7_expect 19 = .ok (.return_, 1) := by decide +kernel
theorem dX7_mayOpen_0 : decode cX7_mayOpen 0 = .ok (.iload_n 1, 1) := by decide +kernel
theorem dX7_mayOpen_1 : decode cX7_mayOpen 1 = .ok (.iconst 5, 1) := by decide +kernel
theorem dX7_mayOpen_2 : decode cX7_mayOpen 2 = .ok (.if_icmp .lt 9, 3) := by decide +kernel
theorem dX7_mayOpen_5 : decode cX7_mayOpen 5 = .ok (.aload_n 0, 1) := by decide +kernel
theorem dX7_mayOpen_6 : decode cX7_mayOpen 6 = .ok (.invokevirtual 56, 3) := by decide +kernel
theorem dX7_mayOpen_9 : decode cX7_mayOpen 9 = .ok (.iconst 0, 1) := by decide +kernel
theorem dX7_mayOpen_10 : decode cX7_mayOpen 10 = .ok (.ireturn, 1) := by decide +kernel
theorem dX7_mayOpen_11 : decode cX7_mayOpen 11 = .ok (.aload_n 0, 1) := by decide +kernel
theorem dX7_mayOpen_12 : decode cX7_mayOpen 12 = .ok (.invokevirtual 107, 3) := by decide +kernel
theorem dX7_mayOpen_15 : decode cX7_mayOpen 15 = .ok (.iconst 1, 1) := by decide +kernel
theorem dX7_mayOpen_16 : decode cX7_mayOpen 16 = .ok (.ireturn, 1) := by decide +kernel
theorem dX7_readOr_0 : decode cX7_readOr 0 = .ok (.aload_n 0, 1) := by decide +kernel
theorem dX7_readOr_1 : decode cX7_readOr 1 = .ok (.iload_n 1, 1) := by decide +kernel
theorem dX7_readOr_2 : decode cX7_readOr 2 = .ok (.invokevirtual 110, 3) := by decide +kernel
theorem dX7_readOr_5 : decode cX7_readOr 5 = .ok (.iconst 0, 1) := by decide +kernel
theorem dX7_readOr_6 : decode cX7_readOr 6 = .ok (.istore_n 2, 1) := by decide +kernel
theorem dX7_readOr_7 : decode cX7_readOr 7 = .ok (.iload_n 2, 1) := by decide +kernel
theorem dX7_readOr_8 : decode cX7_readOr 8 = .ok (.sipush 160, 3) := by decide +kernel
theorem dX7_readOr_11 : decode cX7_readOr 11 = .ok (.if_icmp .ge 36, 3) := by decide +kernel
theorem dX7_readOr_14 : decode cX7_readOr 14 = .ok (.aload_n 0, 1) := by decide +kernel
theorem dX7_readOr_15 : decode cX7_readOr 15 = .ok (.getfield 39, 3) := by decide +kernel
theorem dX7_readOr_18 : decode cX7_readOr 18 = .ok (.bipush 19, 2) := by decide +kernel
theorem dX7_readOr_20 : decode cX7_readOr 20 = .ok (.if_icmp .ne 27, 3) := by decide +kernel
theorem dX7_readOr_23 : decode cX7_readOr 23 = .ok (.aload_n 0, 1) := by decide +kernel
theorem dX7_readOr_24 : decode cX7_readOr 24 = .ok (.invokevirtual 107, 3) := by decide +kernel
theorem dX7_readOr_27 : decode cX7_readOr 27 = .ok (.aload_n 0, 1) := by decide +kernel
theorem dX7_readOr_28 : decode cX7_readOr 28 = .ok (.iload_n 1, 1) := by decide +kernel
theorem dX7_readOr_29 : decode cX7_readOr 29 = .ok (.invokevirtual 110, 3) := by decide +kernel
theorem dX7_readOr_32 : decode cX7_readOr 32 = .ok (.aload_n 0, 1) := by decide +kernel
theorem dX7_readOr_33 : decode cX7_readOr 33 = .ok (.getfield 25, 3) := by decide +kernel
theorem dX7_readOr_36 : decode cX7_readOr 36 = .ok (.bipush (-20), 2) := by decide +kernel
theorem dX7_readOr_38 : decode cX7_readOr 38 = .ok (.invokevirtual 113, 3) := by decide +kernel
theorem dX7_readOr_41 : decode cX7_readOr 41 = .ok (.iinc 2 1, 3) := by decide +kernel
theorem dX7_readOr_44 : decode cX7_readOr 44 = .ok (.goto (-37), 3) := by decide +kernel
theorem dX7_readOr_47 : decode cX7_readOr 47 = .ok (.return_, 1) := by decide +kernel
theorem dX7_readAnd_0 : decode cX7_readAnd 0 = .ok (.aload_n 0, 1) := by decide +kernel
theorem dX7_readAnd_1 : decode cX7_readAnd 1 = .ok (.iload_n 1, 1) := by decide +kernel
theorem dX7_readAnd_2 : decode cX7_readAnd 2 = .ok (.invokevirtual 116, 3) := by decide +kernel
theorem dX7_readAnd_5 : decode cX7_readAnd 5 = .ok (.iconst 0, 1) := by decide +kernel
theorem dX7_readAnd_6 : decode cX7_readAnd 6 = .ok (.istore_n 2, 1) := by decide +kernel
theorem dX7_readAnd_7 : decode cX7_readAnd 7 = .ok (.iload_n 2, 1) := by decide +kernel
theorem dX7_readAnd_8 : decode cX7_readAnd 8 = .ok (.sipush 160, 3) := by decide +kernel
theorem dX7_readAnd_11 : decode cX7_readAnd 11 = .ok (.if_icmp .ge 36, 3) := by decide +kernel
theorem dX7_readAnd_14 : decode cX7_readAnd 14 = .ok (.aload_n 0, 1) := by decide +kernel
theorem dX7_readAnd_15 : decode cX7_readAnd 15 = .ok (.getfield 39, 3) := by decide +kernel
theorem dX7_readAnd_18 : decode cX7_readAnd 18 = .ok (.bipush 20, 2) := by decide +kernel
theorem dX7_readAnd_20 : decode cX7_readAnd 20 = .ok (.if_icmp .ne 27, 3) := by decide +kernel
theorem dX7_readAnd_23 : decode cX7_readAnd 23 = .ok (.aload_n 0, 1) := by decide +kernel
theorem dX7_readAnd_24 : decode cX7_readAnd 24 = .ok (.invokevirtual 107, 3) := by decide +kernel
theorem dX7_readAnd_27 : decode cX7_readAnd 27 = .ok (.aload_n 0, 1) := by decide +kernel
theorem dX7_readAnd_28 : decode cX7_readAnd 28 = .ok (.iload_n 1, 1) := by decide +kernel
theorem dX7_readAnd_29 : decode cX7_readAnd 29 = .ok (.invokevirtual 116, 3) := by decide +kernel
theorem dX7_readAnd_32 : decode cX7_readAnd 32 = .ok (.aload_n 0, 1) := by decide +kernel
theorem dX7_readAnd_33 : decode cX7_readAnd 33 = .ok (.getfield 25, 3) := by decide +kernel
theorem dX7_readAnd_36 : decode cX7_readAnd 36 = .ok (.bipush (-21), 2) := by decide +kernel
theorem dX7_readAnd_38 : decode cX7_readAnd 38 = .ok (.invokevirtual 113, 3) := by decide +kernel
theorem dX7_readAnd_41 : decode cX7_readAnd 41 = .ok (.iinc 2 1, 3) := by decide +kernel
theorem dX7_readAnd_44 : decode cX7_readAnd 44 = .ok (.goto (-37), 3) := by decide +kernel
theorem dX7_readAnd_47 : decode cX7_readAnd 47 = .ok (.return_, 1) := by decide +kernel
theorem dX7_readNot_0 : decode cX7_readNot 0 = .ok (.aload_n 0, 1) := by decide +kernel
theorem dX7_readNot_1 : decode cX7_readNot 1 = .ok (.getfield 39, 3) := by decide +kernel
theorem dX7_readNot_4 : decode cX7_readNot 4 = .ok (.bipush 21, 2) := by decide +kernel
theorem dX7_readNot_6 : decode cX7_readNot 6 = .ok (.if_icmp .ne 28, 3) := by decide +kernel
theorem dX7_readNot_9 : decode cX7_readNot 9 = .ok (.aload_n 0, 1) := by decide +kernel
theorem dX7_readNot_10 : decode cX7_readNot 10 = .ok (.iload_n 1, 1) := by decide +kernel
theorem dX7_readNot_11 : decode cX7_readNot 11 = .ok (.invokevirtual 119, 3) := by decide +kernel
theorem dX7_readNot_14 : decode cX7_readNot 14 = .ok (.ifCond .eq 19, 3) := by decide +kernel
theorem dX7_readNot_17 : decode cX7_readNot 17 = .ok (.aload_n 0, 1) := by decide +kernel
theorem dX7_readNot_18 : decode cX7_readNot 18 = .ok (.iload_n 1, 1) := by decide +kernel
theorem dX7_readNot_19 : decode cX7_readNot 19 = .ok (.iconst 1, 1) := by decide +kernel
theorem dX7_readNot_20 : decode cX7_readNot 20 = .ok (.iadd, 1) := by decide +kernel
theorem dX7_readNot_21 : decode cX7_readNot 21 = .ok (.invokevirtual 116, 3) := by decide +kernel
theorem dX7_readNot_24 : decode cX7_readNot 24 = .ok (.aload_n 0, 1) := by decide +kernel
theorem dX7_readNot_25 : decode cX7_readNot 25 = .ok (.getfield 25, 3) := by decide +kernel
theorem dX7_readNot_28 : decode cX7_readNot 28 = .ok (.bipush (-22), 2) := by decide +kernel
theorem dX7_readNot_30 : decode cX7_readNot 30 = .ok (.invokevirtual 113, 3) := by decide +kernel
theorem dX7_readNot_33 : decode cX7_readNot 33 = .ok (.return_, 1) := by decide +kernel
theorem dX7_readNot_34 : decode cX7_readNot 34 = .ok (.aload_n 0, 1) := by decide +kernel
theorem dX7_readNot_35 : decode cX7_readNot 35 = .ok (.iload_n 1, 1) := by decide +kernel
theorem dX7_readNot_36 : decode cX7_readNot 36 = .ok (.invokevirtual 122, 3) := by decide +kernel
theorem dX7_readNot_39 : decode cX7_readNot 39 = .ok (.aload_n 0, 1) := by decide +kernel
theorem dX7_readNot_40 : decode cX7_readNot 40 = .ok (.getfield 39, 3) := by decide +kernel
theorem dX7_readNot_43 : decode cX7_readNot 43 = .ok (.bipush 60, 2) := by decide +kernel
theorem dX7_readNot_45 : decode cX7_readNot 45 = .ok (.if_icmp .eq 12, 3) := by decide +kernel
theorem dX7_readNot_48 : decode cX7_readNot 48 = .ok (.aload_n 0, 1) := by decide +kernel
theorem dX7_readNot_49 : decode cX7_readNot 49 = .ok (.getfield 39, 3) := by decide +kernel
theorem dX7_readNot_52 : decode cX7_readNot 52 = .ok (.bipush 61, 2) := by decide +kernel
theorem dX7_readNot_54 : decode cX7_readNot 54 = .ok (.if_icmp .ne 37, 3) := by decide +kernel
theorem dX7_readNot_57 : decode cX7_readNot 57 = .ok (.aload_n 0, 1) := by decide +kernel
theorem dX7_readNot_58 : decode cX7_readNot 58 = .ok (.getfield 39, 3) := by decide +kernel
theorem dX7_readNot_61 : decode cX7_readNot 61 = .ok (.bipush 60, 2) := by decide +kernel
theorem dX7_readNot_63 : decode cX7_readNot 63 = .ok (.if_icmp .ne 8, 3) := by decide +kernel
theorem dX7_readNot_66 : decode cX7_readNot 66 = .ok (.bipush (-23), 2) := by decide +kernel
theorem dX7_readNot_68 : decode cX7_readNot 68 = .ok (.goto 5, 3) := by decide +kernel
theorem dX7_readNot_71 : decode cX7_readNot 71 = .ok (.bipush (-24), 2) := by decide +kernel
theorem dX7_readNot_73 : decode cX7_readNot 73 = .ok (.istore_n 2, 1) := by decide +kernel
theorem dX7_readNot_74 : decode cX7_readNot 74 = .ok (.aload_n 0, 1) := by decide +kernel
theorem dX7_readNot_75 : decode cX7_readNot 75 = .ok (.invokevirtual 107, 3) := by decide +kernel
theorem dX7_readNot_78 : decode cX7_readNot 78 = .ok (.aload_n 0, 1) := by decide +kernel
theorem dX7_readNot_79 : decode cX7_readNot 79 = .ok (.iload_n 1, 1) := by decide +kernel
theorem dX7_readNot_80 : decode cX7_readNot 80 = .ok (.invokevirtual 122, 3) := by decide +kernel
theorem dX7_readNot_83 : decode cX7_readNot 83 = .ok (.aload_n 0, 1) := by decide +kernel
theorem dX7_readNot_84 : decode cX7_readNot 84 = .ok (.getfield 25, 3) := by decide +kernel
theorem dX7_readNot_87 : decode cX7_readNot 87 = .ok (.iload_n 2, 1) := by decide +kernel
theorem dX7_readNot_88 : decode cX7_readNot 88 = .ok (.invokevirtual 113, 3) := by decide +kernel
theorem dX7_readNot_91 : decode cX7_readNot 91 = .ok (.return_, 1) := by decide +kernel
theorem dX7_readSum_0 : decode cX7_readSum 0 = .ok (.aload_n 0, 1) := by decide +kernel
theorem dX7_readSum_1 : decode cX7_readSum 1 = .ok (.iload_n 1, 1) := by decide +kernel
theorem dX7_readSum_2 : decode cX7_readSum 2 = .ok (.invokevirtual 125, 3) := by decide +kernel
theorem dX7_readSum_5 : decode cX7_readSum 5 = .ok (.iconst 0, 1) := by decide +kernel
theorem dX7_readSum_6 : decode cX7_readSum 6 = .ok (.istore_n 2, 1) := by decide +kernel
theorem dX7_readSum_7 : decode cX7_readSum 7 = .ok (.iload_n 2, 1) := by decide +kernel
theorem dX7_readSum_8 : decode cX7_readSum 8 = .ok (.sipush 160, 3) := by decide +kernel
theorem dX7_readSum_11 : decode cX7_readSum 11 = .ok (.if_icmp .ge 61, 3) := by decide +kernel
theorem dX7_readSum_14 : decode cX7_readSum 14 = .ok (.aload_n 0, 1) := by decide +kernel
theorem dX7_readSum_15 : decode cX7_readSum 15 = .ok (.getfield 39, 3) := by decide +kernel
theorem dX7_readSum_18 : decode cX7_readSum 18 = .ok (.bipush 43, 2) := by decide +kernel
theorem dX7_readSum_20 : decode cX7_readSum 20 = .ok (.if_icmp .eq 12, 3) := by decide +kernel
theorem dX7_readSum_23 : decode cX7_readSum 23 = .ok (.aload_n 0, 1) := by decide +kernel
theorem dX7_readSum_24 : decode cX7_readSum 24 = .ok (.getfield 39, 3) := by decide +kernel
theorem dX7_readSum_27 : decode cX7_readSum 27 = .ok (.bipush 45, 2) := by decide +kernel
theorem dX7_readSum_29 : decode cX7_readSum 29 = .ok (.if_icmp .ne 43, 3) := by decide +kernel
theorem dX7_readSum_32 : decode cX7_readSum 32 = .ok (.aload_n 0, 1) := by decide +kernel
theorem dX7_readSum_33 : decode cX7_readSum 33 = .ok (.getfield 39, 3) := by decide +kernel
theorem dX7_readSum_36 : decode cX7_readSum 36 = .ok (.bipush 43, 2) := by decide +kernel
theorem dX7_readSum_38 : decode cX7_readSum 38 = .ok (.if_icmp .ne 8, 3) := by decide +kernel
theorem dX7_readSum_41 : decode cX7_readSum 41 = .ok (.bipush (-25), 2) := by decide +kernel
theorem dX7_readSum_43 : decode cX7_readSum 43 = .ok (.goto 5, 3) := by decide +kernel
theorem dX7_readSum_46 : decode cX7_readSum 46 = .ok (.bipush (-26), 2) := by decide +kernel
theorem dX7_readSum_48 : decode cX7_readSum 48 = .ok (.istore_n 3, 1) := by decide +kernel
theorem dX7_readSum_49 : decode cX7_readSum 49 = .ok (.aload_n 0, 1) := by decide +kernel
theorem dX7_readSum_50 : decode cX7_readSum 50 = .ok (.invokevirtual 107, 3) := by decide +kernel
theorem dX7_readSum_53 : decode cX7_readSum 53 = .ok (.aload_n 0, 1) := by decide +kernel
theorem dX7_readSum_54 : decode cX7_readSum 54 = .ok (.iload_n 1, 1) := by decide +kernel
theorem dX7_readSum_55 : decode cX7_readSum 55 = .ok (.invokevirtual 125, 3) := by decide +kernel
theorem dX7_readSum_58 : decode cX7_readSum 58 = .ok (.aload_n 0, 1) := by decide +kernel
theorem dX7_readSum_59 : decode cX7_readSum 59 = .ok (.getfield 25, 3) := by decide +kernel
theorem dX7_readSum_62 : decode cX7_readSum 62 = .ok (.iload_n 3, 1) := by decide +kernel
theorem dX7_readSum_63 : decode cX7_readSum 63 = .ok (.invokevirtual 113, 3) := by decide +kernel
theorem dX7_readSum_66 : decode cX7_readSum 66 = .ok (.iinc 2 1, 3) := by decide +kernel
theorem dX7_readSum_69 : decode cX7_readSum 69 = .ok (.goto (-62), 3) := by decide +kernel
theorem dX7_readSum_72 : decode cX7_readSum 72 = .ok (.return_, 1) := by decide +kernel
theorem dX7_readTerm_0 : decode cX7_readTerm 0 = .ok (.aload_n 0, 1) := by decide +kernel
theorem dX7_readTerm_1 : decode cX7_readTerm 1 = .ok (.iload_n 1, 1) := by decide +kernel
theorem dX7_readTerm_2 : decode cX7_readTerm 2 = .ok (.invokevirtual 128, 3) := by decide +kernel
theorem dX7_readTerm_5 : decode cX7_readTerm 5 = .ok (.iconst 0, 1) := by decide +kernel
theorem dX7_readTerm_6 : decode cX7_readTerm 6 = .ok (.istore_n 2, 1) := by decide +kernel
theorem dX7_readTerm_7 : decode cX7_readTerm 7 = .ok (.iload_n 2, 1) := by decide +kernel
theorem dX7_readTerm_8 : decode cX7_readTerm 8 = .ok (.sipush 160, 3) := by decide +kernel
theorem dX7_readTerm_11 : decode cX7_readTerm 11 = .ok (.if_icmp .ge 36, 3) := by decide +kernel
theorem dX7_readTerm_14 : decode cX7_readTerm 14 = .ok (.aload_n 0, 1) := by decide +kernel
theorem dX7_readTerm_15 : decode cX7_readTerm 15 = .ok (.getfield 39, 3) := by decide +kernel
theorem dX7_readTerm_18 : decode cX7_readTerm 18 = .ok (.bipush 42, 2) := by decide +kernel
theorem dX7_readTerm_20 : decode cX7_readTerm 20 = .ok (.if_icmp .ne 27, 3) := by decide +kernel
theorem dX7_readTerm_23 : decode cX7_readTerm 23 = .ok (.aload_n 0, 1) := by decide +kernel
theorem dX7_readTerm_24 : decode cX7_readTerm 24 = .ok (.invokevirtual 107, 3) := by decide +kernel
theorem dX7_readTerm_27 : decode cX7_readTerm 27 = .ok (.aload_n 0, 1) := by decide +kernel
theorem dX7_readTerm_28 : decode cX7_readTerm 28 = .ok (.iload_n 1, 1) := by decide +kernel
theorem dX7_readTerm_29 : decode cX7_readTerm 29 = .ok (.invokevirtual 128, 3) := by decide +kernel
theorem dX7_readTerm_32 : decode cX7_readTerm 32 = .ok (.aload_n 0, 1) := by decide +kernel
theorem dX7_readTerm_33 : decode cX7_readTerm 33 = .ok (.getfield 25, 3) := by decide +kernel
theorem dX7_readTerm_36 : decode cX7_readTerm 36 = .ok (.bipush (-27), 2) := by decide +kernel
theorem dX7_readTerm_38 : decode cX7_readTerm 38 = .ok (.invokevirtual 113, 3) := by decide +kernel
theorem dX7_readTerm_41 : decode cX7_readTerm 41 = .ok (.iinc 2 1, 3) := by decide +kernel
theorem dX7_readTerm_44 : decode cX7_readTerm 44 = .ok (.goto (-37), 3) := by decide +kernel
theorem dX7_readTerm_47 : decode cX7_readTerm 47 = .ok (.return_, 1) := by decide +kernel
theorem dX7_readOne_0 : decode cX7_readOne 0 = .ok (.aload_n 0, 1) := by decide +kernel
theorem dX7_readOne_1 : decode cX7_readOne 1 = .ok (.getfield 39, 3) := by decide +kernel
theorem dX7_readOne_4 : decode cX7_readOne 4 = .ok (.sipush 1000, 3) := by decide +kernel
theorem dX7_readOne_7 : decode cX7_readOne 7 = .ok (.if_icmp .lt 25, 3) := by decide +kernel
theorem dX7_readOne_10 : decode cX7_readOne 10 = .ok (.aload_n 0, 1) := by decide +kernel
theorem dX7_readOne_11 : decode cX7_readOne 11 = .ok (.getfield 25, 3) := by decide +kernel
theorem dX7_readOne_14 : decode cX7_readOne 14 = .ok (.aload_n 0, 1) := by decide +kernel
theorem dX7_readOne_15 : decode cX7_readOne 15 = .ok (.getfield 39, 3) := by decide +kernel
theorem dX7_readOne_18 : decode cX7_readOne 18 = .ok (.sipush 1000, 3) := by decide +kernel
theorem dX7_readOne_21 : decode cX7_readOne 21 = .ok (.isub, 1) := by decide +kernel
theorem dX7_readOne_22 : decode cX7_readOne 22 = .ok (.invokevirtual 113, 3) := by decide +kernel
theorem dX7_readOne_25 : decode cX7_readOne 25 = .ok (.aload_n 0, 1) := by decide +kernel
theorem dX7_readOne_26 : decode cX7_readOne 26 = .ok (.invokevirtual 107, 3) := by decide +kernel
theorem dX7_readOne_29 : decode cX7_readOne 29 = .ok (.goto 118, 3) := by decide +kernel
theorem dX7_readOne_32 : decode cX7_readOne 32 = .ok (.aload_n 0, 1) := by decide +kernel
theorem dX7_readOne_33 : decode cX7_readOne 33 = .ok (.getfield 39, 3) := by decide +kernel
theorem dX7_readOne_36 : decode cX7_readOne 36 = .ok (.bipush 10, 2) := by decide +kernel
theorem dX7_readOne_38 : decode cX7_readOne 38 = .ok (.if_icmp .lt 36, 3) := by decide +kernel
theorem dX7_readOne_41 : decode cX7_readOne 41 = .ok (.aload_n 0, 1) := by decide +kernel
theorem dX7_readOne_42 : decode cX7_readOne 42 = .ok (.getfield 39, 3) := by decide +kernel
theorem dX7_readOne_45 : decode cX7_readOne 45 = .ok (.bipush 16, 2) := by decide +kernel
theorem dX7_readOne_47 : decode cX7_readOne 47 = .ok (.if_icmp .ge 27, 3) := by decide +kernel
theorem dX7_readOne_50 : decode cX7_readOne 50 = .ok (.aload_n 0, 1) := by decide +kernel
theorem dX7_readOne_51 : decode cX7_readOne 51 = .ok (.getfield 25, 3) := by decide +kernel
theorem dX7_readOne_54 : decode cX7_readOne 54 = .ok (.bipush (-10), 2) := by decide +kernel
theorem dX7_readOne_56 : decode cX7_readOne 56 = .ok (.aload_n 0, 1) := by decide +kernel
theorem dX7_readOne_57 : decode cX7_readOne 57 = .ok (.getfield 39, 3) := by decide +kernel
theorem dX7_readOne_60 : decode cX7_readOne 60 = .ok (.bipush 10, 2) := by decide +kernel
theorem dX7_readOne_62 : decode cX7_readOne 62 = .ok (.isub, 1) := by decide +kernel
theorem dX7_readOne_63 : decode cX7_readOne 63 = .ok (.isub, 1) := by decide +kernel
theorem dX7_readOne_64 : decode cX7_readOne 64 = .ok (.invokevirtual 113, 3) := by decide +kernel
theorem dX7_readOne_67 : decode cX7_readOne 67 = .ok (.aload_n 0, 1) := by decide +kernel
theorem dX7_readOne_68 : decode cX7_readOne 68 = .ok (.invokevirtual 107, 3) := by decide +kernel
theorem dX7_readOne_71 : decode cX7_readOne 71 = .ok (.goto 76, 3) := by decide +kernel
theorem dX7_readOne_74 : decode cX7_readOne 74 = .ok (.aload_n 0, 1) := by decide +kernel
theorem dX7_readOne_75 : decode cX7_readOne 75 = .ok (.getfield 39, 3) := by decide +kernel
theorem dX7_readOne_78 : decode cX7_readOne 78 = .ok (.bipush 45, 2) := by decide +kernel
theorem dX7_readOne_80 : decode cX7_readOne 80 = .ok (.if_icmp .ne 30, 3) := by decide +kernel
theorem dX7_readOne_83 : decode cX7_readOne 83 = .ok (.aload_n 0, 1) := by decide +kernel
theorem dX7_readOne_84 : decode cX7_readOne 84 = .ok (.iload_n 1, 1) := by decide +kernel
theorem dX7_readOne_85 : decode cX7_readOne 85 = .ok (.invokevirtual 119, 3) := by decide +kernel
theorem dX7_readOne_88 : decode cX7_readOne 88 = .ok (.ifCond .eq 59, 3) := by decide +kernel
theorem dX7_readOne_91 : decode cX7_readOne 91 = .ok (.aload_n 0, 1) := by decide +kernel
theorem dX7_readOne_92 : decode cX7_readOne 92 = .ok (.iload_n 1, 1) := by decide +kernel
theorem dX7_readOne_93 : decode cX7_readOne 93 = .ok (.iconst 1, 1) := by decide +kernel
theorem dX7_readOne_94 : decode cX7_readOne 94 = .ok (.iadd, 1) := by decide +kernel
theorem dX7_readOne_95 : decode cX7_readOne 95 = .ok (.invokevirtual 128, 3) := by decide +kernel
theorem dX7_readOne_98 : decode cX7_readOne 98 = .ok (.aload_n 0, 1) := by decide +kernel
theorem dX7_readOne_99 : decode cX7_readOne 99 = .ok (.getfield 25, 3) := by decide +kernel
theorem dX7_readOne_102 : decode cX7_readOne 102 = .ok (.bipush (-28), 2) := by decide +kernel
theorem dX7_readOne_104 : decode cX7_readOne 104 = .ok (.invokevirtual 113, 3) := by decide +kernel
theorem dX7_readOne_107 : decode cX7_readOne 107 = .ok (.goto 40, 3) := by decide +kernel
theorem dX7_readOne_110 : decode cX7_readOne 110 = .ok (.aload_n 0, 1) := by decide +kernel
theorem dX7_readOne_111 : decode cX7_readOne 111 = .ok (.getfield 39, 3) := by decide +kernel
theorem dX7_readOne_114 : decode cX7_readOne 114 = .ok (.bipush 40, 2) := by decide +kernel
theorem dX7_readOne_116 : decode cX7_readOne 116 = .ok (.if_icmp .ne 27, 3) := by decide +kernel
theorem dX7_readOne_119 : decode cX7_readOne 119 = .ok (.aload_n 0, 1) := by decide +kernel
theorem dX7_readOne_120 : decode cX7_readOne 120 = .ok (.iload_n 1, 1) := by decide +kernel
theorem dX7_readOne_121 : decode cX7_readOne 121 = .ok (.invokevirtual 119, 3) := by decide +kernel
theorem dX7_readOne_124 : decode cX7_readOne 124 = .ok (.ifCond .eq 23, 3) := by decide +kernel
theorem dX7_readOne_127 : decode cX7_readOne 127 = .ok (.aload_n 0, 1) := by decide +kernel
theorem dX7_readOne_128 : decode cX7_readOne 128 = .ok (.iload_n 1, 1) := by decide +kernel
theorem dX7_readOne_129 : decode cX7_readOne 129 = .ok (.iconst 1, 1) := by decide +kernel
theorem dX7_readOne_130 : decode cX7_readOne 130 = .ok (.iadd, 1) := by decide +kernel
theorem dX7_readOne_131 : decode cX7_readOne 131 = .ok (.invokevirtual 50, 3) := by decide +kernel
theorem dX7_readOne_134 : decode cX7_readOne 134 = .ok (.aload_n 0, 1) := by decide +kernel
theorem dX7_readOne_135 : decode cX7_readOne 135 = .ok (.bipush 41, 2) := by decide +kernel
theorem dX7_readOne_137 : decode cX7_readOne 137 = .ok (.invokevirtual 46, 3) := by decide +kernel
theorem dX7_readOne_140 : decode cX7_readOne 140 = .ok (.goto 7, 3) := by decide +kernel
theorem dX7_readOne_143 : decode cX7_readOne 143 = .ok (.aload_n 0, 1) := by decide +kernel
theorem dX7_readOne_144 : decode cX7_readOne 144 = .ok (.invokevirtual 56, 3) := by decide +kernel
theorem dX7_readOne_147 : decode cX7_readOne 147 = .ok (.return_, 1) := by decide +kernel
theorem dX7_byteAt_0 : decode cX7_byteAt 0 = .ok (.iload_n 1, 1) := by decide +kernel
theorem dX7_byteAt_1 : decode cX7_byteAt 1 = .ok (.ifCond .lt 19, 3) := by decide +kernel
theorem dX7_byteAt_4 : decode cX7_byteAt 4 = .ok (.iload_n 1, 1) := by decide +kernel
theorem dX7_byteAt_5 : decode cX7_byteAt 5 = .ok (.sipush 160, 3) := by decide +kernel
theorem dX7_byteAt_8 : decode cX7_byteAt 8 = .ok (.if_icmp .ge 12, 3) := by decide +kernel
theorem dX7_byteAt_11 : decode cX7_byteAt 11 = .ok (.aload_n 0, 1) := by decide +kernel
theorem dX7_byteAt_12 : decode cX7_byteAt 12 = .ok (.getfield 9, 3) := by decide +kernel
theorem dX7_byteAt_15 : decode cX7_byteAt 15 = .ok (.iload_n 1, 1) := by decide +kernel
theorem dX7_byteAt_16 : decode cX7_byteAt 16 = .ok (.baload, 1) := by decide +kernel
theorem dX7_byteAt_17 : decode cX7_byteAt 17 = .ok (.goto 4, 3) := by decide +kernel
theorem dX7_byteAt_20 : decode cX7_byteAt 20 = .ok (.iconst (-1), 1) := by decide +kernel
theorem dX7_byteAt_21 : decode cX7_byteAt 21 = .ok (.ireturn, 1) := by decide +kernel
theorem dX7_wordAt_0 : decode cX7_wordAt 0 = .ok (.iload_n 0, 1) := by decide +kernel
theorem dX7_wordAt_1 : decode cX7_wordAt 1 = .ok (.tableswitch 92 0 10 #[59, 62, 65, 68, 71, 74, 77, 80, 83, 86, 89], 59) := by decide +kernel
theorem dX7_wordAt_60 : decode cX7_wordAt 60 = .ok (.ldc 131, 2) := by decide +kernel
theorem dX7_wordAt_62 : decode cX7_wordAt 62 = .ok (.areturn, 1) := by decide +kernel
theorem dX7_wordAt_63 : decode cX7_wordAt 63 = .ok (.ldc 133, 2) := by decide +kernel
theorem dX7_wordAt_65 : decode cX7_wordAt 65 = .ok (.areturn, 1) := by decide +kernel
theorem dX7_wordAt_66 : decode cX7_wordAt 66 = .ok (.ldc 135, 2) := by decide +kernel
theorem dX7_wordAt_68 : decode cX7_wordAt 68 = .ok (.areturn, 1) := by decide +kernel
theorem dX7_wordAt_69 : decode cX7_wordAt 69 = .ok (.ldc 137, 2) := by decide +kernel
theorem dX7_wordAt_71 : decode cX7_wordAt 71 = .ok (.areturn, 1) := by decide +kernel
theorem dX7_wordAt_72 : decode cX7_wordAt 72 = .ok (.ldc 139, 2) := by decide +kernel
theorem dX7_wordAt_74 : decode cX7_wordAt 74 = .ok (.areturn, 1) := by decide +kernel
theorem dX7_wordAt_75 : decode cX7_wordAt 75 = .ok (.ldc 141, 2) := by decide +kernel
theorem dX7_wordAt_77 : decode cX7_wordAt 77 = .ok (.areturn, 1) := by decide +kernel
theorem dX7_wordAt_78 : decode cX7_wordAt 78 = .ok (.ldc 143, 2) := by decide +kernel
theorem dX7_wordAt_80 : decode cX7_wordAt 80 = .ok (.areturn, 1) := by decide +kernel
theorem dX7_wordAt_81 : decode cX7_wordAt 81 = .ok (.ldc 145, 2) := by decide +kernel
theorem dX7_wordAt_83 : decode cX7_wordAt 83 = .ok (.areturn, 1) := by decide +kernel
theorem dX7_wordAt_84 : decode cX7_wordAt 84 = .ok (.ldc 147, 2) := by decide +kernel
theorem dX7_wordAt_86 : decode cX7_wordAt 86 = .ok (.areturn, 1) := by decide +kernel
theorem dX7_wordAt_87 : decode cX7_wordAt 87 = .ok (.ldc 149, 2) := by decide +kernel
theorem dX7_wordAt_89 : decode cX7_wordAt 89 = .ok (.areturn, 1) := by decide +kernel
theorem dX7_wordAt_90 : decode cX7_wordAt 90 = .ok (.ldc 151, 2) := by decide +kernel
theorem dX7_wordAt_92 : decode cX7_wordAt 92 = .ok (.areturn, 1) := by decide +kernel
theorem dX7_wordAt_93 : decode cX7_wordAt 93 = .ok (.ldc 153, 2) := by decide +kernel
theorem dX7_wordAt_95 : decode cX7_wordAt 95 = .ok (.areturn, 1) := by decide +kernel
theorem dX7_isBlank_0 : decode cX7_isBlank 0 = .ok (.iload_n 0, 1) := by decide +kernel
theorem dX7_isBlank_1 : decode cX7_isBlank 1 = .ok (.bipush 32, 2) := by decide +kernel
theorem dX7_isBlank_3 : decode cX7_isBlank 3 = .ok (.if_icmp .eq 9, 3) := by decide +kernel
theorem dX7_isBlank_6 : decode cX7_isBlank 6 = .ok (.iload_n 0, 1) := by decide +kernel
theorem dX7_isBlank_7 : decode cX7_isBlank 7 = .ok (.bipush 10, 2) := by decide +kernel
theorem dX7_isBlank_9 : decode cX7_isBlank 9 = .ok (.if_icmp .ne 7, 3) := by decide +kernel
theorem dX7_isBlank_12 : decode cX7_isBlank 12 = .ok (.iconst 1, 1) := by decide +kernel
theorem dX7_isBlank_13 : decode cX7_isBlank 13 = .ok (.goto 4, 3) := by decide +kernel
theorem dX7_isBlank_16 : decode cX7_isBlank 16 = .ok (.iconst 0, 1) := by decide +kernel
theorem dX7_isBlank_17 : decode cX7_isBlank 17 = .ok (.ireturn, 1) := by decide +kernel
theorem dX7_isLetter_0 : decode cX7_isLetter 0 = .ok (.iload_n 0, 1) := by decide +kernel
theorem dX7_isLetter_1 : decode cX7_isLetter 1 = .ok (.bipush 97, 2) := by decide +kernel
theorem dX7_isLetter_3 : decode cX7_isLetter 3 = .ok (.if_icmp .lt 13, 3) := by decide +kernel
theorem dX7_isLetter_6 : decode cX7_isLetter 6 = .ok (.iload_n 0, 1) := by decide +kernel
theorem dX7_isLetter_7 : decode cX7_isLetter 7 = .ok (.bipush 122, 2) := by decide +kernel
theorem dX7_isLetter_9 : decode cX7_isLetter 9 = .ok (.if_icmp .gt 7, 3) := by decide +kernel
theorem dX7_isLetter_12 : decode cX7_isLetter 12 = .ok (.iconst 1, 1) := by decide +kernel
theorem dX7_isLetter_13 : decode cX7_isLetter 13 = .ok (.goto 4, 3) := by decide +kernel
theorem dX7_isLetter_16 : decode cX7_isLetter 16 = .ok (.iconst 0, 1) := by decide +kernel
theorem dX7_isLetter_17 : decode cX7_isLetter 17 = .ok (.ireturn, 1) := by decide +kernel
theorem dX7_isDigit_0 : decode cX7_isDigit 0 = .ok (.iload_n 0, 1) := by decide +kernel
theorem dX7_isDigit_1 : decode cX7_isDigit 1 = .ok (.bipush 48, 2) := by decide +kernel
theorem dX7_isDigit_3 : decode cX7_isDigit 3 = .ok (.if_icmp .lt 13, 3) := by decide +kernel
theorem dX7_isDigit_6 : decode cX7_isDigit 6 = .ok (.iload_n 0, 1) := by decide +kernel
theorem dX7_isDigit_7 : decode cX7_isDigit 7 = .ok (.bipush 57, 2) := by decide +kernel
theorem dX7_isDigit_9 : decode cX7_isDigit 9 = .ok (.if_icmp .gt 7, 3) := by decide +kernel
theorem dX7_isDigit_12 : decode cX7_isDigit 12 = .ok (.iconst 1, 1) := by decide +kernel
theorem dX7_isDigit_13 : decode cX7_isDigit 13 = .ok (.goto 4, 3) := by decide +kernel
theorem dX7_isDigit_16 : decode cX7_isDigit 16 = .ok (.iconst 0, 1) := by decide +kernel
theorem dX7_isDigit_17 : decode cX7_isDigit 17 = .ok (.ireturn, 1) := by decide +kernel
theorem dX7_isSign_0 : decode cX7_isSign 0 = .ok (.iload_n 0, 1) := by decide +kernel
theorem dX7_isSign_1 : decode cX7_isSign 1 = .ok (.bipush 40, 2) := by decide +kernel
theorem dX7_isSign_3 : decode cX7_isSign 3 = .ok (.if_icmp .eq 45, 3) := by decide +kernel
theorem dX7_isSign_6 : decode cX7_isSign 6 = .ok (.iload_n 0, 1) := by decide +kernel
theorem dX7_isSign_7 : decode cX7_isSign 7 = .ok (.bipush 41, 2) := by decide +kernel
theorem dX7_isSign_9 : decode cX7_isSign 9 = .ok (.if_icmp .eq 39, 3) := by decide +kernel
theorem dX7_isSign_12 : decode cX7_isSign 12 = .ok (.iload_n 0, 1) := by decide +kernel
theorem dX7_isSign_13 : decode cX7_isSign 13 = .ok (.bipush 59, 2) := by decide +kernel
theorem dX7_isSign_15 : decode cX7_isSign 15 = .ok (.if_icmp .eq 33, 3) := by decide +kernel
theorem dX7_isSign_18 : decode cX7_isSign 18 = .ok (.iload_n 0, 1) := by decide +kernel
theorem dX7_isSign_19 : decode cX7_isSign 19 = .ok (.bipush 43, 2) := by decide +kernel
theorem dX7_isSign_21 : decode cX7_isSign 21 = .ok (.if_icmp .eq 27, 3) := by decide +kernel
theorem dX7_isSign_24 : decode cX7_isSign 24 = .ok (.iload_n 0, 1) := by decide +kernel
theorem dX7_isSign_25 : decode cX7_isSign 25 = .ok (.bipush 45, 2) := by decide +kernel
theorem dX7_isSign_27 : decode cX7_isSign 27 = .ok (.if_icmp .eq 21, 3) := by decide +kernel
theorem dX7_isSign_30 : decode cX7_isSign 30 = .ok (.iload_n 0, 1) := by decide +kernel
theorem dX7_isSign_31 : decode cX7_isSign 31 = .ok (.bipush 42, 2) := by decide +kernel
theorem dX7_isSign_33 : decode cX7_isSign 33 = .ok (.if_icmp .eq 15, 3) := by decide +kernel
theorem dX7_isSign_36 : decode cX7_isSign 36 = .ok (.iload_n 0, 1) := by decide +kernel
theorem dX7_isSign_37 : decode cX7_isSign 37 = .ok (.bipush 60, 2) := by decide +kernel
theorem dX7_isSign_39 : decode cX7_isSign 39 = .ok (.if_icmp .eq 9, 3) := by decide +kernel
theorem dX7_isSign_42 : decode cX7_isSign 42 = .ok (.iload_n 0, 1) := by decide +kernel
theorem dX7_isSign_43 : decode cX7_isSign 43 = .ok (.bipush 61, 2) := by decide +kernel
theorem dX7_isSign_45 : decode cX7_isSign 45 = .ok (.if_icmp .ne 7, 3) := by decide +kernel
theorem dX7_isSign_48 : decode cX7_isSign 48 = .ok (.iconst 1, 1) := by decide +kernel
theorem dX7_isSign_49 : decode cX7_isSign 49 = .ok (.goto 4, 3) := by decide +kernel
theorem dX7_isSign_52 : decode cX7_isSign 52 = .ok (.iconst 0, 1) := by decide +kernel
theorem dX7_isSign_53 : decode cX7_isSign 53 = .ok (.ireturn, 1) := by decide +kernel
theorem dX8_init_0 : decode cX8_init 0 = .ok (.aload_n 0, 1) := by decide +kernel
theorem dX8_init_1 : decode cX8_init 1 = .ok (.invokespecial 3, 3) := by decide +kernel
theorem dX8_init_4 : decode cX8_init 4 = .ok (.aload_n 0, 1) := by decide +kernel
theorem dX8_init_5 : decode cX8_init 5 = .ok (.sipush 2816, 3) := by decide +kernel
theorem dX8_init_8 : decode cX8_init 8 = .ok (.newarray .int, 2) := by decide +kernel
theorem dX8_init_10 : decode cX8_init 10 = .ok (.putfield 11, 3) := by decide +kernel
theorem dX8_init_13 : decode cX8_init 13 = .ok (.aload_n 0, 1) := by decide +kernel
theorem dX8_init_14 : decode cX8_init 14 = .ok (.sipush 1024, 3) := by decide +kernel
theorem dX8_init_17 : decode cX8_init 17 = .ok (.newarray .int, 2) := by decide +kernel
theorem dX8_init_19 : decode cX8_init 19 = .ok (.putfield 15, 3) := by decide +kernel
theorem dX8_init_22 : decode cX8_init 22 = .ok (.return_, 1) := by decide +kernel
theorem dX8_least_0 : decode cX8_least 0 = .ok (.iconst 1, 1) := by decide +kernel
theorem dX8_least_1 : decode cX8_least 1 = .ok (.aload_n 1, 1) := by decide +kernel
theorem dX8_least_2 : decode cX8_least 2 = .ok (.getfield 18, 3) := by decide +kernel
theorem dX8_least_5 : decode cX8_least 5 = .ok (.ishl, 1) := by decide +kernel
theorem dX8_least_6 : decode cX8_least 6 = .ok (.iconst 1, 1) := by decide +kernel
theorem dX8_least_7 : decode cX8_least 7 = .ok (.isub, 1) := by decide +kernel
theorem dX8_least_8 : decode cX8_least 8 = .ok (.istore_n 3, 1) := by decide +kernel
theorem dX8_least_9 : decode cX8_least 9 = .ok (.iconst 0, 1) := by decide +kernel
theorem dX8_least_10 : decode cX8_least 10 = .ok (.istore 4, 2) := by decide +kernel
theorem dX8_least_12 : decode cX8_least 12 = .ok (.iload 4, 2) := by decide +kernel
theorem dX8_least_14 : decode cX8_least 14 = .ok (.iload_n 3, 1) := by decide +kernel
theorem dX8_least_15 : decode cX8_least 15 = .ok (.if_icmp .gt 27, 3) := by decide +kernel
theorem dX8_least_18 : decode cX8_least 18 = .ok (.iload 4, 2) := by decide +kernel
theorem dX8_least_20 : decode cX8_least 20 = .ok (.aload_n 0, 1) := by decide +kernel
theorem dX8_least_21 : decode cX8_least 21 = .ok (.getfield 15, 3) := by decide +kernel
theorem dX8_least_24 : decode cX8_least 24 = .ok (.arraylength, 1) := by decide +kernel
theorem dX8_least_25 : decode cX8_least 25 = .ok (.if_icmp .ge 17, 3) := by decide +kernel
theorem dX8_least_28 : decode cX8_least 28 = .ok (.aload_n 0, 1) := by decide +kernel
theorem dX8_least_29 : decode cX8_least 29 = .ok (.getfield 15, 3) := by decide +kernel
theorem dX8_least_32 : decode cX8_least 32 = .ok (.iload 4, 2) := by decide +kernel
theorem dX8_least_34 : decode cX8_least 34 = .ok (.iconst 0, 1) := by decide +kernel
theorem dX8_least_35 : decode cX8_least 35 = .ok (.iastore, 1) := by decide +kernel
theorem dX8_least_36 : decode cX8_least 36 = .ok (.iinc 4 1, 3) := by decide +kernel
theorem dX8_least_39 : decode cX8_least 39 = .ok (.goto (-27), 3) := by decide +kernel
theorem dX8_least_42 : decode cX8_least 42 = .ok (.aload_n 0, 1) := by decide +kernel
theorem dX8_least_43 : decode cX8_least 43 = .ok (.iconst 0, 1) := by decide +kernel
theorem dX8_least_44 : decode cX8_least 44 = .ok (.putfield 24, 3) := by decide +kernel
theorem dX8_least_47 : decode cX8_least 47 = .ok (.aload_n 0, 1) := by decide +kernel
theorem dX8_least_48 : decode cX8_least 48 = .ok (.iconst 0, 1) := by decide +kernel
theorem dX8_least_49 : decode cX8_least 49 = .ok (.iconst 1, 1) := by decide +kernel
theorem dX8_least_50 : decode cX8_least 50 = .ok (.iload_n 2, 1) := by decide +kernel
theorem dX8_least_51 : decode cX8_least 51 = .ok (.ishl, 1) := by decide +kernel
theorem dX8_least_52 : decode cX8_least 52 = .ok (.iload_n 2, 1) := by decide +kernel
theorem dX8_least_53 : decode cX8_least 53 = .ok (.invokevirtual 27, 3) := by decide +kernel
theorem dX8_least_56 : decode cX8_least 56 = .ok (.iconst 0, 1) := by decide +kernel
theorem dX8_least_57 : decode cX8_least 57 = .ok (.istore 4, 2) := by decide +kernel
theorem dX8_least_59 : decode cX8_least 59 = .ok (.iload 4, 2) := by decide +kernel
theorem dX8_least_61 : decode cX8_least 61 = .ok (.aload_n 0, 1) := by decide +kernel
theorem dX8_least_62 : decode cX8_least 62 = .ok (.getfield 24, 3) := by decide +kernel
theorem dX8_least_65 : decode cX8_least 65 = .ok (.if_icmp .ge 119, 3) := by decide +kernel
theorem dX8_least_68 : decode cX8_least 68 = .ok (.iload 4, 2) := by decide +kernel
theorem dX8_least_70 : decode cX8_least 70 = .ok (.sipush 2816, 3) := by decide +kernel
theorem dX8_least_73 : decode cX8_least 73 = .ok (.if_icmp .ge 111, 3) := by decide +kernel
theorem dX8_least_76 : decode cX8_least 76 = .ok (.aload_n 0, 1) := by decide +kernel
theorem dX8_least_77 : decode cX8_least 77 = .ok (.getfield 11, 3) := by decide +kernel
theorem dX8_least_80 : decode cX8_least 80 = .ok (.iload 4, 2) := by decide +kernel
theorem dX8_least_82 : decode cX8_least 82 = .ok (.iaload, 1) := by decide +kernel
theorem dX8_least_83 : decode cX8_least 83 = .ok (.bipush 15, 2) := by decide +kernel
theorem dX8_least_85 : decode cX8_least 85 = .ok (.iand, 1) := by decide +kernel
theorem dX8_least_86 : decode cX8_least 86 = .ok (.istore 5, 2) := by decide +kernel
theorem dX8_least_88 : decode cX8_least 88 = .ok (.aload_n 0, 1) := by decide +kernel
theorem dX8_least_89 : decode cX8_least 89 = .ok (.getfield 11, 3) := by decide +kernel
theorem dX8_least_92 : decode cX8_least 92 = .ok (.iload 4, 2) := by decide +kernel
theorem dX8_least_94 : decode cX8_least 94 = .ok (.iaload, 1) := by decide +kernel
theorem dX8_least_95 : decode cX8_least 95 = .ok (.iconst 4, 1) := by decide +kernel
theorem dX8_least_96 : decode cX8_least 96 = .ok (.ishr, 1) := by decide +kernel
theorem dX8_least_97 : decode cX8_least 97 = .ok (.sipush 1023, 3) := by decide +kernel
theorem dX8_least_100 : decode cX8_least 100 = .ok (.iand, 1) := by decide +kernel
theorem dX8_least_101 : decode cX8_least 101 = .ok (.istore 6, 2) := by decide +kernel
theorem dX8_least_103 : decode cX8_least 103 = .ok (.aload_n 0, 1) := by decide +kernel
theorem dX8_least_104 : decode cX8_least 104 = .ok (.getfield 11, 3) := by decide +kernel
theorem dX8_least_107 : decode cX8_least 107 = .ok (.iload 4, 2) := by decide +kernel
theorem dX8_least_109 : decode cX8_least 109 = .ok (.iaload, 1) := by decide +kernel
theorem dX8_least_110 : decode cX8_least 110 = .ok (.bipush 14, 2) := by decide +kernel
theorem dX8_least_112 : decode cX8_least 112 = .ok (.ishr, 1) := by decide +kernel
theorem dX8_least_113 : decode cX8_least 113 = .ok (.istore 7, 2) := by decide +kernel
theorem dX8_least_115 : decode cX8_least 115 = .ok (.iload 6, 2) := by decide +kernel
theorem dX8_least_117 : decode cX8_least 117 = .ok (.iload_n 3, 1) := by decide +kernel
theorem dX8_least_118 : decode cX8_least 118 = .ok (.if_icmp .ne 6, 3) := by decide +kernel
theorem dX8_least_121 : decode cX8_least 121 = .ok (.iload 7, 2) := by decide +kernel
theorem dX8_least_123 : decode cX8_least 123 = .ok (.ireturn, 1) := by decide +kernel
theorem dX8_least_124 : decode cX8_least 124 = .ok (.iconst 0, 1) := by decide +kernel
theorem dX8_least_125 : decode cX8_least 125 = .ok (.istore 8, 2) := by decide +kernel
theorem dX8_least_127 : decode cX8_least 127 = .ok (.iload 8, 2) := by decide +kernel
theorem dX8_least_129 : decode cX8_least 129 = .ok (.iconst 4, 1) := by decide +kernel
theorem dX8_least_130 : decode cX8_least 130 = .ok (.if_icmp .ge 48, 3) := by decide +kernel
theorem dX8_least_133 : decode cX8_least 133 = .ok (.aload_n 1, 1) := by decide +kernel
theorem dX8_least_134 : decode cX8_least 134 = .ok (.iload 5, 2) := by decide +kernel
theorem dX8_least_136 : decode cX8_least 136 = .ok (.iload 8, 2) := by decide +kernel
theorem dX8_least_138 : decode cX8_least 138 = .ok (.invokevirtual 31, 3) := by decide +kernel
theorem dX8_least_141 : decode cX8_least 141 = .ok (.istore 9, 2) := by decide +kernel
theorem dX8_least_143 : decode cX8_least 143 = .ok (.iload 9, 2) := by decide +kernel
theorem dX8_least_145 : decode cX8_least 145 = .ok (.iconst (-1), 1) := by decide +kernel
theorem dX8_least_146 : decode cX8_least 146 = .ok (.if_icmp .eq 26, 3) := by decide +kernel
theorem dX8_least_149 : decode cX8_least 149 = .ok (.aload_n 0, 1) := by decide +kernel
theorem dX8_least_150 : decode cX8_least 150 = .ok (.iload 7, 2) := by decide +kernel
theorem dX8_least_152 : decode cX8_least 152 = .ok (.iconst 1, 1) := by decide +kernel
theorem dX8_least_153 : decode cX8_least 153 = .ok (.iadd, 1) := by decide +kernel
theorem dX8_least_154 : decode cX8_least 154 = .ok (.iload 6, 2) := by decide +kernel
theorem dX8_least_156 : decode cX8_least 156 = .ok (.iconst 1, 1) := by decide +kernel
theorem dX8_least_157 : decode cX8_least 157 = .ok (.iload 9, 2) := by decide +kernel
theorem dX8_least_159 : decode cX8_least 159 = .ok (.bipush 10, 2) := by decide +kernel
theorem dX8_least_161 : decode cX8_least 161 = .ok (.idiv, 1) := by decide +kernel
theorem dX8_least_162 : decode cX8_least 162 = .ok (.ishl, 1) := by decide +kernel
theorem dX8_least_163 : decode cX8_least 163 = .ok (.ior, 1) := by decide +kernel
theorem dX8_least_164 : decode cX8_least 164 = .ok (.iload 9, 2) := by decide +kernel
theorem dX8_least_166 : decode cX8_least 166 = .ok (.bipush 10, 2) := by decide +kernel
theorem dX8_least_168 : decode cX8_least 168 = .ok (.idiv, 1) := by decide +kernel
theorem dX8_least_169 : decode cX8_least 169 = .ok (.invokevirtual 27, 3) := by decide +kernel
theorem dX8_least_172 : decode cX8_least 172 = .ok (.iinc 8 1, 3) := by decide +kernel
theorem dX8_least_175 : decode cX8_least 175 = .ok (.goto (-48), 3) := by decide +kernel
theorem dX8_least_178 : decode cX8_least 178 = .ok (.iinc 4 1, 3) := by decide +kernel
theorem dX8_least_181 : decode cX8_least 181 = .ok (.goto (-122), 3) := by decide +kernel
theorem dX8_least_184 : decode cX8_least 184 = .ok (.iconst (-1), 1) := by decide +kernel
theorem dX8_least_185 : decode cX8_least 185 = .ok (.ireturn, 1) := by decide +kernel
theorem dX8_add_0 : decode cX8_add 0 = .ok (.iload_n 2, 1) := by decide +kernel
theorem dX8_add_1 : decode cX8_add 1 = .ok (.aload_n 0, 1) := by decide +kernel
theorem dX8_add_2 : decode cX8_add 2 = .ok (.getfield 15, 3) := by decide +kernel
theorem dX8_add_5 : decode cX8_add 5 = .ok (.arraylength, 1) := by decide +kernel
theorem dX8_add_6 : decode cX8_add 6 = .ok (.invokestatic 35, 3) := by decide +kernel
theorem dX8_add_9 : decode cX8_add 9 = .ok (.ifCond .eq 29, 3) := by decide +kernel
theorem dX8_add_12 : decode cX8_add 12 = .ok (.aload_n 0, 1) := by decide +kernel
theorem dX8_add_13 : decode cX8_add 13 = .ok (.getfield 15, 3) := by decide +kernel
theorem dX8_add_16 : decode cX8_add 16 = .ok (.iload_n 2, 1) := by decide +kernel
theorem dX8_add_17 : decode cX8_add 17 = .ok (.iaload, 1) := by decide +kernel
theorem dX8_add_18 : decode cX8_add 18 = .ok (.iload_n 3, 1) := by decide +kernel
theorem dX8_add_19 : decode cX8_add 19 = .ok (.ishr, 1) := by decide +kernel
theorem dX8_add_20 : decode cX8_add 20 = .ok (.iconst 1, 1) := by decide +kernel
theorem dX8_add_21 : decode cX8_add 21 = .ok (.iand, 1) := by decide +kernel
theorem dX8_add_22 : decode cX8_add 22 = .ok (.ifCond .ne 16, 3) := by decide +kernel
theorem dX8_add_25 : decode cX8_add 25 = .ok (.aload_n 0, 1) := by decide +kernel
theorem dX8_add_26 : decode cX8_add 26 = .ok (.getfield 24, 3) := by decide +kernel
theorem dX8_add_29 : decode cX8_add 29 = .ok (.sipush 2816, 3) := by decide +kernel
theorem dX8_add_32 : decode cX8_add 32 = .ok (.invokestatic 35, 3) := by decide +kernel
theorem dX8_add_35 : decode cX8_add 35 = .ok (.ifCond .ne 4, 3) := by decide +kernel
theorem dX8_add_38 : decode cX8_add 38 = .ok (.return_, 1) := by decide +kernel
theorem dX8_add_39 : decode cX8_add 39 = .ok (.aload_n 0, 1) := by decide +kernel
theorem dX8_add_40 : decode cX8_add 40 = .ok (.getfield 15, 3) := by decide +kernel
theorem dX8_add_43 : decode cX8_add 43 = .ok (.iload_n 2, 1) := by decide +kernel
theorem dX8_add_44 : decode cX8_add 44 = .ok (.dup2, 1) := by decide +kernel
theorem dX8_add_45 : decode cX8_add 45 = .ok (.iaload, 1) := by decide +kernel
theorem dX8_add_46 : decode cX8_add 46 = .ok (.iconst 1, 1) := by decide +kernel
theorem dX8_add_47 : decode cX8_add 47 = .ok (.iload_n 3, 1) := by decide +kernel
theorem dX8_add_48 : decode cX8_add 48 = .ok (.ishl, 1) := by decide +kernel
theorem dX8_add_49 : decode cX8_add 49 = .ok (.ior, 1) := by decide +kernel
theorem dX8_add_50 : decode cX8_add 50 = .ok (.iastore, 1) := by decide +kernel
theorem dX8_add_51 : decode cX8_add 51 = .ok (.aload_n 0, 1) := by decide +kernel
theorem dX8_add_52 : decode cX8_add 52 = .ok (.getfield 11, 3) := by decide +kernel
theorem dX8_add_55 : decode cX8_add 55 = .ok (.aload_n 0, 1) := by decide +kernel
theorem dX8_add_56 : decode cX8_add 56 = .ok (.getfield 24, 3) := by decide +kernel
theorem dX8_add_59 : decode cX8_add 59 = .ok (.iload_n 1, 1) := by decide +kernel
theorem dX8_add_60 : decode cX8_add 60 = .ok (.bipush 10, 2) := by decide +kernel
theorem dX8_add_62 : decode cX8_add 62 = .ok (.ishl, 1) := by decide +kernel
theorem dX8_add_63 : decode cX8_add 63 = .ok (.iload_n 2, 1) := by decide +kernel
theorem dX8_add_64 : decode cX8_add 64 = .ok (.ior, 1) := by decide +kernel
theorem dX8_add_65 : decode cX8_add 65 = .ok (.iconst 4, 1) := by decide +kernel
theorem dX8_add_66 : decode cX8_add 66 = .ok (.ishl, 1) := by decide +kernel
theorem dX8_add_67 : decode cX8_add 67 = .ok (.iload_n 3, 1) := by decide +kernel
theorem dX8_add_68 : decode cX8_add 68 = .ok (.ior, 1) := by decide +kernel
theorem dX8_add_69 : decode cX8_add 69 = .ok (.iastore, 1) := by decide +kernel
theorem dX8_add_70 : decode cX8_add 70 = .ok (.aload_n 0, 1) := by decide +kernel
theorem dX8_add_71 : decode cX8_add 71 = .ok (.dup, 1) := by decide +kernel
theorem dX8_add_72 : decode cX8_add 72 = .ok (.getfield 24, 3) := by decide +kernel
theorem dX8_add_75 : decode cX8_add 75 = .ok (.iconst 1, 1) := by decide +kernel
theorem dX8_add_76 : decode cX8_add 76 = .ok (.iadd, 1) := by decide +kernel
theorem dX8_add_77 : decode cX8_add 77 = .ok (.putfield 24, 3) := by decide +kernel
theorem dX8_add_80 : decode cX8_add 80 = .ok (.return_, 1) := by decide +kernel
theorem dX9_init_0 : decode cX9_init 0 = .ok (.aload_n 0, 1) := by decide +kernel
theorem dX9_init_1 : decode cX9_init 1 = .ok (.invokespecial 3, 3) := by decide +kernel
theorem dX9_init_4 : decode cX9_init 4 = .ok (.aload_n 0, 1) := by decide +kernel
theorem dX9_init_5 : decode cX9_init 5 = .ok (.sipush 201, 3) := by decide +kernel
theorem dX9_init_8 : decode cX9_init 8 = .ok (.newarray .long, 2) := by decide +kernel
theorem dX9_init_10 : decode cX9_init 10 = .ok (.putfield 9, 3) := by decide +kernel
theorem dX9_init_13 : decode cX9_init 13 = .ok (.aload_n 0, 1) := by decide +kernel
theorem dX9_init_14 : decode cX9_init 14 = .ok (.sipush 201, 3) := by decide +kernel
theorem dX9_init_17 : decode cX9_init 17 = .ok (.newarray .long, 2) := by decide +kernel
theorem dX9_init_19 : decode cX9_init 19 = .ok (.putfield 15, 3) := by decide +kernel
theorem dX9_init_22 : decode cX9_init 22 = .ok (.aload_n 0, 1) := by decide +kernel
theorem dX9_init_23 : decode cX9_init 23 = .ok (.sipush 201, 3) := by decide +kernel
theorem dX9_init_26 : decode cX9_init 26 = .ok (.newarray .int, 2) := by decide +kernel
theorem dX9_init_28 : decode cX9_init 28 = .ok (.putfield 18, 3) := by decide +kernel
theorem dX9_init_31 : decode cX9_init 31 = .ok (.return_, 1) := by decide +kernel
theorem dX9_note_0 : decode cX9_note 0 = .ok (.iload_n 1, 1) := by decide +kernel
theorem dX9_note_1 : decode cX9_note 1 = .ok (.ifCond .lt 10, 3) := by decide +kernel
theorem dX9_note_4 : decode cX9_note 4 = .ok (.iload_n 1, 1) := by decide +kernel
theorem dX9_note_5 : decode cX9_note 5 = .ok (.sipush 200, 3) := by decide +kernel
theorem dX9_note_8 : decode cX9_note 8 = .ok (.if_icmp .le 4, 3) := by decide +kernel
theorem dX9_note_11 : decode cX9_note 11 = .ok (.return_, 1) := by decide +kernel
theorem dX9_note_12 : decode cX9_note 12 = .ok (.lconst 0, 1) := by decide +kernel
theorem dX9_note_13 : decode cX9_note 13 = .ok (.lstore 4, 2) := by decide +kernel
theorem dX9_note_15 : decode cX9_note 15 = .ok (.aload_n 3, 1) := by decide +kernel
theorem dX9_note_16 : decode cX9_note 16 = .ok (.bipush 9, 2) := by decide +kernel
theorem dX9_note_18 : decode cX9_note 18 = .ok (.invokestatic 22, 3) := by decide +kernel
theorem dX9_note_21 : decode cX9_note 21 = .ok (.i2l, 1) := by decide +kernel
theorem dX9_note_22 : decode cX9_note 22 = .ok (.lstore 6, 2) := by decide +kernel
theorem dX9_note_24 : decode cX9_note 24 = .ok (.iconst 0, 1) := by decide +kernel
theorem dX9_note_25 : decode cX9_note 25 = .ok (.istore 8, 2) := by decide +kernel
theorem dX9_note_27 : decode cX9_note 27 = .ok (.iload 8, 2) := by decide +kernel
theorem dX9_note_29 : decode cX9_note 29 = .ok (.bipush 10, 2) := by decide +kernel
theorem dX9_note_31 : decode cX9_note 31 = .ok (.if_icmp .ge 48, 3) := by decide +kernel
theorem dX9_note_34 : decode cX9_note 34 = .ok (.iload 8, 2) := by decide +kernel
theorem dX9_note_36 : decode cX9_note 36 = .ok (.bipush 9, 2) := by decide +kernel
theorem dX9_note_38 : decode cX9_note 38 = .ok (.if_icmp .ge 18, 3) := by decide +kernel
theorem dX9_note_41 : decode cX9_note 41 = .ok (.lload 4, 2) := by decide +kernel
theorem dX9_note_43 : decode cX9_note 43 = .ok (.bipush 7, 2) := by decide +kernel
theorem dX9_note_45 : decode cX9_note 45 = .ok (.lshl, 1) := by decide +kernel
theorem dX9_note_46 : decode cX9_note 46 = .ok (.aload_n 3, 1) := by decide +kernel
theorem dX9_note_47 : decode cX9_note 47 = .ok (.iload 8, 2) := by decide +kernel
theorem dX9_note_49 : decode cX9_note 49 = .ok (.invokestatic 22, 3) := by decide +kernel
theorem dX9_note_52 : decode cX9_note 52 = .ok (.i2l, 1) := by decide +kernel
theorem dX9_note_53 : decode cX9_note 53 = .ok (.lor, 1) := by decide +kernel
theorem dX9_note_54 : decode cX9_note 54 = .ok (.lstore 4, 2) := by decide +kernel
theorem dX9_note_56 : decode cX9_note 56 = .ok (.lload 6, 2) := by decide +kernel
theorem dX9_note_58 : decode cX9_note 58 = .ok (.iconst 4, 1) := by decide +kernel
theorem dX9_note_59 : decode cX9_note 59 = .ok (.lshl, 1) := by decide +kernel
theorem dX9_note_60 : decode cX9_note 60 = .ok (.aload_n 2, 1) := by decide +kernel
theorem dX9_note_61 : decode cX9_note 61 = .ok (.getfield 26, 3) := by decide +kernel
theorem dX9_note_64 : decode cX9_note 64 = .ok (.iload 8, 2) := by decide +kernel
theorem dX9_note_66 : decode cX9_note 66 = .ok (.invokestatic 22, 3) := by decide +kernel
theorem dX9_note_69 : decode cX9_note 69 = .ok (.i2l, 1) := by decide +kernel
theorem dX9_note_70 : decode cX9_note 70 = .ok (.lor, 1) := by decide +kernel
theorem dX9_note_71 : decode cX9_note 71 = .ok (.lstore 6, 2) := by decide +kernel
theorem dX9_note_73 : decode cX9_note 73 = .ok (.iinc 8 1, 3) := by decide +kernel
theorem dX9_note_76 : decode cX9_note 76 = .ok (.goto (-49), 3) := by decide +kernel
theorem dX9_note_79 : decode cX9_note 79 = .ok (.aload_n 0, 1) := by decide +kernel
theorem dX9_note_80 : decode cX9_note 80 = .ok (.getfield 9, 3) := by decide +kernel
theorem dX9_note_83 : decode cX9_note 83 = .ok (.iload_n 1, 1) := by decide +kernel
theorem dX9_note_84 : decode cX9_note 84 = .ok (.lload 4, 2) := by decide +kernel
theorem dX9_note_86 : decode cX9_note 86 = .ok (.lastore, 1) := by decide +kernel
theorem dX9_note_87 : decode cX9_note 87 = .ok (.aload_n 0, 1) := by decide +kernel
theorem dX9_note_88 : decode cX9_note 88 = .ok (.getfield 15, 3) := by decide +kernel
theorem dX9_note_91 : decode cX9_note 91 = .ok (.iload_n 1, 1) := by decide +kernel
theorem dX9_note_92 : decode cX9_note 92 = .ok (.lload 6, 2) := by decide +kernel
theorem dX9_note_94 : decode cX9_note 94 = .ok (.iconst 4, 1) := by decide +kernel
theorem dX9_note_95 : decode cX9_note 95 = .ok (.lshl, 1) := by decide +kernel
theorem dX9_note_96 : decode cX9_note 96 = .ok (.aload_n 2, 1) := by decide +kernel
theorem dX9_note_97 : decode cX9_note 97 = .ok (.getfield 31, 3) := by decide +kernel
theorem dX9_note_100 : decode cX9_note 100 = .ok (.i2l, 1) := by decide +kernel
theorem dX9_note_101 : decode cX9_note 101 = .ok (.lor, 1) := by decide +kernel
theorem dX9_note_102 : decode cX9_note 102 = .ok (.iconst 2, 1) := by decide +kernel
theorem dX9_note_103 : decode cX9_note 103 = .ok (.lshl, 1) := by decide +kernel
theorem dX9_note_104 : decode cX9_note 104 = .ok (.aload_n 2, 1) := by decide +kernel
theorem dX9_note_105 : decode cX9_note 105 = .ok (.getfield 35, 3) := by decide +kernel
theorem dX9_note_108 : decode cX9_note 108 = .ok (.i2l, 1) := by decide +kernel
theorem dX9_note_109 : decode cX9_note 109 = .ok (.lor, 1) := by decide +kernel
theorem dX9_note_110 : decode cX9_note 110 = .ok (.lastore, 1) := by decide +kernel
theorem dX9_note_111 : decode cX9_note 111 = .ok (.aload_n 0, 1) := by decide +kernel
theorem dX9_note_112 : decode cX9_note 112 = .ok (.getfield 18, 3) := by decide +kernel
theorem dX9_note_115 : decode cX9_note 115 = .ok (.iload_n 1, 1) := by decide +kernel
theorem dX9_note_116 : decode cX9_note 116 = .ok (.aload_n 2, 1) := by decide +kernel
theorem dX9_note_117 : decode cX9_note 117 = .ok (.getfield 38, 3) := by decide +kernel
theorem dX9_note_120 : decode cX9_note 120 = .ok (.iastore, 1) := by decide +kernel
theorem dX9_note_121 : decode cX9_note 121 = .ok (.return_, 1) := by decide +kernel
theorem dX9_elderLike_0 : decode cX9_elderLike 0 = .ok (.iconst 0, 1) := by decide +kernel
theorem dX9_elderLike_1 : decode cX9_elderLike 1 = .ok (.istore_n 2, 1) := by decide +kernel
theorem dX9_elderLike_2 : decode cX9_elderLike 2 = .ok (.iload_n 2, 1) := by decide +kernel
theorem dX9_elderLike_3 : decode cX9_elderLike 3 = .ok (.iload_n 1, 1) := by decide +kernel
theorem dX9_elderLike_4 : decode cX9_elderLike 4 = .ok (.if_icmp .ge 65, 3) := by decide +kernel
theorem dX9_elderLike_7 : decode cX9_elderLike 7 = .ok (.iload_n 1, 1) := by decide +kernel
theorem dX9_elderLike_8 : decode cX9_elderLike 8 = .ok (.sipush 200, 3) := by decide +kernel
theorem dX9_elderLike_11 : decode cX9_elderLike 11 = .ok (.if_icmp .gt 58, 3) := by decide +kernel
theorem dX9_elderLike_14 : decode cX9_elderLike 14 = .ok (.aload_n 0, 1) := by decide +kernel
theorem dX9_elderLike_15 : decode cX9_elderLike 15 = .ok (.getfield 9, 3) := by decide +kernel
theorem dX9_elderLike_18 : decode cX9_elderLike 18 = .ok (.iload_n 2, 1) := by decide +kernel
theorem dX9_elderLike_19 : decode cX9_elderLike 19 = .ok (.laload, 1) := by decide +kernel
theorem dX9_elderLike_20 : decode cX9_elderLike 20 = .ok (.aload_n 0, 1) := by decide +kernel
theorem dX9_elderLike_21 : decode cX9_elderLike 21 = .ok (.getfield 9, 3) := by decide +kernel
theorem dX9_elderLike_24 : decode cX9_elderLike 24 = .ok (.iload_n 1, 1) := by decide +kernel
theorem dX9_elderLike_25 : decode cX9_elderLike 25 = .ok (.laload, 1) := by decide +kernel
theorem dX9_elderLike_26 : decode cX9_elderLike 26 = .ok (.lcmp, 1) := by decide +kernel
theorem dX9_elderLike_27 : decode cX9_elderLike 27 = .ok (.ifCond .ne 36, 3) := by decide +kernel
theorem dX9_elderLike_30 : decode cX9_elderLike 30 = .ok (.aload_n 0, 1) := by decide +kernel
theorem dX9_elderLike_31 : decode cX9_elderLike 31 = .ok (.getfield 15, 3) := by decide +kernel
theorem dX9_elderLike_34 : decode cX9_elderLike 34 = .ok (.iload_n 2, 1) := by decide +kernel
theorem dX9_elderLike_35 : decode cX9_elderLike 35 = .ok (.laload, 1) := by decide +kernel
theorem dX9_elderLike_36 : decode cX9_elderLike 36 = .ok (.aload_n 0, 1) := by decide +kernel
theorem dX9_elderLike_37 : decode cX9_elderLike 37 = .ok (.getfield 15, 3) := by decide +kernel
theorem dX9_elderLike_40 : decode cX9_elderLike 40 = .ok (.iload_n 1, 1) := by decide +kernel
theorem dX9_elderLike_41 : decode cX9_elderLike 41 = .ok (.laload, 1) := by decide +kernel
theorem dX9_elderLike_42 : decode cX9_elderLike 42 = .ok (.lcmp, 1) := by decide +kernel
theorem dX9_elderLike_43 : decode cX9_elderLike 43 = .ok (.ifCond .ne 20, 3) := by decide +kernel
theorem dX9_elderLike_46 : decode cX9_elderLike 46 = .ok (.aload_n 0, 1) := by decide +kernel
theorem dX9_elderLike_47 : decode cX9_elderLike 47 = .ok (.getfield 18, 3) := by decide +kernel
theorem dX9_elderLike_50 : decode cX9_elderLike 50 = .ok (.iload_n 2, 1) := by decide +kernel
theorem dX9_elderLike_51 : decode cX9_elderLike 51 = .ok (.iaload, 1) := by decide +kernel
theorem dX9_elderLike_52 : decode cX9_elderLike 52 = .ok (.aload_n 0, 1) := by decide +kernel
theorem dX9_elderLike_53 : decode cX9_elderLike 53 = .ok (.getfield 18, 3) := by decide +kernel
theorem dX9_elderLike_56 : decode cX9_elderLike 56 = .ok (.iload_n 1, 1) := by decide +kernel
theorem dX9_elderLike_57 : decode cX9_elderLike 57 = .ok (.iaload, 1) := by decide +kernel
theorem dX9_elderLike_58 : decode cX9_elderLike 58 = .ok (.if_icmp .ne 5, 3) := by decide +kernel
theorem dX9_elderLike_61 : decode cX9_elderLike 61 = .ok (.iload_n 2, 1) := by decide +kernel
theorem dX9_elderLike_62 : decode cX9_elderLike 62 = .ok (.ireturn, 1) := by decide +kernel
theorem dX9_elderLike_63 : decode cX9_elderLike 63 = .ok (.iinc 2 1, 3) := by decide +kernel
theorem dX9_elderLike_66 : decode cX9_elderLike 66 = .ok (.goto (-64), 3) := by decide +kernel
theorem dX9_elderLike_69 : decode cX9_elderLike 69 = .ok (.iconst (-1), 1) := by decide +kernel
theorem dX9_elderLike_70 : decode cX9_elderLike 70 = .ok (.ireturn, 1) := by decide +kernel
theorem dX10_init_0 : decode cX10_init 0 = .ok (.aload_n 0, 1) := by decide +kernel
theorem dX10_init_1 : decode cX10_init 1 = .ok (.invokespecial 3, 3) := by decide +kernel
theorem dX10_init_4 : decode cX10_init 4 = .ok (.aload_n 0, 1) := by decide +kernel
theorem dX10_init_5 : decode cX10_init 5 = .ok (.bipush 10, 2) := by decide +kernel
theorem dX10_init_7 : decode cX10_init 7 = .ok (.newarray .int, 2) := by decide +kernel
theorem dX10_init_9 : decode cX10_init 9 = .ok (.putfield 9, 3) := by decide +kernel
theorem dX10_init_12 : decode cX10_init 12 = .ok (.return_, 1) := by decide +kernel
theorem dX10_become_0 : decode cX10_become 0 = .ok (.aload_n 0, 1) := by decide +kernel
theorem dX10_become_1 : decode cX10_become 1 = .ok (.aload_n 1, 1) := by decide +kernel
theorem dX10_become_2 : decode cX10_become 2 = .ok (.getfield 15, 3) := by decide +kernel
theorem dX10_become_5 : decode cX10_become 5 = .ok (.putfield 15, 3) := by decide +kernel
theorem dX10_become_8 : decode cX10_become 8 = .ok (.aload_n 0, 1) := by decide +kernel
theorem dX10_become_9 : decode cX10_become 9 = .ok (.aload_n 1, 1) := by decide +kernel
theorem dX10_become_10 : decode cX10_become 10 = .ok (.getfield 19, 3) := by decide +kernel
theorem dX10_become_13 : decode cX10_become 13 = .ok (.putfield 19, 3) := by decide +kernel
theorem dX10_become_16 : decode cX10_become 16 = .ok (.aload_n 0, 1) := by decide +kernel
theorem dX10_become_17 : decode cX10_become 17 = .ok (.aload_n 1, 1) := by decide +kernel
theorem dX10_become_18 : decode cX10_become 18 = .ok (.getfield 22, 3) := by decide +kernel
theorem dX10_become_21 : decode cX10_become 21 = .ok (.putfield 22, 3) := by decide +kernel
theorem dX10_become_24 : decode cX10_become 24 = .ok (.aload_n 0, 1) := by decide +kernel
theorem dX10_become_25 : decode cX10_become 25 = .ok (.aload_n 1, 1) := by decide +kernel
theorem dX10_become_26 : decode cX10_become 26 = .ok (.getfield 25, 3) := by decide +kernel
theorem dX10_become_29 : decode cX10_become 29 = .ok (.putfield 25, 3) := by decide +kernel
theorem dX10_become_32 : decode cX10_become 32 = .ok (.aload_n 0, 1) := by decide +kernel
theorem dX10_become_33 : decode cX10_become 33 = .ok (.aload_n 1, 1) := by decide +kernel
theorem dX10_become_34 : decode cX10_become 34 = .ok (.getfield 28, 3) := by decide +kernel
theorem dX10_become_37 : decode cX10_become 37 = .ok (.putfield 28, 3) := by decide +kernel
theorem dX10_become_40 : decode cX10_become 40 = .ok (.aload_n 0, 1) := by decide +kernel
theorem dX10_become_41 : decode cX10_become 41 = .ok (.aload_n 1, 1) := by decide +kernel
theorem dX10_become_42 : decode cX10_become 42 = .ok (.getfield 31, 3) := by decide +kernel
theorem dX10_become_45 : decode cX10_become 45 = .ok (.putfield 31, 3) := by decide +kernel
theorem dX10_become_48 : decode cX10_become 48 = .ok (.aload_n 0, 1) := by decide +kernel
theorem dX10_become_49 : decode cX10_become 49 = .ok (.aload_n 1, 1) := by decide +kernel
theorem dX10_become_50 : decode cX10_become 50 = .ok (.getfield 34, 3) := by decide +kernel
theorem dX10_become_53 : decode cX10_become 53 = .ok (.putfield 34, 3) := by decide +kernel
theorem dX10_become_56 : decode cX10_become 56 = .ok (.aload_n 1, 1) := by decide +kernel
theorem dX10_become_57 : decode cX10_become 57 = .ok (.getfield 9, 3) := by decide +kernel
theorem dX10_become_60 : decode cX10_become 60 = .ok (.aload_n 0, 1) := by decide +kernel
theorem dX10_become_61 : decode cX10_become 61 = .ok (.getfield 9, 3) := by decide +kernel
theorem dX10_become_64 : decode cX10_become 64 = .ok (.invokestatic 37, 3) := by decide +kernel
theorem dX10_become_67 : decode cX10_become 67 = .ok (.return_, 1) := by decide +kernel
theorem dX10_goneFromHere_0 : decode cX10_goneFromHere 0 = .ok (.aload_n 0, 1) := by decide +kernel
theorem dX10_goneFromHere_1 : decode cX10_goneFromHere 1 = .ok (.getfield 9, 3) := by decide +kernel
theorem dX10_goneFromHere_4 : decode cX10_goneFromHere 4 = .ok (.aload_n 0, 1) := by decide +kernel
theorem dX10_goneFromHere_5 : decode cX10_goneFromHere 5 = .ok (.getfield 22, 3) := by decide +kernel
theorem dX10_goneFromHere_8 : decode cX10_goneFromHere 8 = .ok (.invokestatic 41, 3) := by decide +kernel
theorem dX10_goneFromHere_11 : decode cX10_goneFromHere 11 = .ok (.ireturn, 1) := by decide +kernel
theorem dX10_goThrough_0 : decode cX10_goThrough 0 = .ok (.aload_n 0, 1) := by decide +kernel
theorem dX10_goThrough_1 : decode cX10_goThrough 1 = .ok (.getfield 9, 3) := by decide +kernel
theorem dX10_goThrough_4 : decode cX10_goThrough 4 = .ok (.aload_n 0, 1) := by decide +kernel
theorem dX10_goThrough_5 : decode cX10_goThrough 5 = .ok (.getfield 22, 3) := by decide +kernel
theorem dX10_goThrough_8 : decode cX10_goThrough 8 = .ok (.aload_n 0, 1) := by decide +kernel
theorem dX10_goThrough_9 : decode cX10_goThrough 9 = .ok (.invokevirtual 45, 3) := by decide +kernel
theorem dX10_goThrough_12 : decode cX10_goThrough 12 = .ok (.iconst 1, 1) := by decide +kernel
theorem dX10_goThrough_13 : decode cX10_goThrough 13 = .ok (.iload_n 1, 1) := by decide +kernel
theorem dX10_goThrough_14 : decode cX10_goThrough 14 = .ok (.ishl, 1) := by decide +kernel
theorem dX10_goThrough_15 : decode cX10_goThrough 15 = .ok (.ior, 1) := by decide +kernel
theorem dX10_goThrough_16 : decode cX10_goThrough 16 = .ok (.invokestatic 49, 3) := by decide +kernel
theorem dX10_goThrough_19 : decode cX10_goThrough 19 = .ok (.aload_n 0, 1) := by decide +kernel
theorem dX10_goThrough_20 : decode cX10_goThrough 20 = .ok (.iload_n 2, 1) := by decide +kernel
theorem dX10_goThrough_21 : decode cX10_goThrough 21 = .ok (.putfield 22, 3) := by decide +kernel
theorem dX10_goThrough_24 : decode cX10_goThrough 24 = .ok (.aload_n 0, 1) := by decide +kernel
theorem dX10_goThrough_25 : decode cX10_goThrough 25 = .ok (.iload_n 3, 1) := by decide +kernel
theorem dX10_goThrough_26 : decode cX10_goThrough 26 = .ok (.putfield 25, 3) := by decide +kernel
theorem dX10_goThrough_29 : decode cX10_goThrough 29 = .ok (.aload_n 0, 1) := by decide +kernel
theorem dX10_goThrough_30 : decode cX10_goThrough 30 = .ok (.dup, 1) := by decide +kernel
theorem dX10_goThrough_31 : decode cX10_goThrough 31 = .ok (.getfield 34, 3) := by decide +kernel
theorem dX10_goThrough_34 : decode cX10_goThrough 34 = .ok (.iconst 1, 1) := by decide +kernel
theorem dX10_goThrough_35 : decode cX10_goThrough 35 = .ok (.iadd, 1) := by decide +kernel
theorem dX10_goThrough_36 : decode cX10_goThrough 36 = .ok (.putfield 34, 3) := by decide +kernel
theorem dX10_goThrough_39 : decode cX10_goThrough 39 = .ok (.return_, 1) := by decide +kernel
theorem dX11_init_0 : decode cX11_init 0 = .ok (.aload_n 0, 1) := by decide +kernel
theorem dX11_init_1 : decode cX11_init 1 = .ok (.invokespecial 1, 3) := by decide +kernel
theorem dX11_init_4 : decode cX11_init 4 = .ok (.aload_n 0, 1) := by decide +kernel
theorem dX11_init_5 : decode cX11_init 5 = .ok (.new 7, 3) := by decide +kernel
theorem dX11_init_8 : decode cX11_init 8 = .ok (.dup, 1) := by decide +kernel
theorem dX11_init_9 : decode cX11_init 9 = .ok (.invokespecial 9, 3) := by decide +kernel
theorem dX11_init_12 : decode cX11_init 12 = .ok (.putfield 10, 3) := by decide +kernel
theorem dX11_init_15 : decode cX11_init 15 = .ok (.aload_n 0, 1) := by decide +kernel
theorem dX11_init_16 : decode cX11_init 16 = .ok (.iconst 4, 1) := by decide +kernel
theorem dX11_init_17 : decode cX11_init 17 = .ok (.anewarray 16, 3) := by decide +kernel
theorem dX11_init_20 : decode cX11_init 20 = .ok (.putfield 18, 3) := by decide +kernel
theorem dX11_init_23 : decode cX11_init 23 = .ok (.aload_n 0, 1) := by decide +kernel
theorem dX11_init_24 : decode cX11_init 24 = .ok (.bipush 8, 2) := by decide +kernel
theorem dX11_init_26 : decode cX11_init 26 = .ok (.anewarray 22, 3) := by decide +kernel
theorem dX11_init_29 : decode cX11_init 29 = .ok (.putfield 24, 3) := by decide +kernel
theorem dX11_init_32 : decode cX11_init 32 = .ok (.aload_n 0, 1) := by decide +kernel
theorem dX11_init_33 : decode cX11_init 33 = .ok (.bipush 6, 2) := by decide +kernel
theorem dX11_init_35 : decode cX11_init 35 = .ok (.anewarray 28, 3) := by decide +kernel
theorem dX11_init_38 : decode cX11_init 38 = .ok (.putfield 30, 3) := by decide +kernel
theorem dX11_init_41 : decode cX11_init 41 = .ok (.aload_n 0, 1) := by decide +kernel
theorem dX11_init_42 : decode cX11_init 42 = .ok (.iconst 4, 1) := by decide +kernel
theorem dX11_init_43 : decode cX11_init 43 = .ok (.anewarray 34, 3) := by decide +kernel
theorem dX11_init_46 : decode cX11_init 46 = .ok (.putfield 36, 3) := by decide +kernel
theorem dX11_init_49 : decode cX11_init 49 = .ok (.aload_n 0, 1) := by decide +kernel
theorem dX11_init_50 : decode cX11_init 50 = .ok (.new 40, 3) := by decide +kernel
theorem dX11_init_53 : decode cX11_init 53 = .ok (.dup, 1) := by decide +kernel
theorem dX11_init_54 : decode cX11_init 54 = .ok (.invokespecial 42, 3) := by decide +kernel
theorem dX11_init_57 : decode cX11_init 57 = .ok (.putfield 43, 3) := by decide +kernel
theorem dX11_init_60 : decode cX11_init 60 = .ok (.aload_n 0, 1) := by decide +kernel
theorem dX11_init_61 : decode cX11_init 61 = .ok (.new 47, 3) := by decide +kernel
theorem dX11_init_64 : decode cX11_init 64 = .ok (.dup, 1) := by decide +kernel
theorem dX11_init_65 : decode cX11_init 65 = .ok (.invokespecial 49, 3) := by decide +kernel
theorem dX11_init_68 : decode cX11_init 68 = .ok (.putfield 50, 3) := by decide +kernel
theorem dX11_init_71 : decode cX11_init 71 = .ok (.aload_n 0, 1) := by decide +kernel
theorem dX11_init_72 : decode cX11_init 72 = .ok (.new 22, 3) := by decide +kernel
theorem dX11_init_75 : decode cX11_init 75 = .ok (.dup, 1) := by decide +kernel
theorem dX11_init_76 : decode cX11_init 76 = .ok (.invokespecial 54, 3) := by decide +kernel
theorem dX11_init_79 : decode cX11_init 79 = .ok (.putfield 55, 3) := by decide +kernel
theorem dX11_init_82 : decode cX11_init 82 = .ok (.aload_n 0, 1) := by decide +kernel
theorem dX11_init_83 : decode cX11_init 83 = .ok (.new 22, 3) := by decide +kernel
theorem dX11_init_86 : decode cX11_init 86 = .ok (.dup, 1) := by decide +kernel
theorem dX11_init_87 : decode cX11_init 87 = .ok (.invokespecial 54, 3) := by decide +kernel
theorem dX11_init_90 : decode cX11_init 90 = .ok (.putfield 59, 3) := by decide +kernel
theorem dX11_init_93 : decode cX11_init 93 = .ok (.aload_n 0, 1) := by decide +kernel
theorem dX11_init_94 : decode cX11_init 94 = .ok (.bipush 10, 2) := by decide +kernel
theorem dX11_init_96 : decode cX11_init 96 = .ok (.newarray .int, 2) := by decide +kernel
theorem dX11_init_98 : decode cX11_init 98 = .ok (.putfield 62, 3) := by decide +kernel
theorem dX11_init_101 : decode cX11_init 101 = .ok (.aload_n 0, 1) := by decide +kernel
theorem dX11_init_102 : decode cX11_init 102 = .ok (.new 66, 3) := by decide +kernel
theorem dX11_init_105 : decode cX11_init 105 = .ok (.dup, 1) := by decide +kernel
theorem dX11_init_106 : decode cX11_init 106 = .ok (.invokespecial 68, 3) := by decide +kernel
theorem dX11_init_109 : decode cX11_init 109 = .ok (.putfield 69, 3) := by decide +kernel
theorem dX11_init_112 : decode cX11_init 112 = .ok (.aload_n 0, 1) := by decide +kernel
theorem dX11_init_113 : decode cX11_init 113 = .ok (.new 73, 3) := by decide +kernel
theorem dX11_init_116 : decode cX11_init 116 = .ok (.dup, 1) := by decide +kernel
theorem dX11_init_117 : decode cX11_init 117 = .ok (.invokespecial 75, 3) := by decide +kernel
theorem dX11_init_120 : decode cX11_init 120 = .ok (.putfield 76, 3) := by decide +kernel
theorem dX11_init_123 : decode cX11_init 123 = .ok (.aload_n 0, 1) := by decide +kernel
theorem dX11_init_124 : decode cX11_init 124 = .ok (.new 80, 3) := by decide +kernel
theorem dX11_init_127 : decode cX11_init 127 = .ok (.dup, 1) := by decide +kernel
theorem dX11_init_128 : decode cX11_init 128 = .ok (.invokespecial 82, 3) := by decide +kernel
theorem dX11_init_131 : decode cX11_init 131 = .ok (.putfield 83, 3) := by decide +kernel
theorem dX11_init_134 : decode cX11_init 134 = .ok (.aload_n 0, 1) := by decide +kernel
theorem dX11_init_135 : decode cX11_init 135 = .ok (.new 87, 3) := by decide +kernel
theorem dX11_init_138 : decode cX11_init 138 = .ok (.dup, 1) := by decide +kernel
theorem dX11_init_139 : decode cX11_init 139 = .ok (.invokespecial 89, 3) := by decide +kernel
theorem dX11_init_142 : decode cX11_init 142 = .ok (.putfield 90, 3) := by decide +kernel
theorem dX11_init_145 : decode cX11_init 145 = .ok (.iconst 0, 1) := by decide +kernel
theorem dX11_init_146 : decode cX11_init 146 = .ok (.istore_n 1, 1) := by decide +kernel
theorem dX11_init_147 : decode cX11_init 147 = .ok (.iload_n 1, 1) := by decide +kernel
theorem dX11_init_148 : decode cX11_init 148 = .ok (.iconst 4, 1) := by decide +kernel
theorem dX11_init_149 : decode cX11_init 149 = .ok (.if_icmp .ge 22, 3) := by decide +kernel
theorem dX11_init_152 : decode cX11_init 152 = .ok (.aload_n 0, 1) := by decide +kernel
theorem dX11_init_153 : decode cX11_init 153 = .ok (.getfield 18, 3) := by decide +kernel
theorem dX11_init_156 : decode cX11_init 156 = .ok (.iload_n 1, 1) := by decide +kernel
theorem dX11_init_157 : decode cX11_init 157 = .ok (.new 16, 3) := by decide +kernel
theorem dX11_init_160 : decode cX11_init 160 = .ok (.dup, 1) := by decide +kernel
theorem dX11_init_161 : decode cX11_init 161 = .ok (.invokespecial 94, 3) := by decide +kernel
theorem dX11_init_164 : decode cX11_init 164 = .ok (.aastore, 1) := by decide +kernel
theorem dX11_init_165 : decode cX11_init 165 = .ok (.iinc 1 1, 3) := by decide +kernel
theorem dX11_init_168 : decode cX11_init 168 = .ok (.goto (-21), 3) := by decide +kernel
theorem dX11_init_171 : decode cX11_init 171 = .ok (.iconst 0, 1) := by decide +kernel
theorem dX11_init_172 : decode cX11_init 172 = .ok (.istore_n 1, 1) := by decide +kernel
theorem dX11_init_173 : decode cX11_init 173 = .ok (.iload_n 1, 1) := by decide +kernel
theorem dX11_init_174 : decode cX11_init 174 = .ok (.bipush 8, 2) := by decide +kernel
theorem dX11_init_176 : decode cX11_init 176 = .ok (.if_icmp .ge 22, 3) := by decide +kernel
theorem dX11_init_179 : decode cX11_init 179 = .ok (.aload_n 0, 1) := by decide +kernel
theorem dX11_init_180 : decode cX11_init 180 = .ok (.getfield 24, 3) := by decide +kernel
theorem dX11_init_183 : decode cX11_init 183 = .ok (.iload_n 1, 1) := by decide +kernel
theorem dX11_init_184 : decode cX11_init 184 = .ok (.new 22, 3) := by decide +kernel
theorem dX11_init_187 : decode cX11_init 187 = .ok (.dup, 1) := by decide +kernel
theorem dX11_init_188 : decode cX11_init 188 = .ok (.invokespecial 54, 3) := by decide +kernel
theorem dX11_init_191 : decode cX11_init 191 = .ok (.aastore, 1) := by decide +kernel
theorem dX11_init_192 : decode cX11_init 192 = .ok (.iinc 1 1, 3) := by decide +kernel
theorem dX11_init_195 : decode cX11_init 195 = .ok (.goto (-22), 3) := by decide +kernel
theorem dX11_init_198 : decode cX11_init 198 = .ok (.iconst 0, 1) := by decide +kernel
theorem dX11_init_199 : decode cX11_init 199 = .ok (.istore_n 1, 1) := by decide +kernel
theorem dX11_init_200 : decode cX11_init 200 = .ok (.iload_n 1, 1) := by decide +kernel
theorem dX11_init_201 : decode cX11_init 201 = .ok (.bipush 6, 2) := by decide +kernel
theorem dX11_init_203 : decode cX11_init 203 = .ok (.if_icmp .ge 22, 3) := by decide +kernel
theorem dX11_init_206 : decode cX11_init 206 = .ok (.aload_n 0, 1) := by decide +kernel
theorem dX11_init_207 : decode cX11_init 207 = .ok (.getfield 30, 3) := by decide +kernel
theorem dX11_init_210 : decode cX11_init 210 = .ok (.iload_n 1, 1) := by decide +kernel
theorem dX11_init_211 : decode cX11_init 211 = .ok (.new 28, 3) := by decide +kernel
theorem dX11_init_214 : decode cX11_init 214 = .ok (.dup, 1) := by decide +kernel
theorem dX11_init_215 : decode cX11_init 215 = .ok (.invokespecial 95, 3) := by decide +kernel
theorem dX11_init_218 : decode cX11_init 218 = .ok (.aastore, 1) := by decide +kernel
theorem dX11_init_219 : decode cX11_init 219 = .ok (.iinc 1 1, 3) := by decide +kernel
theorem dX11_init_222 : decode cX11_init 222 = .ok (.goto (-22), 3) := by decide +kernel
theorem dX11_init_225 : decode cX11_init 225 = .ok (.iconst 0, 1) := by decide +kernel
theorem dX11_init_226 : decode cX11_init 226 = .ok (.istore_n 1, 1) := by decide +kernel
theorem dX11_init_227 : decode cX11_init 227 = .ok (.iload_n 1, 1) := by decide +kernel
theorem dX11_init_228 : decode cX11_init 228 = .ok (.iconst 4, 1) := by decide +kernel
theorem dX11_init_229 : decode cX11_init 229 = .ok (.if_icmp .ge 22, 3) := by decide +kernel
theorem dX11_init_232 : decode cX11_init 232 = .ok (.aload_n 0, 1) := by decide +kernel
theorem dX11_init_233 : decode cX11_init 233 = .ok (.getfield 36, 3) := by decide +kernel
theorem dX11_init_236 : decode cX11_init 236 = .ok (.iload_n 1, 1) := by decide +kernel
theorem dX11_init_237 : decode cX11_init 237 = .ok (.new 34, 3) := by decide +kernel
theorem dX11_init_240 : decode cX11_init 240 = .ok (.dup, 1) := by decide +kernel
theorem dX11_init_241 : decode cX11_init 241 = .ok (.invokespecial 96, 3) := by decide +kernel
theorem dX11_init_244 : decode cX11_init 244 = .ok (.aastore, 1) := by decide +kernel
theorem dX11_init_245 : decode cX11_init 245 = .ok (.iinc 1 1, 3) := by decide +kernel
theorem dX11_init_248 : decode cX11_init 248 = .ok (.goto (-21), 3) := by decide +kernel
theorem dX11_init_251 : decode cX11_init 251 = .ok (.aload_n 0, 1) := by decide +kernel
theorem dX11_init_252 : decode cX11_init 252 = .ok (.invokevirtual 97, 3) := by decide +kernel
theorem dX11_init_255 : decode cX11_init 255 = .ok (.return_, 1) := by decide +kernel
theorem dX11_feed_0 : decode cX11_feed 0 = .ok (.iload_n 1, 1) := by decide +kernel
theorem dX11_feed_1 : decode cX11_feed 1 = .ok (.iconst 1, 1) := by decide +kernel
theorem dX11_feed_2 : decode cX11_feed 2 = .ok (.if_icmp .lt 9, 3) := by decide +kernel
theorem dX11_feed_5 : decode cX11_feed 5 = .ok (.iload_n 1, 1) := by decide +kernel
theorem dX11_feed_6 : decode cX11_feed 6 = .ok (.bipush 8, 2) := by decide +kernel
theorem dX11_feed_8 : decode cX11_feed 8 = .ok (.if_icmp .le 6, 3) := by decide +kernel
theorem dX11_feed_11 : decode cX11_feed 11 = .ok (.bipush (-2), 2) := by decide +kernel
theorem dX11_feed_13 : decode cX11_feed 13 = .ok (.ireturn, 1) := by decide +kernel
theorem dX11_feed_14 : decode cX11_feed 14 = .ok (.iload_n 1, 1) := by decide +kernel
theorem dX11_feed_15 : decode cX11_feed 15 = .ok (.sipush 160, 3) := by decide +kernel
theorem dX11_feed_18 : decode cX11_feed 18 = .ok (.aload_n 0, 1) := by decide +kernel
theorem dX11_feed_19 : decode cX11_feed 19 = .ok (.getfield 10, 3) := by decide +kernel
theorem dX11_feed_22 : decode cX11_feed 22 = .ok (.getfield 100, 3) := by decide +kernel
theorem dX11_feed_25 : decode cX11_feed 25 = .ok (.isub, 1) := by decide +kernel
theorem dX11_feed_26 : decode cX11_feed 26 = .ok (.if_icmp .le 6, 3) := by decide +kernel
theorem dX11_feed_29 : decode cX11_feed 29 = .ok (.bipush (-4), 2) := by decide +kernel
theorem dX11_feed_31 : decode cX11_feed 31 = .ok (.ireturn, 1) := by decide +kernel
theorem dX11_feed_32 : decode cX11_feed 32 = .ok (.lload_n 2, 1) := by decide +kernel
theorem dX11_feed_33 : decode cX11_feed 33 = .ok (.lstore 4, 2) := by decide +kernel
theorem dX11_feed_35 : decode cX11_feed 35 = .ok (.iconst 0, 1) := by decide +kernel
theorem dX11_feed_36 : decode cX11_feed 36 = .ok (.istore 6, 2) := by decide +kernel
theorem dX11_feed_38 : decode cX11_feed 38 = .ok (.iload 6, 2) := by decide +kernel
theorem dX11_feed_40 : decode cX11_feed 40 = .ok (.iload_n 1, 1) := by decide +kernel
theorem dX11_feed_41 : decode cX11_feed 41 = .ok (.if_icmp .ge 27, 3) := by decide +kernel
theorem dX11_feed_44 : decode cX11_feed 44 = .ok (.aload_n 0, 1) := by decide +kernel
theorem dX11_feed_45 : decode cX11_feed 45 = .ok (.getfield 10, 3) := by decide +kernel
theorem dX11_feed_48 : decode cX11_feed 48 = .ok (.lload 4, 2) := by decide +kernel
theorem dX11_feed_50 : decode cX11_feed 50 = .ok (.l2i, 1) := by decide +kernel
theorem dX11_feed_51 : decode cX11_feed 51 = .ok (.i2b, 1) := by decide +kernel
theorem dX11_feed_52 : decode cX11_feed 52 = .ok (.invokevirtual 104, 3) := by decide +kernel
theorem dX11_feed_55 : decode cX11_feed 55 = .ok (.lload 4, 2) := by decide +kernel
theorem dX11_feed_57 : decode cX11_feed 57 = .ok (.bipush 8, 2) := by decide +kernel
theorem dX11_feed_59 : decode cX11_feed 59 = .ok (.lshr, 1) := by decide +kernel
theorem dX11_feed_60 : decode cX11_feed 60 = .ok (.lstore 4, 2) := by decide +kernel
theorem dX11_feed_62 : decode cX11_feed 62 = .ok (.iinc 6 1, 3) := by decide +kernel
