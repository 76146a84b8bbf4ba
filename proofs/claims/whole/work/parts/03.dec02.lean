theorem dX11_feed_65 : decode cX11_feed 65 = .ok (.goto (-27), 3) := by decide +kernel
theorem dX11_feed_68 : decode cX11_feed 68 = .ok (.aload_n 0, 1) := by decide +kernel
theorem dX11_feed_69 : decode cX11_feed 69 = .ok (.getfield 10, 3) := by decide +kernel
theorem dX11_feed_72 : decode cX11_feed 72 = .ok (.getfield 100, 3) := by decide +kernel
theorem dX11_feed_75 : decode cX11_feed 75 = .ok (.ireturn, 1) := by decide +kernel
theorem dX11_maze_0 : decode cX11_maze 0 = .ok (.aload_n 0, 1) := by decide +kernel
theorem dX11_maze_1 : decode cX11_maze 1 = .ok (.getfield 108, 3) := by decide +kernel
theorem dX11_maze_4 : decode cX11_maze 4 = .ok (.iconst 4, 1) := by decide +kernel
theorem dX11_maze_5 : decode cX11_maze 5 = .ok (.if_icmp .lt 6, 3) := by decide +kernel
theorem dX11_maze_8 : decode cX11_maze 8 = .ok (.bipush (-4), 2) := by decide +kernel
theorem dX11_maze_10 : decode cX11_maze 10 = .ok (.ireturn, 1) := by decide +kernel
theorem dX11_maze_11 : decode cX11_maze 11 = .ok (.aload_n 0, 1) := by decide +kernel
theorem dX11_maze_12 : decode cX11_maze 12 = .ok (.getfield 18, 3) := by decide +kernel
theorem dX11_maze_15 : decode cX11_maze 15 = .ok (.aload_n 0, 1) := by decide +kernel
theorem dX11_maze_16 : decode cX11_maze 16 = .ok (.getfield 108, 3) := by decide +kernel
theorem dX11_maze_19 : decode cX11_maze 19 = .ok (.aaload, 1) := by decide +kernel
theorem dX11_maze_20 : decode cX11_maze 20 = .ok (.aload_n 0, 1) := by decide +kernel
theorem dX11_maze_21 : decode cX11_maze 21 = .ok (.getfield 10, 3) := by decide +kernel
theorem dX11_maze_24 : decode cX11_maze 24 = .ok (.getfield 111, 3) := by decide +kernel
theorem dX11_maze_27 : decode cX11_maze 27 = .ok (.aload_n 0, 1) := by decide +kernel
theorem dX11_maze_28 : decode cX11_maze 28 = .ok (.getfield 10, 3) := by decide +kernel
theorem dX11_maze_31 : decode cX11_maze 31 = .ok (.getfield 100, 3) := by decide +kernel
theorem dX11_maze_34 : decode cX11_maze 34 = .ok (.invokevirtual 115, 3) := by decide +kernel
theorem dX11_maze_37 : decode cX11_maze 37 = .ok (.istore_n 1, 1) := by decide +kernel
theorem dX11_maze_38 : decode cX11_maze 38 = .ok (.aload_n 0, 1) := by decide +kernel
theorem dX11_maze_39 : decode cX11_maze 39 = .ok (.getfield 10, 3) := by decide +kernel
theorem dX11_maze_42 : decode cX11_maze 42 = .ok (.iconst 0, 1) := by decide +kernel
theorem dX11_maze_43 : decode cX11_maze 43 = .ok (.putfield 100, 3) := by decide +kernel
theorem dX11_maze_46 : decode cX11_maze 46 = .ok (.iload_n 1, 1) := by decide +kernel
theorem dX11_maze_47 : decode cX11_maze 47 = .ok (.iconst (-1), 1) := by decide +kernel
theorem dX11_maze_48 : decode cX11_maze 48 = .ok (.if_icmp .eq 8, 3) := by decide +kernel
theorem dX11_maze_51 : decode cX11_maze 51 = .ok (.bipush (-100), 2) := by decide +kernel
theorem dX11_maze_53 : decode cX11_maze 53 = .ok (.iload_n 1, 1) := by decide +kernel
theorem dX11_maze_54 : decode cX11_maze 54 = .ok (.isub, 1) := by decide +kernel
theorem dX11_maze_55 : decode cX11_maze 55 = .ok (.ireturn, 1) := by decide +kernel
theorem dX11_maze_56 : decode cX11_maze 56 = .ok (.aload_n 0, 1) := by decide +kernel
theorem dX11_maze_57 : decode cX11_maze 57 = .ok (.dup, 1) := by decide +kernel
theorem dX11_maze_58 : decode cX11_maze 58 = .ok (.getfield 108, 3) := by decide +kernel
theorem dX11_maze_61 : decode cX11_maze 61 = .ok (.iconst 1, 1) := by decide +kernel
theorem dX11_maze_62 : decode cX11_maze 62 = .ok (.iadd, 1) := by decide +kernel
theorem dX11_maze_63 : decode cX11_maze 63 = .ok (.putfield 108, 3) := by decide +kernel
theorem dX11_maze_66 : decode cX11_maze 66 = .ok (.aload_n 0, 1) := by decide +kernel
theorem dX11_maze_67 : decode cX11_maze 67 = .ok (.getfield 108, 3) := by decide +kernel
theorem dX11_maze_70 : decode cX11_maze 70 = .ok (.iconst 1, 1) := by decide +kernel
theorem dX11_maze_71 : decode cX11_maze 71 = .ok (.isub, 1) := by decide +kernel
theorem dX11_maze_72 : decode cX11_maze 72 = .ok (.ireturn, 1) := by decide +kernel
theorem dX11_text_0 : decode cX11_text 0 = .ok (.aload_n 0, 1) := by decide +kernel
theorem dX11_text_1 : decode cX11_text 1 = .ok (.getfield 119, 3) := by decide +kernel
theorem dX11_text_4 : decode cX11_text 4 = .ok (.bipush 6, 2) := by decide +kernel
theorem dX11_text_6 : decode cX11_text 6 = .ok (.if_icmp .lt 6, 3) := by decide +kernel
theorem dX11_text_9 : decode cX11_text 9 = .ok (.bipush (-4), 2) := by decide +kernel
theorem dX11_text_11 : decode cX11_text 11 = .ok (.ireturn, 1) := by decide +kernel
theorem dX11_text_12 : decode cX11_text 12 = .ok (.aload_n 0, 1) := by decide +kernel
theorem dX11_text_13 : decode cX11_text 13 = .ok (.getfield 10, 3) := by decide +kernel
theorem dX11_text_16 : decode cX11_text 16 = .ok (.invokevirtual 122, 3) := by decide +kernel
theorem dX11_text_19 : decode cX11_text 19 = .ok (.istore_n 1, 1) := by decide +kernel
theorem dX11_text_20 : decode cX11_text 20 = .ok (.aload_n 0, 1) := by decide +kernel
theorem dX11_text_21 : decode cX11_text 21 = .ok (.getfield 10, 3) := by decide +kernel
theorem dX11_text_24 : decode cX11_text 24 = .ok (.iconst 0, 1) := by decide +kernel
theorem dX11_text_25 : decode cX11_text 25 = .ok (.putfield 100, 3) := by decide +kernel
theorem dX11_text_28 : decode cX11_text 28 = .ok (.iload_n 1, 1) := by decide +kernel
theorem dX11_text_29 : decode cX11_text 29 = .ok (.iconst (-1), 1) := by decide +kernel
theorem dX11_text_30 : decode cX11_text 30 = .ok (.if_icmp .eq 8, 3) := by decide +kernel
theorem dX11_text_33 : decode cX11_text 33 = .ok (.bipush (-100), 2) := by decide +kernel
theorem dX11_text_35 : decode cX11_text 35 = .ok (.iload_n 1, 1) := by decide +kernel
theorem dX11_text_36 : decode cX11_text 36 = .ok (.isub, 1) := by decide +kernel
theorem dX11_text_37 : decode cX11_text 37 = .ok (.ireturn, 1) := by decide +kernel
theorem dX11_text_38 : decode cX11_text 38 = .ok (.aload_n 0, 1) := by decide +kernel
theorem dX11_text_39 : decode cX11_text 39 = .ok (.getfield 30, 3) := by decide +kernel
theorem dX11_text_42 : decode cX11_text 42 = .ok (.aload_n 0, 1) := by decide +kernel
theorem dX11_text_43 : decode cX11_text 43 = .ok (.getfield 119, 3) := by decide +kernel
theorem dX11_text_46 : decode cX11_text 46 = .ok (.aaload, 1) := by decide +kernel
theorem dX11_text_47 : decode cX11_text 47 = .ok (.aload_n 0, 1) := by decide +kernel
theorem dX11_text_48 : decode cX11_text 48 = .ok (.getfield 10, 3) := by decide +kernel
theorem dX11_text_51 : decode cX11_text 51 = .ok (.getfield 126, 3) := by decide +kernel
theorem dX11_text_54 : decode cX11_text 54 = .ok (.invokevirtual 130, 3) := by decide +kernel
theorem dX11_text_57 : decode cX11_text 57 = .ok (.aload_n 0, 1) := by decide +kernel
theorem dX11_text_58 : decode cX11_text 58 = .ok (.dup, 1) := by decide +kernel
theorem dX11_text_59 : decode cX11_text 59 = .ok (.getfield 119, 3) := by decide +kernel
theorem dX11_text_62 : decode cX11_text 62 = .ok (.iconst 1, 1) := by decide +kernel
theorem dX11_text_63 : decode cX11_text 63 = .ok (.iadd, 1) := by decide +kernel
theorem dX11_text_64 : decode cX11_text 64 = .ok (.putfield 119, 3) := by decide +kernel
theorem dX11_text_67 : decode cX11_text 67 = .ok (.aload_n 0, 1) := by decide +kernel
theorem dX11_text_68 : decode cX11_text 68 = .ok (.getfield 119, 3) := by decide +kernel
theorem dX11_text_71 : decode cX11_text 71 = .ok (.iconst 1, 1) := by decide +kernel
theorem dX11_text_72 : decode cX11_text 72 = .ok (.isub, 1) := by decide +kernel
theorem dX11_text_73 : decode cX11_text 73 = .ok (.ireturn, 1) := by decide +kernel
theorem dX11_force_0 : decode cX11_force 0 = .ok (.iload_n 1, 1) := by decide +kernel
theorem dX11_force_1 : decode cX11_force 1 = .ok (.aload_n 0, 1) := by decide +kernel
theorem dX11_force_2 : decode cX11_force 2 = .ok (.getfield 119, 3) := by decide +kernel
theorem dX11_force_5 : decode cX11_force 5 = .ok (.invokestatic 134, 3) := by decide +kernel
theorem dX11_force_8 : decode cX11_force 8 = .ok (.ifCond .ne 6, 3) := by decide +kernel
theorem dX11_force_11 : decode cX11_force 11 = .ok (.bipush (-2), 2) := by decide +kernel
theorem dX11_force_13 : decode cX11_force 13 = .ok (.ireturn, 1) := by decide +kernel
theorem dX11_force_14 : decode cX11_force 14 = .ok (.aload_n 0, 1) := by decide +kernel
theorem dX11_force_15 : decode cX11_force 15 = .ok (.getfield 138, 3) := by decide +kernel
theorem dX11_force_18 : decode cX11_force 18 = .ok (.istore_n 2, 1) := by decide +kernel
theorem dX11_force_19 : decode cX11_force 19 = .ok (.aload_n 0, 1) := by decide +kernel
theorem dX11_force_20 : decode cX11_force 20 = .ok (.iload_n 1, 1) := by decide +kernel
theorem dX11_force_21 : decode cX11_force 21 = .ok (.putfield 138, 3) := by decide +kernel
theorem dX11_force_24 : decode cX11_force 24 = .ok (.iload_n 2, 1) := by decide +kernel
theorem dX11_force_25 : decode cX11_force 25 = .ok (.ireturn, 1) := by decide +kernel
theorem dX11_leads_0 : decode cX11_leads 0 = .ok (.aload_n 0, 1) := by decide +kernel
theorem dX11_leads_1 : decode cX11_leads 1 = .ok (.iload_n 1, 1) := by decide +kernel
theorem dX11_leads_2 : decode cX11_leads 2 = .ok (.invokevirtual 141, 3) := by decide +kernel
theorem dX11_leads_5 : decode cX11_leads 5 = .ok (.astore 4, 2) := by decide +kernel
theorem dX11_leads_7 : decode cX11_leads 7 = .ok (.aload 4, 2) := by decide +kernel
theorem dX11_leads_9 : decode cX11_leads 9 = .ok (.ifnonnull 6, 3) := by decide +kernel
theorem dX11_leads_12 : decode cX11_leads 12 = .ok (.bipush (-2), 2) := by decide +kernel
theorem dX11_leads_14 : decode cX11_leads 14 = .ok (.ireturn, 1) := by decide +kernel
theorem dX11_leads_15 : decode cX11_leads 15 = .ok (.iload_n 2, 1) := by decide +kernel
theorem dX11_leads_16 : decode cX11_leads 16 = .ok (.iconst (-1), 1) := by decide +kernel
theorem dX11_leads_17 : decode cX11_leads 17 = .ok (.if_icmp .ne 9, 3) := by decide +kernel
theorem dX11_leads_20 : decode cX11_leads 20 = .ok (.aload 4, 2) := by decide +kernel
theorem dX11_leads_22 : decode cX11_leads 22 = .ok (.getfield 145, 3) := by decide +kernel
theorem dX11_leads_25 : decode cX11_leads 25 = .ok (.ireturn, 1) := by decide +kernel
theorem dX11_leads_26 : decode cX11_leads 26 = .ok (.aload 4, 2) := by decide +kernel
theorem dX11_leads_28 : decode cX11_leads 28 = .ok (.iload_n 2, 1) := by decide +kernel
theorem dX11_leads_29 : decode cX11_leads 29 = .ok (.invokevirtual 148, 3) := by decide +kernel
theorem dX11_leads_32 : decode cX11_leads 32 = .ok (.ifCond .eq 11, 3) := by decide +kernel
theorem dX11_leads_35 : decode cX11_leads 35 = .ok (.iload_n 3, 1) := by decide +kernel
theorem dX11_leads_36 : decode cX11_leads 36 = .ok (.iconst 4, 1) := by decide +kernel
theorem dX11_leads_37 : decode cX11_leads 37 = .ok (.invokestatic 134, 3) := by decide +kernel
theorem dX11_leads_40 : decode cX11_leads 40 = .ok (.ifCond .ne 6, 3) := by decide +kernel
theorem dX11_leads_43 : decode cX11_leads 43 = .ok (.bipush (-2), 2) := by decide +kernel
theorem dX11_leads_45 : decode cX11_leads 45 = .ok (.ireturn, 1) := by decide +kernel
theorem dX11_leads_46 : decode cX11_leads 46 = .ok (.aload 4, 2) := by decide +kernel
theorem dX11_leads_48 : decode cX11_leads 48 = .ok (.iload_n 2, 1) := by decide +kernel
theorem dX11_leads_49 : decode cX11_leads 49 = .ok (.iload_n 3, 1) := by decide +kernel
theorem dX11_leads_50 : decode cX11_leads 50 = .ok (.invokevirtual 152, 3) := by decide +kernel
theorem dX11_leads_53 : decode cX11_leads 53 = .ok (.ireturn, 1) := by decide +kernel
theorem dX11_pebbles_0 : decode cX11_pebbles 0 = .ok (.aload_n 0, 1) := by decide +kernel
theorem dX11_pebbles_1 : decode cX11_pebbles 1 = .ok (.iload_n 1, 1) := by decide +kernel
theorem dX11_pebbles_2 : decode cX11_pebbles 2 = .ok (.invokevirtual 141, 3) := by decide +kernel
theorem dX11_pebbles_5 : decode cX11_pebbles 5 = .ok (.astore 4, 2) := by decide +kernel
theorem dX11_pebbles_7 : decode cX11_pebbles 7 = .ok (.aload 4, 2) := by decide +kernel
theorem dX11_pebbles_9 : decode cX11_pebbles 9 = .ok (.ifnull 22, 3) := by decide +kernel
theorem dX11_pebbles_12 : decode cX11_pebbles 12 = .ok (.aload 4, 2) := by decide +kernel
theorem dX11_pebbles_14 : decode cX11_pebbles 14 = .ok (.iload_n 2, 1) := by decide +kernel
theorem dX11_pebbles_15 : decode cX11_pebbles 15 = .ok (.invokevirtual 148, 3) := by decide +kernel
theorem dX11_pebbles_18 : decode cX11_pebbles 18 = .ok (.ifCond .eq 13, 3) := by decide +kernel
theorem dX11_pebbles_21 : decode cX11_pebbles 21 = .ok (.iload_n 3, 1) := by decide +kernel
theorem dX11_pebbles_22 : decode cX11_pebbles 22 = .ok (.ifCond .lt 9, 3) := by decide +kernel
theorem dX11_pebbles_25 : decode cX11_pebbles 25 = .ok (.iload_n 3, 1) := by decide +kernel
theorem dX11_pebbles_26 : decode cX11_pebbles 26 = .ok (.bipush 99, 2) := by decide +kernel
theorem dX11_pebbles_28 : decode cX11_pebbles 28 = .ok (.if_icmp .le 6, 3) := by decide +kernel
theorem dX11_pebbles_31 : decode cX11_pebbles 31 = .ok (.bipush (-2), 2) := by decide +kernel
theorem dX11_pebbles_33 : decode cX11_pebbles 33 = .ok (.ireturn, 1) := by decide +kernel
theorem dX11_pebbles_34 : decode cX11_pebbles 34 = .ok (.aload 4, 2) := by decide +kernel
theorem dX11_pebbles_36 : decode cX11_pebbles 36 = .ok (.getfield 156, 3) := by decide +kernel
theorem dX11_pebbles_39 : decode cX11_pebbles 39 = .ok (.iload_n 2, 1) := by decide +kernel
theorem dX11_pebbles_40 : decode cX11_pebbles 40 = .ok (.invokestatic 159, 3) := by decide +kernel
theorem dX11_pebbles_43 : decode cX11_pebbles 43 = .ok (.istore 5, 2) := by decide +kernel
theorem dX11_pebbles_45 : decode cX11_pebbles 45 = .ok (.aload 4, 2) := by decide +kernel
theorem dX11_pebbles_47 : decode cX11_pebbles 47 = .ok (.getfield 156, 3) := by decide +kernel
theorem dX11_pebbles_50 : decode cX11_pebbles 50 = .ok (.iload_n 2, 1) := by decide +kernel
theorem dX11_pebbles_51 : decode cX11_pebbles 51 = .ok (.iload_n 3, 1) := by decide +kernel
theorem dX11_pebbles_52 : decode cX11_pebbles 52 = .ok (.invokestatic 163, 3) := by decide +kernel
theorem dX11_pebbles_55 : decode cX11_pebbles 55 = .ok (.iload 5, 2) := by decide +kernel
theorem dX11_pebbles_57 : decode cX11_pebbles 57 = .ok (.ireturn, 1) := by decide +kernel
theorem dX11_walker_0 : decode cX11_walker 0 = .ok (.aload_n 0, 1) := by decide +kernel
theorem dX11_walker_1 : decode cX11_walker 1 = .ok (.iload_n 2, 1) := by decide +kernel
theorem dX11_walker_2 : decode cX11_walker 2 = .ok (.bipush 10, 2) := by decide +kernel
theorem dX11_walker_4 : decode cX11_walker 4 = .ok (.idiv, 1) := by decide +kernel
theorem dX11_walker_5 : decode cX11_walker 5 = .ok (.invokevirtual 141, 3) := by decide +kernel
theorem dX11_walker_8 : decode cX11_walker 8 = .ok (.astore 4, 2) := by decide +kernel
theorem dX11_walker_10 : decode cX11_walker 10 = .ok (.iload_n 3, 1) := by decide +kernel
theorem dX11_walker_11 : decode cX11_walker 11 = .ok (.bipush 100, 2) := by decide +kernel
theorem dX11_walker_13 : decode cX11_walker 13 = .ok (.idiv, 1) := by decide +kernel
theorem dX11_walker_14 : decode cX11_walker 14 = .ok (.istore 5, 2) := by decide +kernel
theorem dX11_walker_16 : decode cX11_walker 16 = .ok (.iload_n 3, 1) := by decide +kernel
theorem dX11_walker_17 : decode cX11_walker 17 = .ok (.bipush 100, 2) := by decide +kernel
theorem dX11_walker_19 : decode cX11_walker 19 = .ok (.irem, 1) := by decide +kernel
theorem dX11_walker_20 : decode cX11_walker 20 = .ok (.istore 6, 2) := by decide +kernel
theorem dX11_walker_22 : decode cX11_walker 22 = .ok (.iload_n 1, 1) := by decide +kernel
theorem dX11_walker_23 : decode cX11_walker 23 = .ok (.bipush 6, 2) := by decide +kernel
theorem dX11_walker_25 : decode cX11_walker 25 = .ok (.invokestatic 134, 3) := by decide +kernel
theorem dX11_walker_28 : decode cX11_walker 28 = .ok (.ifCond .eq 20, 3) := by decide +kernel
theorem dX11_walker_31 : decode cX11_walker 31 = .ok (.aload 4, 2) := by decide +kernel
theorem dX11_walker_33 : decode cX11_walker 33 = .ok (.ifnull 15, 3) := by decide +kernel
theorem dX11_walker_36 : decode cX11_walker 36 = .ok (.aload 4, 2) := by decide +kernel
theorem dX11_walker_38 : decode cX11_walker 38 = .ok (.iload_n 2, 1) := by decide +kernel
theorem dX11_walker_39 : decode cX11_walker 39 = .ok (.bipush 10, 2) := by decide +kernel
theorem dX11_walker_41 : decode cX11_walker 41 = .ok (.irem, 1) := by decide +kernel
theorem dX11_walker_42 : decode cX11_walker 42 = .ok (.invokevirtual 148, 3) := by decide +kernel
theorem dX11_walker_45 : decode cX11_walker 45 = .ok (.ifCond .ne 6, 3) := by decide +kernel
theorem dX11_walker_48 : decode cX11_walker 48 = .ok (.bipush (-2), 2) := by decide +kernel
theorem dX11_walker_50 : decode cX11_walker 50 = .ok (.ireturn, 1) := by decide +kernel
theorem dX11_walker_51 : decode cX11_walker 51 = .ok (.iload 5, 2) := by decide +kernel
theorem dX11_walker_53 : decode cX11_walker 53 = .ok (.ifCond .lt 22, 3) := by decide +kernel
theorem dX11_walker_56 : decode cX11_walker 56 = .ok (.iload 5, 2) := by decide +kernel
theorem dX11_walker_58 : decode cX11_walker 58 = .ok (.bipush 9, 2) := by decide +kernel
theorem dX11_walker_60 : decode cX11_walker 60 = .ok (.if_icmp .gt 15, 3) := by decide +kernel
theorem dX11_walker_63 : decode cX11_walker 63 = .ok (.iload 6, 2) := by decide +kernel
theorem dX11_walker_65 : decode cX11_walker 65 = .ok (.ifCond .lt 10, 3) := by decide +kernel
theorem dX11_walker_68 : decode cX11_walker 68 = .ok (.iload 6, 2) := by decide +kernel
theorem dX11_walker_70 : decode cX11_walker 70 = .ok (.bipush 11, 2) := by decide +kernel
theorem dX11_walker_72 : decode cX11_walker 72 = .ok (.if_icmp .le 6, 3) := by decide +kernel
theorem dX11_walker_75 : decode cX11_walker 75 = .ok (.bipush (-2), 2) := by decide +kernel
theorem dX11_walker_77 : decode cX11_walker 77 = .ok (.ireturn, 1) := by decide +kernel
theorem dX11_walker_78 : decode cX11_walker 78 = .ok (.aload_n 0, 1) := by decide +kernel
theorem dX11_walker_79 : decode cX11_walker 79 = .ok (.getfield 167, 3) := by decide +kernel
theorem dX11_walker_82 : decode cX11_walker 82 = .ok (.bipush 8, 2) := by decide +kernel
theorem dX11_walker_84 : decode cX11_walker 84 = .ok (.if_icmp .lt 6, 3) := by decide +kernel
theorem dX11_walker_87 : decode cX11_walker 87 = .ok (.bipush (-4), 2) := by decide +kernel
theorem dX11_walker_89 : decode cX11_walker 89 = .ok (.ireturn, 1) := by decide +kernel
theorem dX11_walker_90 : decode cX11_walker 90 = .ok (.aload_n 0, 1) := by decide +kernel
theorem dX11_walker_91 : decode cX11_walker 91 = .ok (.getfield 24, 3) := by decide +kernel
theorem dX11_walker_94 : decode cX11_walker 94 = .ok (.aload_n 0, 1) := by decide +kernel
theorem dX11_walker_95 : decode cX11_walker 95 = .ok (.getfield 167, 3) := by decide +kernel
theorem dX11_walker_98 : decode cX11_walker 98 = .ok (.aaload, 1) := by decide +kernel
theorem dX11_walker_99 : decode cX11_walker 99 = .ok (.astore 7, 2) := by decide +kernel
theorem dX11_walker_101 : decode cX11_walker 101 = .ok (.aload 7, 2) := by decide +kernel
theorem dX11_walker_103 : decode cX11_walker 103 = .ok (.iload_n 1, 1) := by decide +kernel
theorem dX11_walker_104 : decode cX11_walker 104 = .ok (.putfield 170, 3) := by decide +kernel
theorem dX11_walker_107 : decode cX11_walker 107 = .ok (.aload 7, 2) := by decide +kernel
theorem dX11_walker_109 : decode cX11_walker 109 = .ok (.iload_n 2, 1) := by decide +kernel
theorem dX11_walker_110 : decode cX11_walker 110 = .ok (.bipush 10, 2) := by decide +kernel
theorem dX11_walker_112 : decode cX11_walker 112 = .ok (.idiv, 1) := by decide +kernel
theorem dX11_walker_113 : decode cX11_walker 113 = .ok (.putfield 173, 3) := by decide +kernel
theorem dX11_walker_116 : decode cX11_walker 116 = .ok (.aload 7, 2) := by decide +kernel
theorem dX11_walker_118 : decode cX11_walker 118 = .ok (.iload_n 2, 1) := by decide +kernel
theorem dX11_walker_119 : decode cX11_walker 119 = .ok (.bipush 10, 2) := by decide +kernel
theorem dX11_walker_121 : decode cX11_walker 121 = .ok (.irem, 1) := by decide +kernel
theorem dX11_walker_122 : decode cX11_walker 122 = .ok (.putfield 176, 3) := by decide +kernel
theorem dX11_walker_125 : decode cX11_walker 125 = .ok (.aload 7, 2) := by decide +kernel
theorem dX11_walker_127 : decode cX11_walker 127 = .ok (.iload 5, 2) := by decide +kernel
theorem dX11_walker_129 : decode cX11_walker 129 = .ok (.putfield 179, 3) := by decide +kernel
theorem dX11_walker_132 : decode cX11_walker 132 = .ok (.aload 7, 2) := by decide +kernel
theorem dX11_walker_134 : decode cX11_walker 134 = .ok (.iload 6, 2) := by decide +kernel
theorem dX11_walker_136 : decode cX11_walker 136 = .ok (.putfield 182, 3) := by decide +kernel
theorem dX11_walker_139 : decode cX11_walker 139 = .ok (.aload_n 0, 1) := by decide +kernel
theorem dX11_walker_140 : decode cX11_walker 140 = .ok (.dup, 1) := by decide +kernel
theorem dX11_walker_141 : decode cX11_walker 141 = .ok (.getfield 167, 3) := by decide +kernel
theorem dX11_walker_144 : decode cX11_walker 144 = .ok (.iconst 1, 1) := by decide +kernel
theorem dX11_walker_145 : decode cX11_walker 145 = .ok (.iadd, 1) := by decide +kernel
theorem dX11_walker_146 : decode cX11_walker 146 = .ok (.putfield 167, 3) := by decide +kernel
theorem dX11_walker_149 : decode cX11_walker 149 = .ok (.aload_n 0, 1) := by decide +kernel
theorem dX11_walker_150 : decode cX11_walker 150 = .ok (.getfield 167, 3) := by decide +kernel
theorem dX11_walker_153 : decode cX11_walker 153 = .ok (.iconst 1, 1) := by decide +kernel
theorem dX11_walker_154 : decode cX11_walker 154 = .ok (.isub, 1) := by decide +kernel
theorem dX11_walker_155 : decode cX11_walker 155 = .ok (.ireturn, 1) := by decide +kernel
theorem dX11_told_0 : decode cX11_told 0 = .ok (.aload_n 0, 1) := by decide +kernel
theorem dX11_told_1 : decode cX11_told 1 = .ok (.iload_n 1, 1) := by decide +kernel
theorem dX11_told_2 : decode cX11_told 2 = .ok (.invokevirtual 185, 3) := by decide +kernel
theorem dX11_told_5 : decode cX11_told 5 = .ok (.astore_n 3, 1) := by decide +kernel
theorem dX11_told_6 : decode cX11_told 6 = .ok (.aload_n 3, 1) := by decide +kernel
theorem dX11_told_7 : decode cX11_told 7 = .ok (.ifnonnull 6, 3) := by decide +kernel
theorem dX11_told_10 : decode cX11_told 10 = .ok (.bipush (-5), 2) := by decide +kernel
theorem dX11_told_12 : decode cX11_told 12 = .ok (.ireturn, 1) := by decide +kernel
theorem dX11_told_13 : decode cX11_told 13 = .ok (.iload_n 2, 1) := by decide +kernel
theorem dX11_told_14 : decode cX11_told 14 = .ok (.tableswitch 96 0 8 #[50, 55, 60, 65, 70, 75, 80, 85, 91], 50) := by decide +kernel
theorem dX11_told_64 : decode cX11_told 64 = .ok (.aload_n 3, 1) := by decide +kernel
theorem dX11_told_65 : decode cX11_told 65 = .ok (.getfield 170, 3) := by decide +kernel
theorem dX11_told_68 : decode cX11_told 68 = .ok (.ireturn, 1) := by decide +kernel
theorem dX11_told_69 : decode cX11_told 69 = .ok (.aload_n 3, 1) := by decide +kernel
theorem dX11_told_70 : decode cX11_told 70 = .ok (.getfield 173, 3) := by decide +kernel
theorem dX11_told_73 : decode cX11_told 73 = .ok (.ireturn, 1) := by decide +kernel
theorem dX11_told_74 : decode cX11_told 74 = .ok (.aload_n 3, 1) := by decide +kernel
theorem dX11_told_75 : decode cX11_told 75 = .ok (.getfield 176, 3) := by decide +kernel
theorem dX11_told_78 : decode cX11_told 78 = .ok (.ireturn, 1) := by decide +kernel
theorem dX11_told_79 : decode cX11_told 79 = .ok (.aload_n 3, 1) := by decide +kernel
theorem dX11_told_80 : decode cX11_told 80 = .ok (.getfield 189, 3) := by decide +kernel
theorem dX11_told_83 : decode cX11_told 83 = .ok (.ireturn, 1) := by decide +kernel
theorem dX11_told_84 : decode cX11_told 84 = .ok (.aload_n 3, 1) := by decide +kernel
theorem dX11_told_85 : decode cX11_told 85 = .ok (.getfield 179, 3) := by decide +kernel
theorem dX11_told_88 : decode cX11_told 88 = .ok (.ireturn, 1) := by decide +kernel
theorem dX11_told_89 : decode cX11_told 89 = .ok (.aload_n 3, 1) := by decide +kernel
theorem dX11_told_90 : decode cX11_told 90 = .ok (.getfield 182, 3) := by decide +kernel
theorem dX11_told_93 : decode cX11_told 93 = .ok (.ireturn, 1) := by decide +kernel
theorem dX11_told_94 : decode cX11_told 94 = .ok (.aload_n 3, 1) := by decide +kernel
theorem dX11_told_95 : decode cX11_told 95 = .ok (.getfield 192, 3) := by decide +kernel
theorem dX11_told_98 : decode cX11_told 98 = .ok (.ireturn, 1) := by decide +kernel
theorem dX11_told_99 : decode cX11_told 99 = .ok (.aload_n 0, 1) := by decide +kernel
theorem dX11_told_100 : decode cX11_told 100 = .ok (.aload_n 3, 1) := by decide +kernel
theorem dX11_told_101 : decode cX11_told 101 = .ok (.invokevirtual 195, 3) := by decide +kernel
theorem dX11_told_104 : decode cX11_told 104 = .ok (.ireturn, 1) := by decide +kernel
theorem dX11_told_105 : decode cX11_told 105 = .ok (.aload_n 3, 1) := by decide +kernel
theorem dX11_told_106 : decode cX11_told 106 = .ok (.invokevirtual 199, 3) := by decide +kernel
theorem dX11_told_109 : decode cX11_told 109 = .ok (.ireturn, 1) := by decide +kernel
theorem dX11_told_110 : decode cX11_told 110 = .ok (.bipush (-5), 2) := by decide +kernel
theorem dX11_told_112 : decode cX11_told 112 = .ok (.ireturn, 1) := by decide +kernel
theorem dX11_says_0 : decode cX11_says 0 = .ok (.aload_n 0, 1) := by decide +kernel
theorem dX11_says_1 : decode cX11_says 1 = .ok (.iload_n 1, 1) := by decide +kernel
theorem dX11_says_2 : decode cX11_says 2 = .ok (.invokevirtual 185, 3) := by decide +kernel
theorem dX11_says_5 : decode cX11_says 5 = .ok (.astore_n 3, 1) := by decide +kernel
theorem dX11_says_6 : decode cX11_says 6 = .ok (.aload_n 3, 1) := by decide +kernel
theorem dX11_says_7 : decode cX11_says 7 = .ok (.ifnull 11, 3) := by decide +kernel
theorem dX11_says_10 : decode cX11_says 10 = .ok (.iload_n 2, 1) := by decide +kernel
theorem dX11_says_11 : decode cX11_says 11 = .ok (.iconst 3, 1) := by decide +kernel
theorem dX11_says_12 : decode cX11_says 12 = .ok (.invokestatic 134, 3) := by decide +kernel
theorem dX11_says_15 : decode cX11_says 15 = .ok (.ifCond .ne 6, 3) := by decide +kernel
theorem dX11_says_18 : decode cX11_says 18 = .ok (.ldc 202, 2) := by decide +kernel
theorem dX11_says_20 : decode cX11_says 20 = .ok (.ireturn, 1) := by decide +kernel
theorem dX11_says_21 : decode cX11_says 21 = .ok (.aload_n 0, 1) := by decide +kernel
theorem dX11_says_22 : decode cX11_says 22 = .ok (.aload_n 3, 1) := by decide +kernel
theorem dX11_says_23 : decode cX11_says 23 = .ok (.getfield 173, 3) := by decide +kernel
theorem dX11_says_26 : decode cX11_says 26 = .ok (.invokevirtual 141, 3) := by decide +kernel
theorem dX11_says_29 : decode cX11_says 29 = .ok (.astore 4, 2) := by decide +kernel
theorem dX11_says_31 : decode cX11_says 31 = .ok (.aload 4, 2) := by decide +kernel
theorem dX11_says_33 : decode cX11_says 33 = .ok (.ifnonnull 6, 3) := by decide +kernel
theorem dX11_says_36 : decode cX11_says 36 = .ok (.ldc 202, 2) := by decide +kernel
theorem dX11_says_38 : decode cX11_says 38 = .ok (.ireturn, 1) := by decide +kernel
theorem dX11_says_39 : decode cX11_says 39 = .ok (.aload_n 0, 1) := by decide +kernel
theorem dX11_says_40 : decode cX11_says 40 = .ok (.getfield 50, 3) := by decide +kernel
theorem dX11_says_43 : decode cX11_says 43 = .ok (.aload_n 3, 1) := by decide +kernel
theorem dX11_says_44 : decode cX11_says 44 = .ok (.aload 4, 2) := by decide +kernel
theorem dX11_says_46 : decode cX11_says 46 = .ok (.aload 4, 2) := by decide +kernel
theorem dX11_says_48 : decode cX11_says 48 = .ok (.getfield 156, 3) := by decide +kernel
theorem dX11_says_51 : decode cX11_says 51 = .ok (.invokevirtual 203, 3) := by decide +kernel
theorem dX11_says_54 : decode cX11_says 54 = .ok (.aload_n 0, 1) := by decide +kernel
theorem dX11_says_55 : decode cX11_says 55 = .ok (.iload_n 2, 1) := by decide +kernel
theorem dX11_says_56 : decode cX11_says 56 = .ok (.invokevirtual 207, 3) := by decide +kernel
theorem dX11_says_59 : decode cX11_says 59 = .ok (.ireturn, 1) := by decide +kernel
theorem dX11_step_0 : decode cX11_step 0 = .ok (.aload_n 0, 1) := by decide +kernel
theorem dX11_step_1 : decode cX11_step 1 = .ok (.iload_n 1, 1) := by decide +kernel
theorem dX11_step_2 : decode cX11_step 2 = .ok (.invokevirtual 185, 3) := by decide +kernel
theorem dX11_step_5 : decode cX11_step 5 = .ok (.astore_n 3, 1) := by decide +kernel
theorem dX11_step_6 : decode cX11_step 6 = .ok (.aload_n 3, 1) := by decide +kernel
theorem dX11_step_7 : decode cX11_step 7 = .ok (.ifnull 14, 3) := by decide +kernel
theorem dX11_step_10 : decode cX11_step 10 = .ok (.iload_n 2, 1) := by decide +kernel
theorem dX11_step_11 : decode cX11_step 11 = .ok (.iconst 1, 1) := by decide +kernel
theorem dX11_step_12 : decode cX11_step 12 = .ok (.if_icmp .lt 9, 3) := by decide +kernel
theorem dX11_step_15 : decode cX11_step 15 = .ok (.iload_n 2, 1) := by decide +kernel
theorem dX11_step_16 : decode cX11_step 16 = .ok (.bipush 100, 2) := by decide +kernel
theorem dX11_step_18 : decode cX11_step 18 = .ok (.if_icmp .le 6, 3) := by decide +kernel
theorem dX11_step_21 : decode cX11_step 21 = .ok (.bipush (-2), 2) := by decide +kernel
theorem dX11_step_23 : decode cX11_step 23 = .ok (.ireturn, 1) := by decide +kernel
theorem dX11_step_24 : decode cX11_step 24 = .ok (.aload_n 0, 1) := by decide +kernel
theorem dX11_step_25 : decode cX11_step 25 = .ok (.aload_n 3, 1) := by decide +kernel
theorem dX11_step_26 : decode cX11_step 26 = .ok (.getfield 173, 3) := by decide +kernel
theorem dX11_step_29 : decode cX11_step 29 = .ok (.invokevirtual 141, 3) := by decide +kernel
theorem dX11_step_32 : decode cX11_step 32 = .ok (.astore 4, 2) := by decide +kernel
theorem dX11_step_34 : decode cX11_step 34 = .ok (.aload 4, 2) := by decide +kernel
theorem dX11_step_36 : decode cX11_step 36 = .ok (.ifnonnull 6, 3) := by decide +kernel
theorem dX11_step_39 : decode cX11_step 39 = .ok (.bipush (-2), 2) := by decide +kernel
theorem dX11_step_41 : decode cX11_step 41 = .ok (.ireturn, 1) := by decide +kernel
theorem dX11_step_42 : decode cX11_step 42 = .ok (.iconst 0, 1) := by decide +kernel
theorem dX11_step_43 : decode cX11_step 43 = .ok (.istore 5, 2) := by decide +kernel
theorem dX11_step_45 : decode cX11_step 45 = .ok (.iload 5, 2) := by decide +kernel
theorem dX11_step_47 : decode cX11_step 47 = .ok (.iload_n 2, 1) := by decide +kernel
theorem dX11_step_48 : decode cX11_step 48 = .ok (.if_icmp .ge 21, 3) := by decide +kernel
theorem dX11_step_51 : decode cX11_step 51 = .ok (.aload_n 0, 1) := by decide +kernel
theorem dX11_step_52 : decode cX11_step 52 = .ok (.aload_n 3, 1) := by decide +kernel
theorem dX11_step_53 : decode cX11_step 53 = .ok (.aload 4, 2) := by decide +kernel
theorem dX11_step_55 : decode cX11_step 55 = .ok (.aload 4, 2) := by decide +kernel
theorem dX11_step_57 : decode cX11_step 57 = .ok (.getfield 156, 3) := by decide +kernel
theorem dX11_step_60 : decode cX11_step 60 = .ok (.invokevirtual 211, 3) := by decide +kernel
theorem dX11_step_63 : decode cX11_step 63 = .ok (.iinc 5 1, 3) := by decide +kernel
theorem dX11_step_66 : decode cX11_step 66 = .ok (.goto (-21), 3) := by decide +kernel
theorem dX11_step_69 : decode cX11_step 69 = .ok (.aload_n 3, 1) := by decide +kernel
theorem dX11_step_70 : decode cX11_step 70 = .ok (.getfield 176, 3) := by decide +kernel
theorem dX11_step_73 : decode cX11_step 73 = .ok (.ireturn, 1) := by decide +kernel
theorem dX11_run_0 : decode cX11_run 0 = .ok (.aload_n 0, 1) := by decide +kernel
theorem dX11_run_1 : decode cX11_run 1 = .ok (.iload_n 1, 1) := by decide +kernel
theorem dX11_run_2 : decode cX11_run 2 = .ok (.invokevirtual 185, 3) := by decide +kernel
theorem dX11_run_5 : decode cX11_run 5 = .ok (.astore 4, 2) := by decide +kernel
theorem dX11_run_7 : decode cX11_run 7 = .ok (.aload 4, 2) := by decide +kernel
theorem dX11_run_9 : decode cX11_run 9 = .ok (.ifnull 22, 3) := by decide +kernel
theorem dX11_run_12 : decode cX11_run 12 = .ok (.iload_n 2, 1) := by decide +kernel
theorem dX11_run_13 : decode cX11_run 13 = .ok (.ifCond .lt 18, 3) := by decide +kernel
theorem dX11_run_16 : decode cX11_run 16 = .ok (.iload_n 2, 1) := by decide +kernel
theorem dX11_run_17 : decode cX11_run 17 = .ok (.sipush 200, 3) := by decide +kernel
theorem dX11_run_20 : decode cX11_run 20 = .ok (.if_icmp .gt 11, 3) := by decide +kernel
theorem dX11_run_23 : decode cX11_run 23 = .ok (.iload_n 3, 1) := by decide +kernel
theorem dX11_run_24 : decode cX11_run 24 = .ok (.iconst 3, 1) := by decide +kernel
theorem dX11_run_25 : decode cX11_run 25 = .ok (.invokestatic 134, 3) := by decide +kernel
theorem dX11_run_28 : decode cX11_run 28 = .ok (.ifCond .ne 6, 3) := by decide +kernel
theorem dX11_run_31 : decode cX11_run 31 = .ok (.bipush (-2), 2) := by decide +kernel
theorem dX11_run_33 : decode cX11_run 33 = .ok (.ireturn, 1) := by decide +kernel
theorem dX11_run_34 : decode cX11_run 34 = .ok (.aload_n 0, 1) := by decide +kernel
theorem dX11_run_35 : decode cX11_run 35 = .ok (.aload 4, 2) := by decide +kernel
theorem dX11_run_37 : decode cX11_run 37 = .ok (.getfield 173, 3) := by decide +kernel
theorem dX11_run_40 : decode cX11_run 40 = .ok (.invokevirtual 141, 3) := by decide +kernel
theorem dX11_run_43 : decode cX11_run 43 = .ok (.astore 5, 2) := by decide +kernel
theorem dX11_run_45 : decode cX11_run 45 = .ok (.aload 5, 2) := by decide +kernel
theorem dX11_run_47 : decode cX11_run 47 = .ok (.ifnonnull 6, 3) := by decide +kernel
theorem dX11_run_50 : decode cX11_run 50 = .ok (.bipush (-2), 2) := by decide +kernel
theorem dX11_run_52 : decode cX11_run 52 = .ok (.ireturn, 1) := by decide +kernel
theorem dX11_run_53 : decode cX11_run 53 = .ok (.aload_n 0, 1) := by decide +kernel
theorem dX11_run_54 : decode cX11_run 54 = .ok (.getfield 55, 3) := by decide +kernel
theorem dX11_run_57 : decode cX11_run 57 = .ok (.aload 4, 2) := by decide +kernel
theorem dX11_run_59 : decode cX11_run 59 = .ok (.invokevirtual 214, 3) := by decide +kernel
theorem dX11_run_62 : decode cX11_run 62 = .ok (.aload 5, 2) := by decide +kernel
theorem dX11_run_64 : decode cX11_run 64 = .ok (.getfield 156, 3) := by decide +kernel
theorem dX11_run_67 : decode cX11_run 67 = .ok (.aload_n 0, 1) := by decide +kernel
theorem dX11_run_68 : decode cX11_run 68 = .ok (.getfield 62, 3) := by decide +kernel
theorem dX11_run_71 : decode cX11_run 71 = .ok (.invokestatic 217, 3) := by decide +kernel
theorem dX11_run_74 : decode cX11_run 74 = .ok (.iconst 0, 1) := by decide +kernel
theorem dX11_run_75 : decode cX11_run 75 = .ok (.istore 6, 2) := by decide +kernel
theorem dX11_run_77 : decode cX11_run 77 = .ok (.iload 6, 2) := by decide +kernel
theorem dX11_run_79 : decode cX11_run 79 = .ok (.iload_n 2, 1) := by decide +kernel
theorem dX11_run_80 : decode cX11_run 80 = .ok (.if_icmp .ge 23, 3) := by decide +kernel
theorem dX11_run_83 : decode cX11_run 83 = .ok (.aload_n 0, 1) := by decide +kernel
theorem dX11_run_84 : decode cX11_run 84 = .ok (.aload_n 0, 1) := by decide +kernel
theorem dX11_run_85 : decode cX11_run 85 = .ok (.getfield 55, 3) := by decide +kernel
theorem dX11_run_88 : decode cX11_run 88 = .ok (.aload 5, 2) := by decide +kernel
theorem dX11_run_90 : decode cX11_run 90 = .ok (.aload_n 0, 1) := by decide +kernel
theorem dX11_run_91 : decode cX11_run 91 = .ok (.getfield 62, 3) := by decide +kernel
theorem dX11_run_94 : decode cX11_run 94 = .ok (.invokevirtual 211, 3) := by decide +kernel
theorem dX11_run_97 : decode cX11_run 97 = .ok (.iinc 6 1, 3) := by decide +kernel
theorem dX11_run_100 : decode cX11_run 100 = .ok (.goto (-23), 3) := by decide +kernel
theorem dX11_run_103 : decode cX11_run 103 = .ok (.iload_n 3, 1) := by decide +kernel
theorem dX11_run_104 : decode cX11_run 104 = .ok (.ifCond .ne 11, 3) := by decide +kernel
theorem dX11_run_107 : decode cX11_run 107 = .ok (.aload_n 0, 1) := by decide +kernel
theorem dX11_run_108 : decode cX11_run 108 = .ok (.getfield 55, 3) := by decide +kernel
theorem dX11_run_111 : decode cX11_run 111 = .ok (.getfield 176, 3) := by decide +kernel
theorem dX11_run_114 : decode cX11_run 114 = .ok (.ireturn, 1) := by decide +kernel
theorem dX11_run_115 : decode cX11_run 115 = .ok (.iload_n 3, 1) := by decide +kernel
theorem dX11_run_116 : decode cX11_run 116 = .ok (.iconst 1, 1) := by decide +kernel
theorem dX11_run_117 : decode cX11_run 117 = .ok (.if_icmp .ne 13, 3) := by decide +kernel
theorem dX11_run_120 : decode cX11_run 120 = .ok (.aload_n 0, 1) := by decide +kernel
theorem dX11_run_121 : decode cX11_run 121 = .ok (.getfield 55, 3) := by decide +kernel
theorem dX11_run_124 : decode cX11_run 124 = .ok (.getfield 182, 3) := by decide +kernel
theorem dX11_run_127 : decode cX11_run 127 = .ok (.goto 10, 3) := by decide +kernel
theorem dX11_run_130 : decode cX11_run 130 = .ok (.aload_n 0, 1) := by decide +kernel
theorem dX11_run_131 : decode cX11_run 131 = .ok (.getfield 55, 3) := by decide +kernel
theorem dX11_run_134 : decode cX11_run 134 = .ok (.getfield 192, 3) := by decide +kernel
theorem dX11_run_137 : decode cX11_run 137 = .ok (.ireturn, 1) := by decide +kernel
theorem dX11_ring_0 : decode cX11_ring 0 = .ok (.aload_n 0, 1) := by decide +kernel
theorem dX11_ring_1 : decode cX11_ring 1 = .ok (.iload_n 1, 1) := by decide +kernel
theorem dX11_ring_2 : decode cX11_ring 2 = .ok (.invokevirtual 185, 3) := by decide +kernel
theorem dX11_ring_5 : decode cX11_ring 5 = .ok (.astore_n 3, 1) := by decide +kernel
theorem dX11_ring_6 : decode cX11_ring 6 = .ok (.aload_n 3, 1) := by decide +kernel
theorem dX11_ring_7 : decode cX11_ring 7 = .ok (.ifnull 11, 3) := by decide +kernel
theorem dX11_ring_10 : decode cX11_ring 10 = .ok (.iload_n 2, 1) := by decide +kernel
theorem dX11_ring_11 : decode cX11_ring 11 = .ok (.iconst 2, 1) := by decide +kernel
theorem dX11_ring_12 : decode cX11_ring 12 = .ok (.invokestatic 134, 3) := by decide +kernel
theorem dX11_ring_15 : decode cX11_ring 15 = .ok (.ifCond .ne 6, 3) := by decide +kernel
theorem dX11_ring_18 : decode cX11_ring 18 = .ok (.bipush (-2), 2) := by decide +kernel
theorem dX11_ring_20 : decode cX11_ring 20 = .ok (.ireturn, 1) := by decide +kernel
theorem dX11_ring_21 : decode cX11_ring 21 = .ok (.aload_n 0, 1) := by decide +kernel
theorem dX11_ring_22 : decode cX11_ring 22 = .ok (.aload_n 3, 1) := by decide +kernel
theorem dX11_ring_23 : decode cX11_ring 23 = .ok (.getfield 173, 3) := by decide +kernel
theorem dX11_ring_26 : decode cX11_ring 26 = .ok (.invokevirtual 141, 3) := by decide +kernel
theorem dX11_ring_29 : decode cX11_ring 29 = .ok (.astore 4, 2) := by decide +kernel
theorem dX11_ring_31 : decode cX11_ring 31 = .ok (.aload 4, 2) := by decide +kernel
theorem dX11_ring_33 : decode cX11_ring 33 = .ok (.ifnonnull 6, 3) := by decide +kernel
theorem dX11_ring_36 : decode cX11_ring 36 = .ok (.bipush (-2), 2) := by decide +kernel
theorem dX11_ring_38 : decode cX11_ring 38 = .ok (.ireturn, 1) := by decide +kernel
theorem dX11_ring_39 : decode cX11_ring 39 = .ok (.aload_n 0, 1) := by decide +kernel
theorem dX11_ring_40 : decode cX11_ring 40 = .ok (.getfield 50, 3) := by decide +kernel
theorem dX11_ring_43 : decode cX11_ring 43 = .ok (.iconst 1, 1) := by decide +kernel
theorem dX11_ring_44 : decode cX11_ring 44 = .ok (.putfield 221, 3) := by decide +kernel
theorem dX11_ring_47 : decode cX11_ring 47 = .ok (.aload_n 0, 1) := by decide +kernel
theorem dX11_ring_48 : decode cX11_ring 48 = .ok (.aload_n 3, 1) := by decide +kernel
theorem dX11_ring_49 : decode cX11_ring 49 = .ok (.aload 4, 2) := by decide +kernel
theorem dX11_ring_51 : decode cX11_ring 51 = .ok (.invokevirtual 225, 3) := by decide +kernel
theorem dX11_ring_54 : decode cX11_ring 54 = .ok (.istore 5, 2) := by decide +kernel
theorem dX11_ring_56 : decode cX11_ring 56 = .ok (.aload_n 0, 1) := by decide +kernel
theorem dX11_ring_57 : decode cX11_ring 57 = .ok (.getfield 50, 3) := by decide +kernel
theorem dX11_ring_60 : decode cX11_ring 60 = .ok (.iconst 0, 1) := by decide +kernel
theorem dX11_ring_61 : decode cX11_ring 61 = .ok (.putfield 221, 3) := by decide +kernel
theorem dX11_ring_64 : decode cX11_ring 64 = .ok (.iload 5, 2) := by decide +kernel
theorem dX11_ring_66 : decode cX11_ring 66 = .ok (.iconst (-1), 1) := by decide +kernel
theorem dX11_ring_67 : decode cX11_ring 67 = .ok (.if_icmp .ne 5, 3) := by decide +kernel
theorem dX11_ring_70 : decode cX11_ring 70 = .ok (.iconst (-1), 1) := by decide +kernel
theorem dX11_ring_71 : decode cX11_ring 71 = .ok (.ireturn, 1) := by decide +kernel
theorem dX11_ring_72 : decode cX11_ring 72 = .ok (.aload_n 0, 1) := by decide +kernel
theorem dX11_ring_73 : decode cX11_ring 73 = .ok (.getfield 69, 3) := by decide +kernel
theorem dX11_ring_76 : decode cX11_ring 76 = .ok (.iload 5, 2) := by decide +kernel
theorem dX11_ring_78 : decode cX11_ring 78 = .ok (.invokevirtual 229, 3) := by decide +kernel
theorem dX11_ring_81 : decode cX11_ring 81 = .ok (.istore 6, 2) := by decide +kernel
theorem dX11_ring_83 : decode cX11_ring 83 = .ok (.iload_n 2, 1) := by decide +kernel
theorem dX11_ring_84 : decode cX11_ring 84 = .ok (.ifCond .ne 8, 3) := by decide +kernel
theorem dX11_ring_87 : decode cX11_ring 87 = .ok (.iload 6, 2) := by decide +kernel
theorem dX11_ring_89 : decode cX11_ring 89 = .ok (.goto 8, 3) := by decide +kernel
theorem dX11_ring_92 : decode cX11_ring 92 = .ok (.iload 5, 2) := by decide +kernel
theorem dX11_ring_94 : decode cX11_ring 94 = .ok (.iload 6, 2) := by decide +kernel
theorem dX11_ring_96 : decode cX11_ring 96 = .ok (.isub, 1) := by decide +kernel
theorem dX11_ring_97 : decode cX11_ring 97 = .ok (.ireturn, 1) := by decide +kernel
theorem dX11_meet_0 : decode cX11_meet 0 = .ok (.aload_n 0, 1) := by decide +kernel
theorem dX11_meet_1 : decode cX11_meet 1 = .ok (.iload_n 1, 1) := by decide +kernel
theorem dX11_meet_2 : decode cX11_meet 2 = .ok (.iload_n 2, 1) := by decide +kernel
theorem dX11_meet_3 : decode cX11_meet 3 = .ok (.invokestatic 232, 3) := by decide +kernel
theorem dX11_meet_6 : decode cX11_meet 6 = .ok (.invokevirtual 185, 3) := by decide +kernel
theorem dX11_meet_9 : decode cX11_meet 9 = .ok (.astore_n 3, 1) := by decide +kernel
theorem dX11_meet_10 : decode cX11_meet 10 = .ok (.aload_n 0, 1) := by decide +kernel
theorem dX11_meet_11 : decode cX11_meet 11 = .ok (.iload_n 1, 1) := by decide +kernel
theorem dX11_meet_12 : decode cX11_meet 12 = .ok (.iload_n 2, 1) := by decide +kernel
theorem dX11_meet_13 : decode cX11_meet 13 = .ok (.invokestatic 237, 3) := by decide +kernel
theorem dX11_meet_16 : decode cX11_meet 16 = .ok (.invokevirtual 185, 3) := by decide +kernel
theorem dX11_meet_19 : decode cX11_meet 19 = .ok (.astore 4, 2) := by decide +kernel
theorem dX11_meet_21 : decode cX11_meet 21 = .ok (.aload_n 3, 1) := by decide +kernel
theorem dX11_meet_22 : decode cX11_meet 22 = .ok (.ifnull 25, 3) := by decide +kernel
theorem dX11_meet_25 : decode cX11_meet 25 = .ok (.aload 4, 2) := by decide +kernel
theorem dX11_meet_27 : decode cX11_meet 27 = .ok (.ifnull 20, 3) := by decide +kernel
theorem dX11_meet_30 : decode cX11_meet 30 = .ok (.iload_n 1, 1) := by decide +kernel
theorem dX11_meet_31 : decode cX11_meet 31 = .ok (.iload_n 2, 1) := by decide +kernel
theorem dX11_meet_32 : decode cX11_meet 32 = .ok (.if_icmp .eq 15, 3) := by decide +kernel
theorem dX11_meet_35 : decode cX11_meet 35 = .ok (.aload_n 3, 1) := by decide +kernel
theorem dX11_meet_36 : decode cX11_meet 36 = .ok (.getfield 173, 3) := by decide +kernel
theorem dX11_meet_39 : decode cX11_meet 39 = .ok (.aload 4, 2) := by decide +kernel
theorem dX11_meet_41 : decode cX11_meet 41 = .ok (.getfield 173, 3) := by decide +kernel
theorem dX11_meet_44 : decode cX11_meet 44 = .ok (.if_icmp .eq 6, 3) := by decide +kernel
theorem dX11_meet_47 : decode cX11_meet 47 = .ok (.bipush (-2), 2) := by decide +kernel
theorem dX11_meet_49 : decode cX11_meet 49 = .ok (.ireturn, 1) := by decide +kernel
theorem dX11_meet_50 : decode cX11_meet 50 = .ok (.aload_n 0, 1) := by decide +kernel
theorem dX11_meet_51 : decode cX11_meet 51 = .ok (.aload_n 3, 1) := by decide +kernel
theorem dX11_meet_52 : decode cX11_meet 52 = .ok (.getfield 173, 3) := by decide +kernel
theorem dX11_meet_55 : decode cX11_meet 55 = .ok (.invokevirtual 141, 3) := by decide +kernel
theorem dX11_meet_58 : decode cX11_meet 58 = .ok (.astore 5, 2) := by decide +kernel
theorem dX11_meet_60 : decode cX11_meet 60 = .ok (.aload 5, 2) := by decide +kernel
theorem dX11_meet_62 : decode cX11_meet 62 = .ok (.ifnonnull 6, 3) := by decide +kernel
theorem dX11_meet_65 : decode cX11_meet 65 = .ok (.bipush (-2), 2) := by decide +kernel
theorem dX11_meet_67 : decode cX11_meet 67 = .ok (.ireturn, 1) := by decide +kernel
theorem dX11_meet_68 : decode cX11_meet 68 = .ok (.aload_n 0, 1) := by decide +kernel
theorem dX11_meet_69 : decode cX11_meet 69 = .ok (.getfield 55, 3) := by decide +kernel
theorem dX11_meet_72 : decode cX11_meet 72 = .ok (.aload_n 3, 1) := by decide +kernel
theorem dX11_meet_73 : decode cX11_meet 73 = .ok (.invokevirtual 214, 3) := by decide +kernel
theorem dX11_meet_76 : decode cX11_meet 76 = .ok (.aload_n 0, 1) := by decide +kernel
theorem dX11_meet_77 : decode cX11_meet 77 = .ok (.getfield 59, 3) := by decide +kernel
theorem dX11_meet_80 : decode cX11_meet 80 = .ok (.aload 4, 2) := by decide +kernel
theorem dX11_meet_82 : decode cX11_meet 82 = .ok (.invokevirtual 214, 3) := by decide +kernel
theorem dX11_meet_85 : decode cX11_meet 85 = .ok (.aload 5, 2) := by decide +kernel
theorem dX11_meet_87 : decode cX11_meet 87 = .ok (.getfield 156, 3) := by decide +kernel
theorem dX11_meet_90 : decode cX11_meet 90 = .ok (.aload_n 0, 1) := by decide +kernel
theorem dX11_meet_91 : decode cX11_meet 91 = .ok (.getfield 62, 3) := by decide +kernel
theorem dX11_meet_94 : decode cX11_meet 94 = .ok (.invokestatic 217, 3) := by decide +kernel
theorem dX11_meet_97 : decode cX11_meet 97 = .ok (.iconst 0, 1) := by decide +kernel
theorem dX11_meet_98 : decode cX11_meet 98 = .ok (.istore 6, 2) := by decide +kernel
theorem dX11_meet_100 : decode cX11_meet 100 = .ok (.iload 6, 2) := by decide +kernel
theorem dX11_meet_102 : decode cX11_meet 102 = .ok (.sipush 200, 3) := by decide +kernel
theorem dX11_meet_105 : decode cX11_meet 105 = .ok (.if_icmp .gt 57, 3) := by decide +kernel
theorem dX11_meet_108 : decode cX11_meet 108 = .ok (.aload_n 0, 1) := by decide +kernel
theorem dX11_meet_109 : decode cX11_meet 109 = .ok (.getfield 55, 3) := by decide +kernel
theorem dX11_meet_112 : decode cX11_meet 112 = .ok (.getfield 176, 3) := by decide +kernel
theorem dX11_meet_115 : decode cX11_meet 115 = .ok (.aload_n 0, 1) := by decide +kernel
theorem dX11_meet_116 : decode cX11_meet 116 = .ok (.getfield 59, 3) := by decide +kernel
theorem dX11_meet_119 : decode cX11_meet 119 = .ok (.getfield 176, 3) := by decide +kernel
theorem dX11_meet_122 : decode cX11_meet 122 = .ok (.if_icmp .ne 6, 3) := by decide +kernel
theorem dX11_meet_125 : decode cX11_meet 125 = .ok (.iload 6, 2) := by decide +kernel
theorem dX11_meet_127 : decode cX11_meet 127 = .ok (.ireturn, 1) := by decide +kernel
theorem dX11_meet_128 : decode cX11_meet 128 = .ok (.aload_n 0, 1) := by decide +kernel
theorem dX11_meet_129 : decode cX11_meet 129 = .ok (.iload 6, 2) := by decide +kernel
theorem dX11_meet_131 : decode cX11_meet 131 = .ok (.iconst 2, 1) := by decide +kernel
theorem dX11_meet_132 : decode cX11_meet 132 = .ok (.irem, 1) := by decide +kernel
theorem dX11_meet_133 : decode cX11_meet 133 = .ok (.ifCond .ne 10, 3) := by decide +kernel
theorem dX11_meet_136 : decode cX11_meet 136 = .ok (.aload_n 0, 1) := by decide +kernel
theorem dX11_meet_137 : decode cX11_meet 137 = .ok (.getfield 55, 3) := by decide +kernel
theorem dX11_meet_140 : decode cX11_meet 140 = .ok (.goto 7, 3) := by decide +kernel
theorem dX11_meet_143 : decode cX11_meet 143 = .ok (.aload_n 0, 1) := by decide +kernel
theorem dX11_meet_144 : decode cX11_meet 144 = .ok (.getfield 59, 3) := by decide +kernel
theorem dX11_meet_147 : decode cX11_meet 147 = .ok (.aload 5, 2) := by decide +kernel
theorem dX11_meet_149 : decode cX11_meet 149 = .ok (.aload_n 0, 1) := by decide +kernel
theorem dX11_meet_150 : decode cX11_meet 150 = .ok (.getfield 62, 3) := by decide +kernel
theorem dX11_meet_153 : decode cX11_meet 153 = .ok (.invokevirtual 211, 3) := by decide +kernel
theorem dX11_meet_156 : decode cX11_meet 156 = .ok (.iinc 6 1, 3) := by decide +kernel
theorem dX11_meet_159 : decode cX11_meet 159 = .ok (.goto (-59), 3) := by decide +kernel
theorem dX11_meet_162 : decode cX11_meet 162 = .ok (.iconst (-1), 1) := by decide +kernel
theorem dX11_meet_163 : decode cX11_meet 163 = .ok (.ireturn, 1) := by decide +kernel
theorem dX11_alike_0 : decode cX11_alike 0 = .ok (.aload_n 0, 1) := by decide +kernel
theorem dX11_alike_1 : decode cX11_alike 1 = .ok (.iload_n 1, 1) := by decide +kernel
theorem dX11_alike_2 : decode cX11_alike 2 = .ok (.invokevirtual 141, 3) := by decide +kernel
theorem dX11_alike_5 : decode cX11_alike 5 = .ok (.astore_n 3, 1) := by decide +kernel
theorem dX11_alike_6 : decode cX11_alike 6 = .ok (.aload_n 3, 1) := by decide +kernel
theorem dX11_alike_7 : decode cX11_alike 7 = .ok (.ifnonnull 6, 3) := by decide +kernel
theorem dX11_alike_10 : decode cX11_alike 10 = .ok (.bipush (-2), 2) := by decide +kernel
theorem dX11_alike_12 : decode cX11_alike 12 = .ok (.ireturn, 1) := by decide +kernel
theorem dX11_alike_13 : decode cX11_alike 13 = .ok (.iload_n 2, 1) := by decide +kernel
theorem dX11_alike_14 : decode cX11_alike 14 = .ok (.iconst (-1), 1) := by decide +kernel
theorem dX11_alike_15 : decode cX11_alike 15 = .ok (.if_icmp .ne 9, 3) := by decide +kernel
theorem dX11_alike_18 : decode cX11_alike 18 = .ok (.aload_n 0, 1) := by decide +kernel
theorem dX11_alike_19 : decode cX11_alike 19 = .ok (.aload_n 3, 1) := by decide +kernel
theorem dX11_alike_20 : decode cX11_alike 20 = .ok (.invokevirtual 240, 3) := by decide +kernel
theorem dX11_alike_23 : decode cX11_alike 23 = .ok (.ireturn, 1) := by decide +kernel
theorem dX11_alike_24 : decode cX11_alike 24 = .ok (.aload_n 3, 1) := by decide +kernel
theorem dX11_alike_25 : decode cX11_alike 25 = .ok (.iload_n 2, 1) := by decide +kernel
theorem dX11_alike_26 : decode cX11_alike 26 = .ok (.invokevirtual 148, 3) := by decide +kernel
theorem dX11_alike_29 : decode cX11_alike 29 = .ok (.ifCond .eq 12, 3) := by decide +kernel
theorem dX11_alike_32 : decode cX11_alike 32 = .ok (.aload_n 0, 1) := by decide +kernel
theorem dX11_alike_33 : decode cX11_alike 33 = .ok (.aload_n 3, 1) := by decide +kernel
theorem dX11_alike_34 : decode cX11_alike 34 = .ok (.iload_n 2, 1) := by decide +kernel
theorem dX11_alike_35 : decode cX11_alike 35 = .ok (.invokevirtual 244, 3) := by decide +kernel
theorem dX11_alike_38 : decode cX11_alike 38 = .ok (.goto 5, 3) := by decide +kernel
theorem dX11_alike_41 : decode cX11_alike 41 = .ok (.bipush (-2), 2) := by decide +kernel
theorem dX11_alike_43 : decode cX11_alike 43 = .ok (.ireturn, 1) := by decide +kernel
theorem dX11_tells_0 : decode cX11_tells 0 = .ok (.aload_n 0, 1) := by decide +kernel
theorem dX11_tells_1 : decode cX11_tells 1 = .ok (.iload_n 1, 1) := by decide +kernel
theorem dX11_tells_2 : decode cX11_tells 2 = .ok (.bipush 10, 2) := by decide +kernel
theorem dX11_tells_4 : decode cX11_tells 4 = .ok (.idiv, 1) := by decide +kernel
theorem dX11_tells_5 : decode cX11_tells 5 = .ok (.invokevirtual 141, 3) := by decide +kernel
theorem dX11_tells_8 : decode cX11_tells 8 = .ok (.astore 4, 2) := by decide +kernel
theorem dX11_tells_10 : decode cX11_tells 10 = .ok (.aload_n 0, 1) := by decide +kernel
theorem dX11_tells_11 : decode cX11_tells 11 = .ok (.iload_n 2, 1) := by decide +kernel
theorem dX11_tells_12 : decode cX11_tells 12 = .ok (.bipush 10, 2) := by decide +kernel
theorem dX11_tells_14 : decode cX11_tells 14 = .ok (.idiv, 1) := by decide +kernel
theorem dX11_tells_15 : decode cX11_tells 15 = .ok (.invokevirtual 141, 3) := by decide +kernel
theorem dX11_tells_18 : decode cX11_tells 18 = .ok (.astore 5, 2) := by decide +kernel
theorem dX11_tells_20 : decode cX11_tells 20 = .ok (.aload 4, 2) := by decide +kernel
theorem dX11_tells_22 : decode cX11_tells 22 = .ok (.ifnull 32, 3) := by decide +kernel
theorem dX11_tells_25 : decode cX11_tells 25 = .ok (.aload 5, 2) := by decide +kernel
theorem dX11_tells_27 : decode cX11_tells 27 = .ok (.ifnull 27, 3) := by decide +kernel
theorem dX11_tells_30 : decode cX11_tells 30 = .ok (.aload 4, 2) := by decide +kernel
theorem dX11_tells_32 : decode cX11_tells 32 = .ok (.iload_n 1, 1) := by decide +kernel
theorem dX11_tells_33 : decode cX11_tells 33 = .ok (.bipush 10, 2) := by decide +kernel
theorem dX11_tells_35 : decode cX11_tells 35 = .ok (.irem, 1) := by decide +kernel
theorem dX11_tells_36 : decode cX11_tells 36 = .ok (.invokevirtual 148, 3) := by decide +kernel
theorem dX11_tells_39 : decode cX11_tells 39 = .ok (.ifCond .eq 15, 3) := by decide +kernel
theorem dX11_tells_42 : decode cX11_tells 42 = .ok (.aload 5, 2) := by decide +kernel
theorem dX11_tells_44 : decode cX11_tells 44 = .ok (.iload_n 2, 1) := by decide +kernel
theorem dX11_tells_45 : decode cX11_tells 45 = .ok (.bipush 10, 2) := by decide +kernel
theorem dX11_tells_47 : decode cX11_tells 47 = .ok (.irem, 1) := by decide +kernel
theorem dX11_tells_48 : decode cX11_tells 48 = .ok (.invokevirtual 148, 3) := by decide +kernel
theorem dX11_tells_51 : decode cX11_tells 51 = .ok (.ifCond .ne 6, 3) := by decide +kernel
theorem dX11_tells_54 : decode cX11_tells 54 = .ok (.bipush (-2), 2) := by decide +kernel
theorem dX11_tells_56 : decode cX11_tells 56 = .ok (.ireturn, 1) := by decide +kernel
theorem dX11_tells_57 : decode cX11_tells 57 = .ok (.iload_n 3, 1) := by decide +kernel
theorem dX11_tells_58 : decode cX11_tells 58 = .ok (.iconst 2, 1) := by decide +kernel
theorem dX11_tells_59 : decode cX11_tells 59 = .ok (.invokestatic 134, 3) := by decide +kernel
theorem dX11_tells_62 : decode cX11_tells 62 = .ok (.ifCond .ne 6, 3) := by decide +kernel
theorem dX11_tells_65 : decode cX11_tells 65 = .ok (.bipush (-2), 2) := by decide +kernel
theorem dX11_tells_67 : decode cX11_tells 67 = .ok (.ireturn, 1) := by decide +kernel
theorem dX11_tells_68 : decode cX11_tells 68 = .ok (.aload_n 0, 1) := by decide +kernel
theorem dX11_tells_69 : decode cX11_tells 69 = .ok (.getfield 83, 3) := by decide +kernel
theorem dX11_tells_72 : decode cX11_tells 72 = .ok (.aload 4, 2) := by decide +kernel
theorem dX11_tells_74 : decode cX11_tells 74 = .ok (.iload_n 1, 1) := by decide +kernel
theorem dX11_tells_75 : decode cX11_tells 75 = .ok (.bipush 10, 2) := by decide +kernel
theorem dX11_tells_77 : decode cX11_tells 77 = .ok (.irem, 1) := by decide +kernel
theorem dX11_tells_78 : decode cX11_tells 78 = .ok (.aload 5, 2) := by decide +kernel
theorem dX11_tells_80 : decode cX11_tells 80 = .ok (.iload_n 2, 1) := by decide +kernel
theorem dX11_tells_81 : decode cX11_tells 81 = .ok (.bipush 10, 2) := by decide +kernel
theorem dX11_tells_83 : decode cX11_tells 83 = .ok (.irem, 1) := by decide +kernel
theorem dX11_tells_84 : decode cX11_tells 84 = .ok (.invokevirtual 248, 3) := by decide +kernel
theorem dX11_tells_87 : decode cX11_tells 87 = .ok (.iload_n 3, 1) := by decide +kernel
theorem dX11_tells_88 : decode cX11_tells 88 = .ok (.ifCond .ne 13, 3) := by decide +kernel
theorem dX11_tells_91 : decode cX11_tells 91 = .ok (.aload_n 0, 1) := by decide +kernel
theorem dX11_tells_92 : decode cX11_tells 92 = .ok (.getfield 83, 3) := by decide +kernel
theorem dX11_tells_95 : decode cX11_tells 95 = .ok (.getfield 252, 3) := by decide +kernel
theorem dX11_tells_98 : decode cX11_tells 98 = .ok (.goto 10, 3) := by decide +kernel
theorem dX11_tells_101 : decode cX11_tells 101 = .ok (.aload_n 0, 1) := by decide +kernel
theorem dX11_tells_102 : decode cX11_tells 102 = .ok (.getfield 83, 3) := by decide +kernel
theorem dX11_tells_105 : decode cX11_tells 105 = .ok (.getfield 255, 3) := by decide +kernel
theorem dX11_tells_108 : decode cX11_tells 108 = .ok (.ireturn, 1) := by decide +kernel
theorem dX11_way_0 : decode cX11_way 0 = .ok (.aload_n 0, 1) := by decide +kernel
theorem dX11_way_1 : decode cX11_way 1 = .ok (.iload_n 1, 1) := by decide +kernel
theorem dX11_way_2 : decode cX11_way 2 = .ok (.invokevirtual 141, 3) := by decide +kernel
theorem dX11_way_5 : decode cX11_way 5 = .ok (.astore_n 3, 1) := by decide +kernel
theorem dX11_way_6 : decode cX11_way 6 = .ok (.aload_n 3, 1) := by decide +kernel
theorem dX11_way_7 : decode cX11_way 7 = .ok (.ifnull 25, 3) := by decide +kernel
theorem dX11_way_10 : decode cX11_way 10 = .ok (.aload_n 3, 1) := by decide +kernel
theorem dX11_way_11 : decode cX11_way 11 = .ok (.iload_n 2, 1) := by decide +kernel
theorem dX11_way_12 : decode cX11_way 12 = .ok (.bipush 10, 2) := by decide +kernel
theorem dX11_way_14 : decode cX11_way 14 = .ok (.idiv, 1) := by decide +kernel
theorem dX11_way_15 : decode cX11_way 15 = .ok (.invokevirtual 148, 3) := by decide +kernel
theorem dX11_way_18 : decode cX11_way 18 = .ok (.ifCond .eq 14, 3) := by decide +kernel
theorem dX11_way_21 : decode cX11_way 21 = .ok (.aload_n 3, 1) := by decide +kernel
theorem dX11_way_22 : decode cX11_way 22 = .ok (.iload_n 2, 1) := by decide +kernel
theorem dX11_way_23 : decode cX11_way 23 = .ok (.bipush 10, 2) := by decide +kernel
theorem dX11_way_25 : decode cX11_way 25 = .ok (.irem, 1) := by decide +kernel
theorem dX11_way_26 : decode cX11_way 26 = .ok (.invokevirtual 148, 3) := by decide +kernel
theorem dX11_way_29 : decode cX11_way 29 = .ok (.ifCond .ne 6, 3) := by decide +kernel
theorem dX11_way_32 : decode cX11_way 32 = .ok (.bipush (-2), 2) := by decide +kernel
theorem dX11_way_34 : decode cX11_way 34 = .ok (.ireturn, 1) := by decide +kernel
theorem dX11_way_35 : decode cX11_way 35 = .ok (.aload_n 0, 1) := by decide +kernel
theorem dX11_way_36 : decode cX11_way 36 = .ok (.getfield 76, 3) := by decide +kernel
theorem dX11_way_39 : decode cX11_way 39 = .ok (.aload_n 3, 1) := by decide +kernel
theorem dX11_way_40 : decode cX11_way 40 = .ok (.iload_n 2, 1) := by decide +kernel
theorem dX11_way_41 : decode cX11_way 41 = .ok (.bipush 10, 2) := by decide +kernel
theorem dX11_way_43 : decode cX11_way 43 = .ok (.idiv, 1) := by decide +kernel
theorem dX11_way_44 : decode cX11_way 44 = .ok (.invokevirtual 258, 3) := by decide +kernel
theorem dX11_way_47 : decode cX11_way 47 = .ok (.pop, 1) := by decide +kernel
theorem dX11_way_48 : decode cX11_way 48 = .ok (.aload_n 0, 1) := by decide +kernel
theorem dX11_way_49 : decode cX11_way 49 = .ok (.getfield 76, 3) := by decide +kernel
theorem dX11_way_52 : decode cX11_way 52 = .ok (.getfield 261, 3) := by decide +kernel
theorem dX11_way_55 : decode cX11_way 55 = .ok (.iload_n 2, 1) := by decide +kernel
theorem dX11_way_56 : decode cX11_way 56 = .ok (.bipush 10, 2) := by decide +kernel
theorem dX11_way_58 : decode cX11_way 58 = .ok (.irem, 1) := by decide +kernel
theorem dX11_way_59 : decode cX11_way 59 = .ok (.invokestatic 159, 3) := by decide +kernel
theorem dX11_way_62 : decode cX11_way 62 = .ok (.ireturn, 1) := by decide +kernel
theorem dX11_all_0 : decode cX11_all 0 = .ok (.aload_n 0, 1) := by decide +kernel
theorem dX11_all_1 : decode cX11_all 1 = .ok (.iload_n 1, 1) := by decide +kernel
theorem dX11_all_2 : decode cX11_all 2 = .ok (.invokevirtual 141, 3) := by decide +kernel
theorem dX11_all_5 : decode cX11_all 5 = .ok (.astore_n 3, 1) := by decide +kernel
theorem dX11_all_6 : decode cX11_all 6 = .ok (.aload_n 3, 1) := by decide +kernel
theorem dX11_all_7 : decode cX11_all 7 = .ok (.ifnull 11, 3) := by decide +kernel
theorem dX11_all_10 : decode cX11_all 10 = .ok (.aload_n 3, 1) := by decide +kernel
theorem dX11_all_11 : decode cX11_all 11 = .ok (.iload_n 2, 1) := by decide +kernel
theorem dX11_all_12 : decode cX11_all 12 = .ok (.invokevirtual 148, 3) := by decide +kernel
theorem dX11_all_15 : decode cX11_all 15 = .ok (.ifCond .ne 6, 3) := by decide +kernel
theorem dX11_all_18 : decode cX11_all 18 = .ok (.bipush (-2), 2) := by decide +kernel
theorem dX11_all_20 : decode cX11_all 20 = .ok (.ireturn, 1) := by decide +kernel
theorem dX11_all_21 : decode cX11_all 21 = .ok (.aload_n 0, 1) := by decide +kernel
theorem dX11_all_22 : decode cX11_all 22 = .ok (.getfield 90, 3) := by decide +kernel
theorem dX11_all_25 : decode cX11_all 25 = .ok (.aload_n 3, 1) := by decide +kernel
theorem dX11_all_26 : decode cX11_all 26 = .ok (.iload_n 2, 1) := by decide +kernel
theorem dX11_all_27 : decode cX11_all 27 = .ok (.invokevirtual 263, 3) := by decide +kernel
theorem dX11_all_30 : decode cX11_all 30 = .ok (.ireturn, 1) := by decide +kernel
theorem dX11_free_0 : decode cX11_free 0 = .ok (.aload_n 0, 1) := by decide +kernel
theorem dX11_free_1 : decode cX11_free 1 = .ok (.iload_n 1, 1) := by decide +kernel
theorem dX11_free_2 : decode cX11_free 2 = .ok (.invokevirtual 141, 3) := by decide +kernel
theorem dX11_free_5 : decode cX11_free 5 = .ok (.astore_n 2, 1) := by decide +kernel
theorem dX11_free_6 : decode cX11_free 6 = .ok (.aload_n 2, 1) := by decide +kernel
theorem dX11_free_7 : decode cX11_free 7 = .ok (.ifnonnull 6, 3) := by decide +kernel
theorem dX11_free_10 : decode cX11_free 10 = .ok (.bipush (-2), 2) := by decide +kernel
theorem dX11_free_12 : decode cX11_free 12 = .ok (.ireturn, 1) := by decide +kernel
theorem dX11_free_13 : decode cX11_free 13 = .ok (.iconst 0, 1) := by decide +kernel
theorem dX11_free_14 : decode cX11_free 14 = .ok (.istore_n 3, 1) := by decide +kernel
theorem dX11_free_15 : decode cX11_free 15 = .ok (.iconst 0, 1) := by decide +kernel
theorem dX11_free_16 : decode cX11_free 16 = .ok (.istore 4, 2) := by decide +kernel
theorem dX11_free_18 : decode cX11_free 18 = .ok (.iload 4, 2) := by decide +kernel
theorem dX11_free_20 : decode cX11_free 20 = .ok (.aload_n 2, 1) := by decide +kernel
theorem dX11_free_21 : decode cX11_free 21 = .ok (.getfield 145, 3) := by decide +kernel
theorem dX11_free_24 : decode cX11_free 24 = .ok (.if_icmp .ge 33, 3) := by decide +kernel
theorem dX11_free_27 : decode cX11_free 27 = .ok (.aload_n 0, 1) := by decide +kernel
theorem dX11_free_28 : decode cX11_free 28 = .ok (.getfield 76, 3) := by decide +kernel
theorem dX11_free_31 : decode cX11_free 31 = .ok (.aload_n 2, 1) := by decide +kernel
theorem dX11_free_32 : decode cX11_free 32 = .ok (.iload 4, 2) := by decide +kernel
theorem dX11_free_34 : decode cX11_free 34 = .ok (.invokevirtual 258, 3) := by decide +kernel
theorem dX11_free_37 : decode cX11_free 37 = .ok (.aload_n 2, 1) := by decide +kernel
theorem dX11_free_38 : decode cX11_free 38 = .ok (.getfield 145, 3) := by decide +kernel
theorem dX11_free_41 : decode cX11_free 41 = .ok (.if_icmp .ne 10, 3) := by decide +kernel
theorem dX11_free_44 : decode cX11_free 44 = .ok (.iload_n 3, 1) := by decide +kernel
theorem dX11_free_45 : decode cX11_free 45 = .ok (.iconst 1, 1) := by decide +kernel
theorem dX11_free_46 : decode cX11_free 46 = .ok (.iload 4, 2) := by decide +kernel
theorem dX11_free_48 : decode cX11_free 48 = .ok (.ishl, 1) := by decide +kernel
theorem dX11_free_49 : decode cX11_free 49 = .ok (.ior, 1) := by decide +kernel
theorem dX11_free_50 : decode cX11_free 50 = .ok (.istore_n 3, 1) := by decide +kernel
theorem dX11_free_51 : decode cX11_free 51 = .ok (.iinc 4 1, 3) := by decide +kernel
theorem dX11_free_54 : decode cX11_free 54 = .ok (.goto (-36), 3) := by decide +kernel
theorem dX11_free_57 : decode cX11_free 57 = .ok (.iload_n 3, 1) := by decide +kernel
theorem dX11_free_58 : decode cX11_free 58 = .ok (.ireturn, 1) := by decide +kernel
theorem dX11_begins_0 : decode cX11_begins 0 = .ok (.aload_n 0, 1) := by decide +kernel
theorem dX11_begins_1 : decode cX11_begins 1 = .ok (.iload_n 1, 1) := by decide +kernel
theorem dX11_begins_2 : decode cX11_begins 2 = .ok (.invokevirtual 141, 3) := by decide +kernel
theorem dX11_begins_5 : decode cX11_begins 5 = .ok (.astore 4, 2) := by decide +kernel
theorem dX11_begins_7 : decode cX11_begins 7 = .ok (.aload_n 0, 1) := by decide +kernel
theorem dX11_begins_8 : decode cX11_begins 8 = .ok (.iload_n 2, 1) := by decide +kernel
theorem dX11_begins_9 : decode cX11_begins 9 = .ok (.invokevirtual 266, 3) := by decide +kernel
theorem dX11_begins_12 : decode cX11_begins 12 = .ok (.astore 5, 2) := by decide +kernel
theorem dX11_begins_14 : decode cX11_begins 14 = .ok (.aload 4, 2) := by decide +kernel
theorem dX11_begins_16 : decode cX11_begins 16 = .ok (.ifnull 16, 3) := by decide +kernel
theorem dX11_begins_19 : decode cX11_begins 19 = .ok (.aload 5, 2) := by decide +kernel
theorem dX11_begins_21 : decode cX11_begins 21 = .ok (.ifnull 11, 3) := by decide +kernel
theorem dX11_begins_24 : decode cX11_begins 24 = .ok (.iload_n 3, 1) := by decide +kernel
theorem dX11_begins_25 : decode cX11_begins 25 = .ok (.iconst 2, 1) := by decide +kernel
theorem dX11_begins_26 : decode cX11_begins 26 = .ok (.invokestatic 134, 3) := by decide +kernel
theorem dX11_begins_29 : decode cX11_begins 29 = .ok (.ifCond .ne 6, 3) := by decide +kernel
theorem dX11_begins_32 : decode cX11_begins 32 = .ok (.bipush (-2), 2) := by decide +kernel
theorem dX11_begins_34 : decode cX11_begins 34 = .ok (.ireturn, 1) := by decide +kernel
theorem dX11_begins_35 : decode cX11_begins 35 = .ok (.aload 5, 2) := by decide +kernel
theorem dX11_begins_37 : decode cX11_begins 37 = .ok (.invokevirtual 270, 3) := by decide +kernel
theorem dX11_begins_40 : decode cX11_begins 40 = .ok (.ifCond .eq 6, 3) := by decide +kernel
theorem dX11_begins_43 : decode cX11_begins 43 = .ok (.bipush (-11), 2) := by decide +kernel
theorem dX11_begins_45 : decode cX11_begins 45 = .ok (.ireturn, 1) := by decide +kernel
theorem dX11_begins_46 : decode cX11_begins 46 = .ok (.aload 5, 2) := by decide +kernel
theorem dX11_begins_48 : decode cX11_begins 48 = .ok (.invokevirtual 274, 3) := by decide +kernel
theorem dX11_begins_51 : decode cX11_begins 51 = .ok (.ifCond .ne 6, 3) := by decide +kernel
theorem dX11_begins_54 : decode cX11_begins 54 = .ok (.bipush (-2), 2) := by decide +kernel
theorem dX11_begins_56 : decode cX11_begins 56 = .ok (.ireturn, 1) := by decide +kernel
theorem dX11_begins_57 : decode cX11_begins 57 = .ok (.iconst 0, 1) := by decide +kernel
theorem dX11_begins_58 : decode cX11_begins 58 = .ok (.istore 6, 2) := by decide +kernel
theorem dX11_begins_60 : decode cX11_begins 60 = .ok (.iconst (-1), 1) := by decide +kernel
theorem dX11_begins_61 : decode cX11_begins 61 = .ok (.istore 7, 2) := by decide +kernel
theorem dX11_begins_63 : decode cX11_begins 63 = .ok (.iconst 0, 1) := by decide +kernel
theorem dX11_begins_64 : decode cX11_begins 64 = .ok (.istore 8, 2) := by decide +kernel
theorem dX11_begins_66 : decode cX11_begins 66 = .ok (.iload 8, 2) := by decide +kernel
theorem dX11_begins_68 : decode cX11_begins 68 = .ok (.aload 4, 2) := by decide +kernel
theorem dX11_begins_70 : decode cX11_begins 70 = .ok (.getfield 145, 3) := by decide +kernel
theorem dX11_begins_73 : decode cX11_begins 73 = .ok (.if_icmp .ge 44, 3) := by decide +kernel
theorem dX11_begins_76 : decode cX11_begins 76 = .ok (.aload 4, 2) := by decide +kernel
theorem dX11_begins_78 : decode cX11_begins 78 = .ok (.aload 5, 2) := by decide +kernel
theorem dX11_begins_80 : decode cX11_begins 80 = .ok (.iload 8, 2) := by decide +kernel
theorem dX11_begins_82 : decode cX11_begins 82 = .ok (.invokestatic 277, 3) := by decide +kernel
theorem dX11_begins_85 : decode cX11_begins 85 = .ok (.istore 9, 2) := by decide +kernel
theorem dX11_begins_87 : decode cX11_begins 87 = .ok (.iload 9, 2) := by decide +kernel
theorem dX11_begins_89 : decode cX11_begins 89 = .ok (.iconst (-1), 1) := by decide +kernel
theorem dX11_begins_90 : decode cX11_begins 90 = .ok (.if_icmp .ne 12, 3) := by decide +kernel
theorem dX11_begins_93 : decode cX11_begins 93 = .ok (.iload 6, 2) := by decide +kernel
theorem dX11_begins_95 : decode cX11_begins 95 = .ok (.iconst 1, 1) := by decide +kernel
theorem dX11_begins_96 : decode cX11_begins 96 = .ok (.iload 8, 2) := by decide +kernel
theorem dX11_begins_98 : decode cX11_begins 98 = .ok (.ishl, 1) := by decide +kernel
theorem dX11_begins_99 : decode cX11_begins 99 = .ok (.ior, 1) := by decide +kernel
theorem dX11_begins_100 : decode cX11_begins 100 = .ok (.istore 6, 2) := by decide +kernel
theorem dX11_begins_102 : decode cX11_begins 102 = .ok (.iload 7, 2) := by decide +kernel
theorem dX11_begins_104 : decode cX11_begins 104 = .ok (.iload 9, 2) := by decide +kernel
theorem dX11_begins_106 : decode cX11_begins 106 = .ok (.invokestatic 237, 3) := by decide +kernel
theorem dX11_begins_109 : decode cX11_begins 109 = .ok (.istore 7, 2) := by decide +kernel
theorem dX11_begins_111 : decode cX11_begins 111 = .ok (.iinc 8 1, 3) := by decide +kernel
theorem dX11_begins_114 : decode cX11_begins 114 = .ok (.goto (-48), 3) := by decide +kernel
theorem dX11_begins_117 : decode cX11_begins 117 = .ok (.iload_n 3, 1) := by decide +kernel
theorem dX11_begins_118 : decode cX11_begins 118 = .ok (.ifCond .ne 6, 3) := by decide +kernel
theorem dX11_begins_121 : decode cX11_begins 121 = .ok (.iload 6, 2) := by decide +kernel
theorem dX11_begins_123 : decode cX11_begins 123 = .ok (.ireturn, 1) := by decide +kernel
theorem dX11_begins_124 : decode cX11_begins 124 = .ok (.iload 6, 2) := by decide +kernel
theorem dX11_begins_126 : decode cX11_begins 126 = .ok (.ifCond .ne 8, 3) := by decide +kernel
theorem dX11_begins_129 : decode cX11_begins 129 = .ok (.iload 7, 2) := by decide +kernel
theorem dX11_begins_131 : decode cX11_begins 131 = .ok (.goto 4, 3) := by decide +kernel
theorem dX11_begins_134 : decode cX11_begins 134 = .ok (.iconst (-1), 1) := by decide +kernel
theorem dX11_begins_135 : decode cX11_begins 135 = .ok (.ireturn, 1) := by decide +kernel
theorem dX11_image_0 : decode cX11_image 0 = .ok (.aload_n 0, 1) := by decide +kernel
theorem dX11_image_1 : decode cX11_image 1 = .ok (.getfield 43, 3) := by decide +kernel
theorem dX11_image_4 : decode cX11_image 4 = .ok (.iconst 1, 1) := by decide +kernel
theorem dX11_image_5 : decode cX11_image 5 = .ok (.putfield 281, 3) := by decide +kernel
theorem dX11_image_8 : decode cX11_image 8 = .ok (.aload_n 0, 1) := by decide +kernel
theorem dX11_image_9 : decode cX11_image 9 = .ok (.getfield 43, 3) := by decide +kernel
theorem dX11_image_12 : decode cX11_image 12 = .ok (.aload_n 0, 1) := by decide +kernel
theorem dX11_image_13 : decode cX11_image 13 = .ok (.getfield 108, 3) := by decide +kernel
theorem dX11_image_16 : decode cX11_image 16 = .ok (.putfield 284, 3) := by decide +kernel
theorem dX11_image_19 : decode cX11_image 19 = .ok (.aload_n 0, 1) := by decide +kernel
theorem dX11_image_20 : decode cX11_image 20 = .ok (.getfield 43, 3) := by decide +kernel
theorem dX11_image_23 : decode cX11_image 23 = .ok (.aload_n 0, 1) := by decide +kernel
theorem dX11_image_24 : decode cX11_image 24 = .ok (.getfield 167, 3) := by decide +kernel
theorem dX11_image_27 : decode cX11_image 27 = .ok (.putfield 286, 3) := by decide +kernel
theorem dX11_image_30 : decode cX11_image 30 = .ok (.aload_n 0, 1) := by decide +kernel
theorem dX11_image_31 : decode cX11_image 31 = .ok (.getfield 43, 3) := by decide +kernel
theorem dX11_image_34 : decode cX11_image 34 = .ok (.aload_n 0, 1) := by decide +kernel
theorem dX11_image_35 : decode cX11_image 35 = .ok (.getfield 138, 3) := by decide +kernel
theorem dX11_image_38 : decode cX11_image 38 = .ok (.putfield 288, 3) := by decide +kernel
theorem dX11_image_41 : decode cX11_image 41 = .ok (.iconst 0, 1) := by decide +kernel
theorem dX11_image_42 : decode cX11_image 42 = .ok (.istore_n 1, 1) := by decide +kernel
theorem dX11_image_43 : decode cX11_image 43 = .ok (.iload_n 1, 1) := by decide +kernel
theorem dX11_image_44 : decode cX11_image 44 = .ok (.aload_n 0, 1) := by decide +kernel
theorem dX11_image_45 : decode cX11_image 45 = .ok (.getfield 108, 3) := by decide +kernel
theorem dX11_image_48 : decode cX11_image 48 = .ok (.if_icmp .ge 30, 3) := by decide +kernel
theorem dX11_image_51 : decode cX11_image 51 = .ok (.aload_n 0, 1) := by decide +kernel
theorem dX11_image_52 : decode cX11_image 52 = .ok (.getfield 18, 3) := by decide +kernel
theorem dX11_image_55 : decode cX11_image 55 = .ok (.iload_n 1, 1) := by decide +kernel
theorem dX11_image_56 : decode cX11_image 56 = .ok (.aaload, 1) := by decide +kernel
theorem dX11_image_57 : decode cX11_image 57 = .ok (.getfield 156, 3) := by decide +kernel
theorem dX11_image_60 : decode cX11_image 60 = .ok (.aload_n 0, 1) := by decide +kernel
theorem dX11_image_61 : decode cX11_image 61 = .ok (.getfield 43, 3) := by decide +kernel
theorem dX11_image_64 : decode cX11_image 64 = .ok (.getfield 291, 3) := by decide +kernel
theorem dX11_image_67 : decode cX11_image 67 = .ok (.iload_n 1, 1) := by decide +kernel
theorem dX11_image_68 : decode cX11_image 68 = .ok (.aaload, 1) := by decide +kernel
theorem dX11_image_69 : decode cX11_image 69 = .ok (.invokestatic 217, 3) := by decide +kernel
theorem dX11_image_72 : decode cX11_image 72 = .ok (.iinc 1 1, 3) := by decide +kernel
theorem dX11_image_75 : decode cX11_image 75 = .ok (.goto (-32), 3) := by decide +kernel
theorem dX11_image_78 : decode cX11_image 78 = .ok (.iconst 0, 1) := by decide +kernel
theorem dX11_image_79 : decode cX11_image 79 = .ok (.istore_n 1, 1) := by decide +kernel
theorem dX11_image_80 : decode cX11_image 80 = .ok (.iload_n 1, 1) := by decide +kernel
theorem dX11_image_81 : decode cX11_image 81 = .ok (.aload_n 0, 1) := by decide +kernel
theorem dX11_image_82 : decode cX11_image 82 = .ok (.getfield 167, 3) := by decide +kernel
theorem dX11_image_85 : decode cX11_image 85 = .ok (.if_icmp .ge 27, 3) := by decide +kernel
theorem dX11_image_88 : decode cX11_image 88 = .ok (.aload_n 0, 1) := by decide +kernel
theorem dX11_image_89 : decode cX11_image 89 = .ok (.getfield 43, 3) := by decide +kernel
theorem dX11_image_92 : decode cX11_image 92 = .ok (.getfield 294, 3) := by decide +kernel
theorem dX11_image_95 : decode cX11_image 95 = .ok (.iload_n 1, 1) := by decide +kernel
theorem dX11_image_96 : decode cX11_image 96 = .ok (.aaload, 1) := by decide +kernel
theorem dX11_image_97 : decode cX11_image 97 = .ok (.aload_n 0, 1) := by decide +kernel
theorem dX11_image_98 : decode cX11_image 98 = .ok (.getfield 24, 3) := by decide +kernel
theorem dX11_image_101 : decode cX11_image 101 = .ok (.iload_n 1, 1) := by decide +kernel
theorem dX11_image_102 : decode cX11_image 102 = .ok (.aaload, 1) := by decide +kernel
theorem dX11_image_103 : decode cX11_image 103 = .ok (.invokevirtual 214, 3) := by decide +kernel
theorem dX11_image_106 : decode cX11_image 106 = .ok (.iinc 1 1, 3) := by decide +kernel
theorem dX11_image_109 : decode cX11_image 109 = .ok (.goto (-29), 3) := by decide +kernel
theorem dX11_image_112 : decode cX11_image 112 = .ok (.aload_n 0, 1) := by decide +kernel
theorem dX11_image_113 : decode cX11_image 113 = .ok (.getfield 167, 3) := by decide +kernel
theorem dX11_image_116 : decode cX11_image 116 = .ok (.ireturn, 1) := by decide +kernel
theorem dX11_back_0 : decode cX11_back 0 = .ok (.aload_n 0, 1) := by decide +kernel
theorem dX11_back_1 : decode cX11_back 1 = .ok (.getfield 43, 3) := by decide +kernel
theorem dX11_back_4 : decode cX11_back 4 = .ok (.getfield 281, 3) := by decide +kernel
theorem dX11_back_7 : decode cX11_back 7 = .ok (.ifCond .ne 6, 3) := by decide +kernel
theorem dX11_back_10 : decode cX11_back 10 = .ok (.bipush (-3), 2) := by decide +kernel
theorem dX11_back_12 : decode cX11_back 12 = .ok (.ireturn, 1) := by decide +kernel
theorem dX11_back_13 : decode cX11_back 13 = .ok (.aload_n 0, 1) := by decide +kernel
theorem dX11_back_14 : decode cX11_back 14 = .ok (.aload_n 0, 1) := by decide +kernel
theorem dX11_back_15 : decode cX11_back 15 = .ok (.getfield 43, 3) := by decide +kernel
theorem dX11_back_18 : decode cX11_back 18 = .ok (.getfield 288, 3) := by decide +kernel
theorem dX11_back_21 : decode cX11_back 21 = .ok (.putfield 138, 3) := by decide +kernel
theorem dX11_back_24 : decode cX11_back 24 = .ok (.iconst 0, 1) := by decide +kernel
theorem dX11_back_25 : decode cX11_back 25 = .ok (.istore_n 1, 1) := by decide +kernel
theorem dX11_back_26 : decode cX11_back 26 = .ok (.iload_n 1, 1) := by decide +kernel
theorem dX11_back_27 : decode cX11_back 27 = .ok (.aload_n 0, 1) := by decide +kernel
theorem dX11_back_28 : decode cX11_back 28 = .ok (.getfield 43, 3) := by decide +kernel
theorem dX11_back_31 : decode cX11_back 31 = .ok (.getfield 284, 3) := by decide +kernel
theorem dX11_back_34 : decode cX11_back 34 = .ok (.if_icmp .ge 30, 3) := by decide +kernel
theorem dX11_back_37 : decode cX11_back 37 = .ok (.aload_n 0, 1) := by decide +kernel
theorem dX11_back_38 : decode cX11_back 38 = .ok (.getfield 43, 3) := by decide +kernel
theorem dX11_back_41 : decode cX11_back 41 = .ok (.getfield 291, 3) := by decide +kernel
theorem dX11_back_44 : decode cX11_back 44 = .ok (.iload_n 1, 1) := by decide +kernel
theorem dX11_back_45 : decode cX11_back 45 = .ok (.aaload, 1) := by decide +kernel
theorem dX11_back_46 : decode cX11_back 46 = .ok (.aload_n 0, 1) := by decide +kernel
theorem dX11_back_47 : decode cX11_back 47 = .ok (.getfield 18, 3) := by decide +kernel
theorem dX11_back_50 : decode cX11_back 50 = .ok (.iload_n 1, 1) := by decide +kernel
theorem dX11_back_51 : decode cX11_back 51 = .ok (.aaload, 1) := by decide +kernel
theorem dX11_back_52 : decode cX11_back 52 = .ok (.getfield 156, 3) := by decide +kernel
theorem dX11_back_55 : decode cX11_back 55 = .ok (.invokestatic 217, 3) := by decide +kernel
theorem dX11_back_58 : decode cX11_back 58 = .ok (.iinc 1 1, 3) := by decide +kernel
theorem dX11_back_61 : decode cX11_back 61 = .ok (.goto (-35), 3) := by decide +kernel
theorem dX11_back_64 : decode cX11_back 64 = .ok (.iconst 0, 1) := by decide +kernel
theorem dX11_back_65 : decode cX11_back 65 = .ok (.istore_n 1, 1) := by decide +kernel
theorem dX11_back_66 : decode cX11_back 66 = .ok (.iload_n 1, 1) := by decide +kernel
theorem dX11_back_67 : decode cX11_back 67 = .ok (.aload_n 0, 1) := by decide +kernel
theorem dX11_back_68 : decode cX11_back 68 = .ok (.getfield 43, 3) := by decide +kernel
theorem dX11_back_71 : decode cX11_back 71 = .ok (.getfield 286, 3) := by decide +kernel
theorem dX11_back_74 : decode cX11_back 74 = .ok (.if_icmp .ge 27, 3) := by decide +kernel
theorem dX11_back_77 : decode cX11_back 77 = .ok (.aload_n 0, 1) := by decide +kernel
theorem dX11_back_78 : decode cX11_back 78 = .ok (.getfield 24, 3) := by decide +kernel
theorem dX11_back_81 : decode cX11_back 81 = .ok (.iload_n 1, 1) := by decide +kernel
theorem dX11_back_82 : decode cX11_back 82 = .ok (.aaload, 1) := by decide +kernel
theorem dX11_back_83 : decode cX11_back 83 = .ok (.aload_n 0, 1) := by decide +kernel
theorem dX11_back_84 : decode cX11_back 84 = .ok (.getfield 43, 3) := by decide +kernel
theorem dX11_back_87 : decode cX11_back 87 = .ok (.getfield 294, 3) := by decide +kernel
theorem dX11_back_90 : decode cX11_back 90 = .ok (.iload_n 1, 1) := by decide +kernel
theorem dX11_back_91 : decode cX11_back 91 = .ok (.aaload, 1) := by decide +kernel
theorem dX11_back_92 : decode cX11_back 92 = .ok (.invokevirtual 214, 3) := by decide +kernel
theorem dX11_back_95 : decode cX11_back 95 = .ok (.iinc 1 1, 3) := by decide +kernel
theorem dX11_back_98 : decode cX11_back 98 = .ok (.goto (-32), 3) := by decide +kernel
theorem dX11_back_101 : decode cX11_back 101 = .ok (.aload_n 0, 1) := by decide +kernel
theorem dX11_back_102 : decode cX11_back 102 = .ok (.getfield 167, 3) := by decide +kernel
theorem dX11_back_105 : decode cX11_back 105 = .ok (.ireturn, 1) := by decide +kernel
theorem dX11_count_0 : decode cX11_count 0 = .ok (.iload_n 1, 1) := by decide +kernel
theorem dX11_count_1 : decode cX11_count 1 = .ok (.tableswitch 81 0 6 #[43, 48, 53, 58, 66, 71, 76], 43) := by decide +kernel
theorem dX11_count_44 : decode cX11_count 44 = .ok (.aload_n 0, 1) := by decide +kernel
theorem dX11_count_45 : decode cX11_count 45 = .ok (.getfield 108, 3) := by decide +kernel
theorem dX11_count_48 : decode cX11_count 48 = .ok (.ireturn, 1) := by decide +kernel
theorem dX11_count_49 : decode cX11_count 49 = .ok (.aload_n 0, 1) := by decide +kernel
theorem dX11_count_50 : decode cX11_count 50 = .ok (.getfield 167, 3) := by decide +kernel
theorem dX11_count_53 : decode cX11_count 53 = .ok (.ireturn, 1) := by decide +kernel
theorem dX11_count_54 : decode cX11_count 54 = .ok (.aload_n 0, 1) := by decide +kernel
theorem dX11_count_55 : decode cX11_count 55 = .ok (.getfield 119, 3) := by decide +kernel
theorem dX11_count_58 : decode cX11_count 58 = .ok (.ireturn, 1) := by decide +kernel
theorem dX11_count_59 : decode cX11_count 59 = .ok (.aload_n 0, 1) := by decide +kernel
theorem dX11_count_60 : decode cX11_count 60 = .ok (.getfield 10, 3) := by decide +kernel
theorem dX11_count_63 : decode cX11_count 63 = .ok (.getfield 100, 3) := by decide +kernel
theorem dX11_count_66 : decode cX11_count 66 = .ok (.ireturn, 1) := by decide +kernel
theorem dX11_count_67 : decode cX11_count 67 = .ok (.aload_n 0, 1) := by decide +kernel
theorem dX11_count_68 : decode cX11_count 68 = .ok (.getfield 138, 3) := by decide +kernel
theorem dX11_count_71 : decode cX11_count 71 = .ok (.ireturn, 1) := by decide +kernel
theorem dX11_count_72 : decode cX11_count 72 = .ok (.aload_n 0, 1) := by decide +kernel
theorem dX11_count_73 : decode cX11_count 73 = .ok (.invokevirtual 297, 3) := by decide +kernel
theorem dX11_count_76 : decode cX11_count 76 = .ok (.ireturn, 1) := by decide +kernel
theorem dX11_count_77 : decode cX11_count 77 = .ok (.aload_n 0, 1) := by decide +kernel
theorem dX11_count_78 : decode cX11_count 78 = .ok (.invokevirtual 300, 3) := by decide +kernel
theorem dX11_count_81 : decode cX11_count 81 = .ok (.ireturn, 1) := by decide +kernel
theorem dX11_count_82 : decode cX11_count 82 = .ok (.bipush (-2), 2) := by decide +kernel
theorem dX11_count_84 : decode cX11_count 84 = .ok (.ireturn, 1) := by decide +kernel
theorem dX11_sheet_0 : decode cX11_sheet 0 = .ok (.aload_n 0, 1) := by decide +kernel
theorem dX11_sheet_1 : decode cX11_sheet 1 = .ok (.iload_n 1, 1) := by decide +kernel
theorem dX11_sheet_2 : decode cX11_sheet 2 = .ok (.invokevirtual 266, 3) := by decide +kernel
theorem dX11_sheet_5 : decode cX11_sheet 5 = .ok (.astore 4, 2) := by decide +kernel
theorem dX11_sheet_7 : decode cX11_sheet 7 = .ok (.aload 4, 2) := by decide +kernel
theorem dX11_sheet_9 : decode cX11_sheet 9 = .ok (.ifnull 13, 3) := by decide +kernel
theorem dX11_sheet_12 : decode cX11_sheet 12 = .ok (.iload_n 2, 1) := by decide +kernel
theorem dX11_sheet_13 : decode cX11_sheet 13 = .ok (.iconst (-1), 1) := by decide +kernel
theorem dX11_sheet_14 : decode cX11_sheet 14 = .ok (.if_icmp .lt 8, 3) := by decide +kernel
theorem dX11_sheet_17 : decode cX11_sheet 17 = .ok (.iload_n 2, 1) := by decide +kernel
theorem dX11_sheet_18 : decode cX11_sheet 18 = .ok (.iconst 3, 1) := by decide +kernel
theorem dX11_sheet_19 : decode cX11_sheet 19 = .ok (.if_icmp .lt 6, 3) := by decide +kernel
theorem dX11_sheet_22 : decode cX11_sheet 22 = .ok (.bipush (-2), 2) := by decide +kernel
theorem dX11_sheet_24 : decode cX11_sheet 24 = .ok (.ireturn, 1) := by decide +kernel
theorem dX11_sheet_25 : decode cX11_sheet 25 = .ok (.iload_n 2, 1) := by decide +kernel
theorem dX11_sheet_26 : decode cX11_sheet 26 = .ok (.iconst (-1), 1) := by decide +kernel
theorem dX11_sheet_27 : decode cX11_sheet 27 = .ok (.if_icmp .ne 12, 3) := by decide +kernel
theorem dX11_sheet_30 : decode cX11_sheet 30 = .ok (.aload 4, 2) := by decide +kernel
theorem dX11_sheet_32 : decode cX11_sheet 32 = .ok (.iconst (-1), 1) := by decide +kernel
theorem dX11_sheet_33 : decode cX11_sheet 33 = .ok (.iconst 0, 1) := by decide +kernel
theorem dX11_sheet_34 : decode cX11_sheet 34 = .ok (.invokevirtual 303, 3) := by decide +kernel
theorem dX11_sheet_37 : decode cX11_sheet 37 = .ok (.iconst 1, 1) := by decide +kernel
theorem dX11_sheet_38 : decode cX11_sheet 38 = .ok (.ireturn, 1) := by decide +kernel
theorem dX11_sheet_39 : decode cX11_sheet 39 = .ok (.iload_n 3, 1) := by decide +kernel
theorem dX11_sheet_40 : decode cX11_sheet 40 = .ok (.bipush 40, 2) := by decide +kernel
theorem dX11_sheet_42 : decode cX11_sheet 42 = .ok (.if_icmp .le 6, 3) := by decide +kernel
theorem dX11_sheet_45 : decode cX11_sheet 45 = .ok (.bipush (-2), 2) := by decide +kernel
theorem dX11_sheet_47 : decode cX11_sheet 47 = .ok (.ireturn, 1) := by decide +kernel
theorem dX11_sheet_48 : decode cX11_sheet 48 = .ok (.iload_n 3, 1) := by decide +kernel
theorem dX11_sheet_49 : decode cX11_sheet 49 = .ok (.ifCond .ge 6, 3) := by decide +kernel
theorem dX11_sheet_52 : decode cX11_sheet 52 = .ok (.bipush (-14), 2) := by decide +kernel
theorem dX11_sheet_54 : decode cX11_sheet 54 = .ok (.ireturn, 1) := by decide +kernel
theorem dX11_sheet_55 : decode cX11_sheet 55 = .ok (.aload 4, 2) := by decide +kernel
theorem dX11_sheet_57 : decode cX11_sheet 57 = .ok (.iload_n 2, 1) := by decide +kernel
theorem dX11_sheet_58 : decode cX11_sheet 58 = .ok (.iload_n 3, 1) := by decide +kernel
theorem dX11_sheet_59 : decode cX11_sheet 59 = .ok (.invokevirtual 303, 3) := by decide +kernel
theorem dX11_sheet_62 : decode cX11_sheet 62 = .ok (.iconst 1, 1) := by decide +kernel
theorem dX11_sheet_63 : decode cX11_sheet 63 = .ok (.ireturn, 1) := by decide +kernel
theorem dX11_cell_0 : decode cX11_cell 0 = .ok (.aload_n 0, 1) := by decide +kernel
theorem dX11_cell_1 : decode cX11_cell 1 = .ok (.iload_n 1, 1) := by decide +kernel
theorem dX11_cell_2 : decode cX11_cell 2 = .ok (.invokevirtual 266, 3) := by decide +kernel
theorem dX11_cell_5 : decode cX11_cell 5 = .ok (.astore 4, 2) := by decide +kernel
theorem dX11_cell_7 : decode cX11_cell 7 = .ok (.aload 4, 2) := by decide +kernel
theorem dX11_cell_9 : decode cX11_cell 9 = .ok (.ifnonnull 6, 3) := by decide +kernel
theorem dX11_cell_12 : decode cX11_cell 12 = .ok (.bipush (-2), 2) := by decide +kernel
theorem dX11_cell_14 : decode cX11_cell 14 = .ok (.ireturn, 1) := by decide +kernel
theorem dX11_cell_15 : decode cX11_cell 15 = .ok (.aload 4, 2) := by decide +kernel
theorem dX11_cell_17 : decode cX11_cell 17 = .ok (.invokevirtual 270, 3) := by decide +kernel
theorem dX11_cell_20 : decode cX11_cell 20 = .ok (.ifCond .eq 6, 3) := by decide +kernel
theorem dX11_cell_23 : decode cX11_cell 23 = .ok (.bipush (-11), 2) := by decide +kernel
theorem dX11_cell_25 : decode cX11_cell 25 = .ok (.ireturn, 1) := by decide +kernel
theorem dX11_cell_26 : decode cX11_cell 26 = .ok (.iload_n 2, 1) := by decide +kernel
theorem dX11_cell_27 : decode cX11_cell 27 = .ok (.aload 4, 2) := by decide +kernel
theorem dX11_cell_29 : decode cX11_cell 29 = .ok (.getfield 307, 3) := by decide +kernel
theorem dX11_cell_32 : decode cX11_cell 32 = .ok (.invokestatic 134, 3) := by decide +kernel
theorem dX11_cell_35 : decode cX11_cell 35 = .ok (.ifCond .ne 6, 3) := by decide +kernel
theorem dX11_cell_38 : decode cX11_cell 38 = .ok (.bipush (-12), 2) := by decide +kernel
theorem dX11_cell_40 : decode cX11_cell 40 = .ok (.ireturn, 1) := by decide +kernel
theorem dX11_cell_41 : decode cX11_cell 41 = .ok (.aload 4, 2) := by decide +kernel
theorem dX11_cell_43 : decode cX11_cell 43 = .ok (.getfield 308, 3) := by decide +kernel
theorem dX11_cell_46 : decode cX11_cell 46 = .ok (.iload_n 2, 1) := by decide +kernel
theorem dX11_cell_47 : decode cX11_cell 47 = .ok (.aload 4, 2) := by decide +kernel
theorem dX11_cell_49 : decode cX11_cell 49 = .ok (.iload_n 3, 1) := by decide +kernel
theorem dX11_cell_50 : decode cX11_cell 50 = .ok (.invokevirtual 311, 3) := by decide +kernel
theorem dX11_cell_53 : decode cX11_cell 53 = .ok (.invokestatic 163, 3) := by decide +kernel
theorem dX11_cell_56 : decode cX11_cell 56 = .ok (.iconst 1, 1) := by decide +kernel
theorem dX11_cell_57 : decode cX11_cell 57 = .ok (.ireturn, 1) := by decide +kernel
theorem dX11_copy_0 : decode cX11_copy 0 = .ok (.aload_n 0, 1) := by decide +kernel
theorem dX11_copy_1 : decode cX11_copy 1 = .ok (.iload_n 1, 1) := by decide +kernel
theorem dX11_copy_2 : decode cX11_copy 2 = .ok (.invokevirtual 266, 3) := by decide +kernel
theorem dX11_copy_5 : decode cX11_copy 5 = .ok (.astore 6, 2) := by decide +kernel
theorem dX11_copy_7 : decode cX11_copy 7 = .ok (.aload_n 0, 1) := by decide +kernel
theorem dX11_copy_8 : decode cX11_copy 8 = .ok (.iload_n 3, 1) := by decide +kernel
theorem dX11_copy_9 : decode cX11_copy 9 = .ok (.invokevirtual 266, 3) := by decide +kernel
theorem dX11_copy_12 : decode cX11_copy 12 = .ok (.astore 7, 2) := by decide +kernel
theorem dX11_copy_14 : decode cX11_copy 14 = .ok (.aload 6, 2) := by decide +kernel
theorem dX11_copy_16 : decode cX11_copy 16 = .ok (.ifnull 8, 3) := by decide +kernel
theorem dX11_copy_19 : decode cX11_copy 19 = .ok (.aload 7, 2) := by decide +kernel
theorem dX11_copy_21 : decode cX11_copy 21 = .ok (.ifnonnull 6, 3) := by decide +kernel
theorem dX11_copy_24 : decode cX11_copy 24 = .ok (.bipush (-2), 2) := by decide +kernel
theorem dX11_copy_26 : decode cX11_copy 26 = .ok (.ireturn, 1) := by decide +kernel
theorem dX11_copy_27 : decode cX11_copy 27 = .ok (.aload 6, 2) := by decide +kernel
theorem dX11_copy_29 : decode cX11_copy 29 = .ok (.invokevirtual 270, 3) := by decide +kernel
theorem dX11_copy_32 : decode cX11_copy 32 = .ok (.ifCond .ne 11, 3) := by decide +kernel
theorem dX11_copy_35 : decode cX11_copy 35 = .ok (.aload 7, 2) := by decide +kernel
theorem dX11_copy_37 : decode cX11_copy 37 = .ok (.invokevirtual 270, 3) := by decide +kernel
theorem dX11_copy_40 : decode cX11_copy 40 = .ok (.ifCond .eq 6, 3) := by decide +kernel
theorem dX11_copy_43 : decode cX11_copy 43 = .ok (.bipush (-11), 2) := by decide +kernel
theorem dX11_copy_45 : decode cX11_copy 45 = .ok (.ireturn, 1) := by decide +kernel
theorem dX11_copy_46 : decode cX11_copy 46 = .ok (.aload 6, 2) := by decide +kernel
theorem dX11_copy_48 : decode cX11_copy 48 = .ok (.getfield 314, 3) := by decide +kernel
theorem dX11_copy_51 : decode cX11_copy 51 = .ok (.aload 7, 2) := by decide +kernel
theorem dX11_copy_53 : decode cX11_copy 53 = .ok (.getfield 314, 3) := by decide +kernel
theorem dX11_copy_56 : decode cX11_copy 56 = .ok (.if_icmp .eq 6, 3) := by decide +kernel
theorem dX11_copy_59 : decode cX11_copy 59 = .ok (.bipush (-13), 2) := by decide +kernel
theorem dX11_copy_61 : decode cX11_copy 61 = .ok (.ireturn, 1) := by decide +kernel
theorem dX11_copy_62 : decode cX11_copy 62 = .ok (.aload 6, 2) := by decide +kernel
theorem dX11_copy_64 : decode cX11_copy 64 = .ok (.iload_n 2, 1) := by decide +kernel
theorem dX11_copy_65 : decode cX11_copy 65 = .ok (.iload 5, 2) := by decide +kernel
theorem dX11_copy_67 : decode cX11_copy 67 = .ok (.invokevirtual 317, 3) := by decide +kernel
theorem dX11_copy_70 : decode cX11_copy 70 = .ok (.ifCond .eq 15, 3) := by decide +kernel
theorem dX11_copy_73 : decode cX11_copy 73 = .ok (.aload 7, 2) := by decide +kernel
theorem dX11_copy_75 : decode cX11_copy 75 = .ok (.iload 4, 2) := by decide +kernel
theorem dX11_copy_77 : decode cX11_copy 77 = .ok (.iload 5, 2) := by decide +kernel
theorem dX11_copy_79 : decode cX11_copy 79 = .ok (.invokevirtual 317, 3) := by decide +kernel
theorem dX11_copy_82 : decode cX11_copy 82 = .ok (.ifCond .ne 6, 3) := by decide +kernel
theorem dX11_copy_85 : decode cX11_copy 85 = .ok (.bipush (-12), 2) := by decide +kernel
theorem dX11_copy_87 : decode cX11_copy 87 = .ok (.ireturn, 1) := by decide +kernel
theorem dX11_copy_88 : decode cX11_copy 88 = .ok (.aload 6, 2) := by decide +kernel
theorem dX11_copy_90 : decode cX11_copy 90 = .ok (.getfield 308, 3) := by decide +kernel
theorem dX11_copy_93 : decode cX11_copy 93 = .ok (.iload_n 2, 1) := by decide +kernel
theorem dX11_copy_94 : decode cX11_copy 94 = .ok (.aload 7, 2) := by decide +kernel
theorem dX11_copy_96 : decode cX11_copy 96 = .ok (.getfield 308, 3) := by decide +kernel
theorem dX11_copy_99 : decode cX11_copy 99 = .ok (.iload 4, 2) := by decide +kernel
theorem dX11_copy_101 : decode cX11_copy 101 = .ok (.iload 5, 2) := by decide +kernel
theorem dX11_copy_103 : decode cX11_copy 103 = .ok (.invokestatic 320, 3) := by decide +kernel
theorem dX11_copy_106 : decode cX11_copy 106 = .ok (.iload 5, 2) := by decide +kernel
theorem dX11_copy_108 : decode cX11_copy 108 = .ok (.ireturn, 1) := by decide +kernel
theorem dX11_walkers_0 : decode cX11_walkers 0 = .ok (.aload_n 0, 1) := by decide +kernel
theorem dX11_walkers_1 : decode cX11_walkers 1 = .ok (.iload_n 1, 1) := by decide +kernel
theorem dX11_walkers_2 : decode cX11_walkers 2 = .ok (.invokevirtual 266, 3) := by decide +kernel
theorem dX11_walkers_5 : decode cX11_walkers 5 = .ok (.astore 5, 2) := by decide +kernel
theorem dX11_walkers_7 : decode cX11_walkers 7 = .ok (.aload 5, 2) := by decide +kernel
theorem dX11_walkers_9 : decode cX11_walkers 9 = .ok (.ifnull 23, 3) := by decide +kernel
theorem dX11_walkers_12 : decode cX11_walkers 12 = .ok (.iload_n 2, 1) := by decide +kernel
theorem dX11_walkers_13 : decode cX11_walkers 13 = .ok (.iconst 3, 1) := by decide +kernel
theorem dX11_walkers_14 : decode cX11_walkers 14 = .ok (.invokestatic 134, 3) := by decide +kernel
theorem dX11_walkers_17 : decode cX11_walkers 17 = .ok (.ifCond .eq 15, 3) := by decide +kernel
theorem dX11_walkers_20 : decode cX11_walkers 20 = .ok (.iload 4, 2) := by decide +kernel
theorem dX11_walkers_22 : decode cX11_walkers 22 = .ok (.ifCond .lt 10, 3) := by decide +kernel
theorem dX11_walkers_25 : decode cX11_walkers 25 = .ok (.iload 4, 2) := by decide +kernel
theorem dX11_walkers_27 : decode cX11_walkers 27 = .ok (.bipush 8, 2) := by decide +kernel
theorem dX11_walkers_29 : decode cX11_walkers 29 = .ok (.if_icmp .le 6, 3) := by decide +kernel
theorem dX11_walkers_32 : decode cX11_walkers 32 = .ok (.bipush (-2), 2) := by decide +kernel
theorem dX11_walkers_34 : decode cX11_walkers 34 = .ok (.ireturn, 1) := by decide +kernel
theorem dX11_walkers_35 : decode cX11_walkers 35 = .ok (.aload 5, 2) := by decide +kernel
theorem dX11_walkers_37 : decode cX11_walkers 37 = .ok (.invokevirtual 270, 3) := by decide +kernel
theorem dX11_walkers_40 : decode cX11_walkers 40 = .ok (.ifCond .eq 6, 3) := by decide +kernel
theorem dX11_walkers_43 : decode cX11_walkers 43 = .ok (.bipush (-11), 2) := by decide +kernel
theorem dX11_walkers_45 : decode cX11_walkers 45 = .ok (.ireturn, 1) := by decide +kernel
theorem dX11_walkers_46 : decode cX11_walkers 46 = .ok (.aload 5, 2) := by decide +kernel
theorem dX11_walkers_48 : decode cX11_walkers 48 = .ok (.getfield 314, 3) := by decide +kernel
theorem dX11_walkers_51 : decode cX11_walkers 51 = .ok (.iload_n 2, 1) := by decide +kernel
theorem dX11_walkers_52 : decode cX11_walkers 52 = .ok (.if_icmp .eq 6, 3) := by decide +kernel
theorem dX11_walkers_55 : decode cX11_walkers 55 = .ok (.bipush (-13), 2) := by decide +kernel
theorem dX11_walkers_57 : decode cX11_walkers 57 = .ok (.ireturn, 1) := by decide +kernel
theorem dX11_walkers_58 : decode cX11_walkers 58 = .ok (.iconst 0, 1) := by decide +kernel
theorem dX11_walkers_59 : decode cX11_walkers 59 = .ok (.istore 6, 2) := by decide +kernel
theorem dX11_walkers_61 : decode cX11_walkers 61 = .ok (.iconst 0, 1) := by decide +kernel
theorem dX11_walkers_62 : decode cX11_walkers 62 = .ok (.istore 7, 2) := by decide +kernel
theorem dX11_walkers_64 : decode cX11_walkers 64 = .ok (.iload 7, 2) := by decide +kernel
theorem dX11_walkers_66 : decode cX11_walkers 66 = .ok (.iload 4, 2) := by decide +kernel
theorem dX11_walkers_68 : decode cX11_walkers 68 = .ok (.if_icmp .ge 75, 3) := by decide +kernel
theorem dX11_walkers_71 : decode cX11_walkers 71 = .ok (.iload_n 3, 1) := by decide +kernel
theorem dX11_walkers_72 : decode cX11_walkers 72 = .ok (.iconst 3, 1) := by decide +kernel
theorem dX11_walkers_73 : decode cX11_walkers 73 = .ok (.iload 7, 2) := by decide +kernel
theorem dX11_walkers_75 : decode cX11_walkers 75 = .ok (.imul, 1) := by decide +kernel
theorem dX11_walkers_76 : decode cX11_walkers 76 = .ok (.iadd, 1) := by decide +kernel
theorem dX11_walkers_77 : decode cX11_walkers 77 = .ok (.istore 8, 2) := by decide +kernel
theorem dX11_walkers_79 : decode cX11_walkers 79 = .ok (.aload 5, 2) := by decide +kernel
theorem dX11_walkers_81 : decode cX11_walkers 81 = .ok (.iload 8, 2) := by decide +kernel
theorem dX11_walkers_83 : decode cX11_walkers 83 = .ok (.iconst 3, 1) := by decide +kernel
theorem dX11_walkers_84 : decode cX11_walkers 84 = .ok (.invokevirtual 317, 3) := by decide +kernel
theorem dX11_walkers_87 : decode cX11_walkers 87 = .ok (.ifCond .ne 6, 3) := by decide +kernel
theorem dX11_walkers_90 : decode cX11_walkers 90 = .ok (.bipush (-12), 2) := by decide +kernel
theorem dX11_walkers_92 : decode cX11_walkers 92 = .ok (.ireturn, 1) := by decide +kernel
theorem dX11_walkers_93 : decode cX11_walkers 93 = .ok (.aload_n 0, 1) := by decide +kernel
theorem dX11_walkers_94 : decode cX11_walkers 94 = .ok (.aload 5, 2) := by decide +kernel
theorem dX11_walkers_96 : decode cX11_walkers 96 = .ok (.getfield 308, 3) := by decide +kernel
theorem dX11_walkers_99 : decode cX11_walkers 99 = .ok (.iload 8, 2) := by decide +kernel
theorem dX11_walkers_101 : decode cX11_walkers 101 = .ok (.invokestatic 159, 3) := by decide +kernel
theorem dX11_walkers_104 : decode cX11_walkers 104 = .ok (.aload 5, 2) := by decide +kernel
