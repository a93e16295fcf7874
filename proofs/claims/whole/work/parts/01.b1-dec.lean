theorem dX5_thing_99 : decode cX5_thing 99 = .ok (.ireturn, 1) := by decide +kernel
theorem dX5_letsIn_0 : decode cX5_letsIn 0 = .ok (.aload_n 0, 1) := by decide +kernel
theorem dX5_letsIn_1 : decode cX5_letsIn 1 = .ok (.iload_n 1, 1) := by decide +kernel
theorem dX5_letsIn_2 : decode cX5_letsIn 2 = .ok (.invokevirtual 93, 3) := by decide +kernel
theorem dX5_letsIn_5 : decode cX5_letsIn 5 = .ok (.ifCond .eq 12, 3) := by decide +kernel
theorem dX5_letsIn_8 : decode cX5_letsIn 8 = .ok (.iload_n 2, 1) := by decide +kernel
theorem dX5_letsIn_9 : decode cX5_letsIn 9 = .ok (.iconst 0, 1) := by decide +kernel
theorem dX5_letsIn_10 : decode cX5_letsIn 10 = .ok (.iconst 5, 1) := by decide +kernel
theorem dX5_letsIn_11 : decode cX5_letsIn 11 = .ok (.invokestatic 71, 3) := by decide +kernel
theorem dX5_letsIn_14 : decode cX5_letsIn 14 = .ok (.ifCond .ne 5, 3) := by decide +kernel
theorem dX5_letsIn_17 : decode cX5_letsIn 17 = .ok (.iconst (-1), 1) := by decide +kernel
theorem dX5_letsIn_18 : decode cX5_letsIn 18 = .ok (.ireturn, 1) := by decide +kernel
theorem dX5_letsIn_19 : decode cX5_letsIn 19 = .ok (.aload_n 0, 1) := by decide +kernel
theorem dX5_letsIn_20 : decode cX5_letsIn 20 = .ok (.getfield 58, 3) := by decide +kernel
theorem dX5_letsIn_23 : decode cX5_letsIn 23 = .ok (.getfield 140, 3) := by decide +kernel
theorem dX5_letsIn_26 : decode cX5_letsIn 26 = .ok (.iload_n 1, 1) := by decide +kernel
theorem dX5_letsIn_27 : decode cX5_letsIn 27 = .ok (.iaload, 1) := by decide +kernel
theorem dX5_letsIn_28 : decode cX5_letsIn 28 = .ok (.iload_n 2, 1) := by decide +kernel
theorem dX5_letsIn_29 : decode cX5_letsIn 29 = .ok (.invokestatic 143, 3) := by decide +kernel
theorem dX5_letsIn_32 : decode cX5_letsIn 32 = .ok (.ifCond .eq 7, 3) := by decide +kernel
theorem dX5_letsIn_35 : decode cX5_letsIn 35 = .ok (.iconst 1, 1) := by decide +kernel
theorem dX5_letsIn_36 : decode cX5_letsIn 36 = .ok (.goto 4, 3) := by decide +kernel
theorem dX5_letsIn_39 : decode cX5_letsIn 39 = .ok (.iconst 0, 1) := by decide +kernel
theorem dX5_letsIn_40 : decode cX5_letsIn 40 = .ok (.ireturn, 1) := by decide +kernel
theorem dX5_fixed_0 : decode cX5_fixed 0 = .ok (.iload_n 1, 1) := by decide +kernel
theorem dX5_fixed_1 : decode cX5_fixed 1 = .ok (.iconst 0, 1) := by decide +kernel
theorem dX5_fixed_2 : decode cX5_fixed 2 = .ok (.iconst 5, 1) := by decide +kernel
theorem dX5_fixed_3 : decode cX5_fixed 3 = .ok (.invokestatic 71, 3) := by decide +kernel
theorem dX5_fixed_6 : decode cX5_fixed 6 = .ok (.ifCond .eq 15, 3) := by decide +kernel
theorem dX5_fixed_9 : decode cX5_fixed 9 = .ok (.aload_n 0, 1) := by decide +kernel
theorem dX5_fixed_10 : decode cX5_fixed 10 = .ok (.getfield 58, 3) := by decide +kernel
theorem dX5_fixed_13 : decode cX5_fixed 13 = .ok (.getfield 147, 3) := by decide +kernel
theorem dX5_fixed_16 : decode cX5_fixed 16 = .ok (.iload_n 1, 1) := by decide +kernel
theorem dX5_fixed_17 : decode cX5_fixed 17 = .ok (.iaload, 1) := by decide +kernel
theorem dX5_fixed_18 : decode cX5_fixed 18 = .ok (.goto 4, 3) := by decide +kernel
theorem dX5_fixed_21 : decode cX5_fixed 21 = .ok (.iconst (-1), 1) := by decide +kernel
theorem dX5_fixed_22 : decode cX5_fixed 22 = .ok (.ireturn, 1) := by decide +kernel
theorem dX5_now_0 : decode cX5_now 0 = .ok (.iload_n 1, 1) := by decide +kernel
theorem dX5_now_1 : decode cX5_now 1 = .ok (.tableswitch 72 0 4 #[35, 43, 51, 56, 64], 35) := by decide +kernel
theorem dX5_now_36 : decode cX5_now 36 = .ok (.aload_n 0, 1) := by decide +kernel
theorem dX5_now_37 : decode cX5_now 37 = .ok (.getfield 19, 3) := by decide +kernel
theorem dX5_now_40 : decode cX5_now 40 = .ok (.getfield 150, 3) := by decide +kernel
theorem dX5_now_43 : decode cX5_now 43 = .ok (.ireturn, 1) := by decide +kernel
theorem dX5_now_44 : decode cX5_now 44 = .ok (.aload_n 0, 1) := by decide +kernel
theorem dX5_now_45 : decode cX5_now 45 = .ok (.getfield 19, 3) := by decide +kernel
theorem dX5_now_48 : decode cX5_now 48 = .ok (.getfield 153, 3) := by decide +kernel
theorem dX5_now_51 : decode cX5_now 51 = .ok (.ireturn, 1) := by decide +kernel
theorem dX5_now_52 : decode cX5_now 52 = .ok (.aload_n 0, 1) := by decide +kernel
theorem dX5_now_53 : decode cX5_now 53 = .ok (.invokevirtual 156, 3) := by decide +kernel
theorem dX5_now_56 : decode cX5_now 56 = .ok (.ireturn, 1) := by decide +kernel
theorem dX5_now_57 : decode cX5_now 57 = .ok (.aload_n 0, 1) := by decide +kernel
theorem dX5_now_58 : decode cX5_now 58 = .ok (.getfield 58, 3) := by decide +kernel
theorem dX5_now_61 : decode cX5_now 61 = .ok (.invokevirtual 160, 3) := by decide +kernel
theorem dX5_now_64 : decode cX5_now 64 = .ok (.ireturn, 1) := by decide +kernel
theorem dX5_now_65 : decode cX5_now 65 = .ok (.aload_n 0, 1) := by decide +kernel
theorem dX5_now_66 : decode cX5_now 66 = .ok (.getfield 26, 3) := by decide +kernel
theorem dX5_now_69 : decode cX5_now 69 = .ok (.getfield 90, 3) := by decide +kernel
theorem dX5_now_72 : decode cX5_now 72 = .ok (.ireturn, 1) := by decide +kernel
theorem dX5_now_73 : decode cX5_now 73 = .ok (.iconst (-1), 1) := by decide +kernel
theorem dX5_now_74 : decode cX5_now 74 = .ok (.ireturn, 1) := by decide +kernel
theorem dX5_moves_0 : decode cX5_moves 0 = .ok (.aload_n 0, 1) := by decide +kernel
theorem dX5_moves_1 : decode cX5_moves 1 = .ok (.iload_n 1, 1) := by decide +kernel
theorem dX5_moves_2 : decode cX5_moves 2 = .ok (.invokevirtual 122, 3) := by decide +kernel
theorem dX5_moves_5 : decode cX5_moves 5 = .ok (.ifCond .eq 11, 3) := by decide +kernel
theorem dX5_moves_8 : decode cX5_moves 8 = .ok (.aload_n 0, 1) := by decide +kernel
theorem dX5_moves_9 : decode cX5_moves 9 = .ok (.iload_n 2, 1) := by decide +kernel
theorem dX5_moves_10 : decode cX5_moves 10 = .ok (.invokevirtual 93, 3) := by decide +kernel
theorem dX5_moves_13 : decode cX5_moves 13 = .ok (.ifCond .ne 5, 3) := by decide +kernel
theorem dX5_moves_16 : decode cX5_moves 16 = .ok (.iconst (-1), 1) := by decide +kernel
theorem dX5_moves_17 : decode cX5_moves 17 = .ok (.ireturn, 1) := by decide +kernel
theorem dX5_moves_18 : decode cX5_moves 18 = .ok (.aload_n 0, 1) := by decide +kernel
theorem dX5_moves_19 : decode cX5_moves 19 = .ok (.getfield 19, 3) := by decide +kernel
theorem dX5_moves_22 : decode cX5_moves 22 = .ok (.getfield 134, 3) := by decide +kernel
theorem dX5_moves_25 : decode cX5_moves 25 = .ok (.iload_n 1, 1) := by decide +kernel
theorem dX5_moves_26 : decode cX5_moves 26 = .ok (.iaload, 1) := by decide +kernel
theorem dX5_moves_27 : decode cX5_moves 27 = .ok (.istore_n 3, 1) := by decide +kernel
theorem dX5_moves_28 : decode cX5_moves 28 = .ok (.aload_n 0, 1) := by decide +kernel
theorem dX5_moves_29 : decode cX5_moves 29 = .ok (.getfield 58, 3) := by decide +kernel
theorem dX5_moves_32 : decode cX5_moves 32 = .ok (.getfield 125, 3) := by decide +kernel
theorem dX5_moves_35 : decode cX5_moves 35 = .ok (.iload_n 1, 1) := by decide +kernel
theorem dX5_moves_36 : decode cX5_moves 36 = .ok (.iaload, 1) := by decide +kernel
theorem dX5_moves_37 : decode cX5_moves 37 = .ok (.istore 4, 2) := by decide +kernel
theorem dX5_moves_39 : decode cX5_moves 39 = .ok (.aload_n 0, 1) := by decide +kernel
theorem dX5_moves_40 : decode cX5_moves 40 = .ok (.getfield 58, 3) := by decide +kernel
theorem dX5_moves_43 : decode cX5_moves 43 = .ok (.iload_n 3, 1) := by decide +kernel
theorem dX5_moves_44 : decode cX5_moves 44 = .ok (.iload_n 2, 1) := by decide +kernel
theorem dX5_moves_45 : decode cX5_moves 45 = .ok (.iload 4, 2) := by decide +kernel
theorem dX5_moves_47 : decode cX5_moves 47 = .ok (.invokevirtual 163, 3) := by decide +kernel
theorem dX5_moves_50 : decode cX5_moves 50 = .ok (.ifCond .eq 20, 3) := by decide +kernel
theorem dX5_moves_53 : decode cX5_moves 53 = .ok (.aload_n 0, 1) := by decide +kernel
theorem dX5_moves_54 : decode cX5_moves 54 = .ok (.iload_n 2, 1) := by decide +kernel
theorem dX5_moves_55 : decode cX5_moves 55 = .ok (.aload_n 0, 1) := by decide +kernel
theorem dX5_moves_56 : decode cX5_moves 56 = .ok (.getfield 58, 3) := by decide +kernel
theorem dX5_moves_59 : decode cX5_moves 59 = .ok (.getfield 128, 3) := by decide +kernel
theorem dX5_moves_62 : decode cX5_moves 62 = .ok (.iload_n 1, 1) := by decide +kernel
theorem dX5_moves_63 : decode cX5_moves 63 = .ok (.iaload, 1) := by decide +kernel
theorem dX5_moves_64 : decode cX5_moves 64 = .ok (.invokevirtual 166, 3) := by decide +kernel
theorem dX5_moves_67 : decode cX5_moves 67 = .ok (.ifCond .ne 6, 3) := by decide +kernel
theorem dX5_moves_70 : decode cX5_moves 70 = .ok (.bipush (-2), 2) := by decide +kernel
theorem dX5_moves_72 : decode cX5_moves 72 = .ok (.ireturn, 1) := by decide +kernel
theorem dX5_moves_73 : decode cX5_moves 73 = .ok (.aload_n 0, 1) := by decide +kernel
theorem dX5_moves_74 : decode cX5_moves 74 = .ok (.getfield 26, 3) := by decide +kernel
theorem dX5_moves_77 : decode cX5_moves 77 = .ok (.aload_n 0, 1) := by decide +kernel
theorem dX5_moves_78 : decode cX5_moves 78 = .ok (.getfield 19, 3) := by decide +kernel
theorem dX5_moves_81 : decode cX5_moves 81 = .ok (.invokevirtual 169, 3) := by decide +kernel
theorem dX5_moves_84 : decode cX5_moves 84 = .ok (.aload_n 0, 1) := by decide +kernel
theorem dX5_moves_85 : decode cX5_moves 85 = .ok (.getfield 58, 3) := by decide +kernel
theorem dX5_moves_88 : decode cX5_moves 88 = .ok (.iload_n 3, 1) := by decide +kernel
theorem dX5_moves_89 : decode cX5_moves 89 = .ok (.iload_n 2, 1) := by decide +kernel
theorem dX5_moves_90 : decode cX5_moves 90 = .ok (.iload 4, 2) := by decide +kernel
theorem dX5_moves_92 : decode cX5_moves 92 = .ok (.invokevirtual 173, 3) := by decide +kernel
theorem dX5_moves_95 : decode cX5_moves 95 = .ok (.istore 5, 2) := by decide +kernel
theorem dX5_moves_97 : decode cX5_moves 97 = .ok (.aload_n 0, 1) := by decide +kernel
theorem dX5_moves_98 : decode cX5_moves 98 = .ok (.getfield 19, 3) := by decide +kernel
theorem dX5_moves_101 : decode cX5_moves 101 = .ok (.getfield 134, 3) := by decide +kernel
theorem dX5_moves_104 : decode cX5_moves 104 = .ok (.iload_n 1, 1) := by decide +kernel
theorem dX5_moves_105 : decode cX5_moves 105 = .ok (.iload_n 2, 1) := by decide +kernel
theorem dX5_moves_106 : decode cX5_moves 106 = .ok (.iastore, 1) := by decide +kernel
theorem dX5_moves_107 : decode cX5_moves 107 = .ok (.aload_n 0, 1) := by decide +kernel
theorem dX5_moves_108 : decode cX5_moves 108 = .ok (.getfield 19, 3) := by decide +kernel
theorem dX5_moves_111 : decode cX5_moves 111 = .ok (.dup, 1) := by decide +kernel
theorem dX5_moves_112 : decode cX5_moves 112 = .ok (.getfield 153, 3) := by decide +kernel
theorem dX5_moves_115 : decode cX5_moves 115 = .ok (.iload 5, 2) := by decide +kernel
theorem dX5_moves_117 : decode cX5_moves 117 = .ok (.iadd, 1) := by decide +kernel
theorem dX5_moves_118 : decode cX5_moves 118 = .ok (.putfield 153, 3) := by decide +kernel
theorem dX5_moves_121 : decode cX5_moves 121 = .ok (.iload 5, 2) := by decide +kernel
theorem dX5_moves_123 : decode cX5_moves 123 = .ok (.ireturn, 1) := by decide +kernel
theorem dX5_night_0 : decode cX5_night 0 = .ok (.aload_n 0, 1) := by decide +kernel
theorem dX5_night_1 : decode cX5_night 1 = .ok (.getfield 19, 3) := by decide +kernel
theorem dX5_night_4 : decode cX5_night 4 = .ok (.getfield 150, 3) := by decide +kernel
theorem dX5_night_7 : decode cX5_night 7 = .ok (.sipush 999, 3) := by decide +kernel
theorem dX5_night_10 : decode cX5_night 10 = .ok (.if_icmp .lt 6, 3) := by decide +kernel
theorem dX5_night_13 : decode cX5_night 13 = .ok (.bipush (-2), 2) := by decide +kernel
theorem dX5_night_15 : decode cX5_night 15 = .ok (.ireturn, 1) := by decide +kernel
theorem dX5_night_16 : decode cX5_night 16 = .ok (.aload_n 0, 1) := by decide +kernel
theorem dX5_night_17 : decode cX5_night 17 = .ok (.getfield 26, 3) := by decide +kernel
theorem dX5_night_20 : decode cX5_night 20 = .ok (.aload_n 0, 1) := by decide +kernel
theorem dX5_night_21 : decode cX5_night 21 = .ok (.getfield 19, 3) := by decide +kernel
theorem dX5_night_24 : decode cX5_night 24 = .ok (.invokevirtual 169, 3) := by decide +kernel
theorem dX5_night_27 : decode cX5_night 27 = .ok (.iconst 0, 1) := by decide +kernel
theorem dX5_night_28 : decode cX5_night 28 = .ok (.istore_n 1, 1) := by decide +kernel
theorem dX5_night_29 : decode cX5_night 29 = .ok (.iconst 0, 1) := by decide +kernel
theorem dX5_night_30 : decode cX5_night 30 = .ok (.istore_n 2, 1) := by decide +kernel
theorem dX5_night_31 : decode cX5_night 31 = .ok (.iload_n 2, 1) := by decide +kernel
theorem dX5_night_32 : decode cX5_night 32 = .ok (.aload_n 0, 1) := by decide +kernel
theorem dX5_night_33 : decode cX5_night 33 = .ok (.getfield 58, 3) := by decide +kernel
theorem dX5_night_36 : decode cX5_night 36 = .ok (.getfield 177, 3) := by decide +kernel
theorem dX5_night_39 : decode cX5_night 39 = .ok (.if_icmp .ge 20, 3) := by decide +kernel
theorem dX5_night_42 : decode cX5_night 42 = .ok (.aload_n 0, 1) := by decide +kernel
theorem dX5_night_43 : decode cX5_night 43 = .ok (.iload_n 2, 1) := by decide +kernel
theorem dX5_night_44 : decode cX5_night 44 = .ok (.invokevirtual 180, 3) := by decide +kernel
theorem dX5_night_47 : decode cX5_night 47 = .ok (.ifCond .eq 6, 3) := by decide +kernel
theorem dX5_night_50 : decode cX5_night 50 = .ok (.iinc 1 1, 3) := by decide +kernel
theorem dX5_night_53 : decode cX5_night 53 = .ok (.iinc 2 1, 3) := by decide +kernel
theorem dX5_night_56 : decode cX5_night 56 = .ok (.goto (-25), 3) := by decide +kernel
theorem dX5_night_59 : decode cX5_night 59 = .ok (.aload_n 0, 1) := by decide +kernel
theorem dX5_night_60 : decode cX5_night 60 = .ok (.getfield 19, 3) := by decide +kernel
theorem dX5_night_63 : decode cX5_night 63 = .ok (.dup, 1) := by decide +kernel
theorem dX5_night_64 : decode cX5_night 64 = .ok (.getfield 150, 3) := by decide +kernel
theorem dX5_night_67 : decode cX5_night 67 = .ok (.iconst 1, 1) := by decide +kernel
theorem dX5_night_68 : decode cX5_night 68 = .ok (.iadd, 1) := by decide +kernel
theorem dX5_night_69 : decode cX5_night 69 = .ok (.putfield 150, 3) := by decide +kernel
theorem dX5_night_72 : decode cX5_night 72 = .ok (.iload_n 1, 1) := by decide +kernel
theorem dX5_night_73 : decode cX5_night 73 = .ok (.ireturn, 1) := by decide +kernel
theorem dX5_undo_0 : decode cX5_undo 0 = .ok (.aload_n 0, 1) := by decide +kernel
theorem dX5_undo_1 : decode cX5_undo 1 = .ok (.getfield 26, 3) := by decide +kernel
theorem dX5_undo_4 : decode cX5_undo 4 = .ok (.getfield 90, 3) := by decide +kernel
theorem dX5_undo_7 : decode cX5_undo 7 = .ok (.ifCond .ne 6, 3) := by decide +kernel
theorem dX5_undo_10 : decode cX5_undo 10 = .ok (.bipush (-2), 2) := by decide +kernel
theorem dX5_undo_12 : decode cX5_undo 12 = .ok (.ireturn, 1) := by decide +kernel
theorem dX5_undo_13 : decode cX5_undo 13 = .ok (.aload_n 0, 1) := by decide +kernel
theorem dX5_undo_14 : decode cX5_undo 14 = .ok (.getfield 26, 3) := by decide +kernel
theorem dX5_undo_17 : decode cX5_undo 17 = .ok (.aload_n 0, 1) := by decide +kernel
theorem dX5_undo_18 : decode cX5_undo 18 = .ok (.getfield 19, 3) := by decide +kernel
theorem dX5_undo_21 : decode cX5_undo 21 = .ok (.invokevirtual 183, 3) := by decide +kernel
theorem dX5_undo_24 : decode cX5_undo 24 = .ok (.aload_n 0, 1) := by decide +kernel
theorem dX5_undo_25 : decode cX5_undo 25 = .ok (.getfield 26, 3) := by decide +kernel
theorem dX5_undo_28 : decode cX5_undo 28 = .ok (.getfield 90, 3) := by decide +kernel
theorem dX5_undo_31 : decode cX5_undo 31 = .ok (.ireturn, 1) := by decide +kernel
theorem dX5_way_0 : decode cX5_way 0 = .ok (.aload_n 0, 1) := by decide +kernel
theorem dX5_way_1 : decode cX5_way 1 = .ok (.iload_n 1, 1) := by decide +kernel
theorem dX5_way_2 : decode cX5_way 2 = .ok (.invokevirtual 122, 3) := by decide +kernel
theorem dX5_way_5 : decode cX5_way 5 = .ok (.ifCond .eq 20, 3) := by decide +kernel
theorem dX5_way_8 : decode cX5_way 8 = .ok (.aload_n 0, 1) := by decide +kernel
theorem dX5_way_9 : decode cX5_way 9 = .ok (.iload_n 2, 1) := by decide +kernel
theorem dX5_way_10 : decode cX5_way 10 = .ok (.invokevirtual 93, 3) := by decide +kernel
theorem dX5_way_13 : decode cX5_way 13 = .ok (.ifCond .eq 12, 3) := by decide +kernel
theorem dX5_way_16 : decode cX5_way 16 = .ok (.iload_n 3, 1) := by decide +kernel
theorem dX5_way_17 : decode cX5_way 17 = .ok (.iconst 0, 1) := by decide +kernel
theorem dX5_way_18 : decode cX5_way 18 = .ok (.iconst 1, 1) := by decide +kernel
theorem dX5_way_19 : decode cX5_way 19 = .ok (.invokestatic 71, 3) := by decide +kernel
theorem dX5_way_22 : decode cX5_way 22 = .ok (.ifCond .ne 5, 3) := by decide +kernel
theorem dX5_way_25 : decode cX5_way 25 = .ok (.iconst (-1), 1) := by decide +kernel
theorem dX5_way_26 : decode cX5_way 26 = .ok (.ireturn, 1) := by decide +kernel
theorem dX5_way_27 : decode cX5_way 27 = .ok (.aload_n 0, 1) := by decide +kernel
theorem dX5_way_28 : decode cX5_way 28 = .ok (.iload_n 1, 1) := by decide +kernel
theorem dX5_way_29 : decode cX5_way 29 = .ok (.iload_n 2, 1) := by decide +kernel
theorem dX5_way_30 : decode cX5_way 30 = .ok (.iload_n 3, 1) := by decide +kernel
theorem dX5_way_31 : decode cX5_way 31 = .ok (.iconst 1, 1) := by decide +kernel
theorem dX5_way_32 : decode cX5_way 32 = .ok (.if_icmp .ne 7, 3) := by decide +kernel
theorem dX5_way_35 : decode cX5_way 35 = .ok (.iconst 1, 1) := by decide +kernel
theorem dX5_way_36 : decode cX5_way 36 = .ok (.goto 4, 3) := by decide +kernel
theorem dX5_way_39 : decode cX5_way 39 = .ok (.iconst 0, 1) := by decide +kernel
theorem dX5_way_40 : decode cX5_way 40 = .ok (.bipush (-9), 2) := by decide +kernel
theorem dX5_way_42 : decode cX5_way 42 = .ok (.bipush (-9), 2) := by decide +kernel
theorem dX5_way_44 : decode cX5_way 44 = .ok (.invokevirtual 186, 3) := by decide +kernel
theorem dX5_way_47 : decode cX5_way 47 = .ok (.ireturn, 1) := by decide +kernel
theorem dX5_stow_0 : decode cX5_stow 0 = .ok (.iload_n 1, 1) := by decide +kernel
theorem dX5_stow_1 : decode cX5_stow 1 = .ok (.iconst (-1), 1) := by decide +kernel
theorem dX5_stow_2 : decode cX5_stow 2 = .ok (.if_icmp .eq 13, 3) := by decide +kernel
theorem dX5_stow_5 : decode cX5_stow 5 = .ok (.aload_n 0, 1) := by decide +kernel
theorem dX5_stow_6 : decode cX5_stow 6 = .ok (.iload_n 1, 1) := by decide +kernel
theorem dX5_stow_7 : decode cX5_stow 7 = .ok (.invokevirtual 122, 3) := by decide +kernel
theorem dX5_stow_10 : decode cX5_stow 10 = .ok (.ifCond .ne 5, 3) := by decide +kernel
theorem dX5_stow_13 : decode cX5_stow 13 = .ok (.iconst (-1), 1) := by decide +kernel
theorem dX5_stow_14 : decode cX5_stow 14 = .ok (.ireturn, 1) := by decide +kernel
theorem dX5_stow_15 : decode cX5_stow 15 = .ok (.aload_n 0, 1) := by decide +kernel
theorem dX5_stow_16 : decode cX5_stow 16 = .ok (.getfield 41, 3) := by decide +kernel
theorem dX5_stow_19 : decode cX5_stow 19 = .ok (.aload_n 0, 1) := by decide +kernel
theorem dX5_stow_20 : decode cX5_stow 20 = .ok (.getfield 58, 3) := by decide +kernel
theorem dX5_stow_23 : decode cX5_stow 23 = .ok (.aload_n 0, 1) := by decide +kernel
theorem dX5_stow_24 : decode cX5_stow 24 = .ok (.getfield 19, 3) := by decide +kernel
theorem dX5_stow_27 : decode cX5_stow 27 = .ok (.invokevirtual 190, 3) := by decide +kernel
theorem dX5_stow_30 : decode cX5_stow 30 = .ok (.istore_n 2, 1) := by decide +kernel
theorem dX5_stow_31 : decode cX5_stow 31 = .ok (.iload_n 2, 1) := by decide +kernel
theorem dX5_stow_32 : decode cX5_stow 32 = .ok (.bipush (-9), 2) := by decide +kernel
theorem dX5_stow_34 : decode cX5_stow 34 = .ok (.if_icmp .eq 8, 3) := by decide +kernel
theorem dX5_stow_37 : decode cX5_stow 37 = .ok (.iload_n 1, 1) := by decide +kernel
theorem dX5_stow_38 : decode cX5_stow 38 = .ok (.iconst (-1), 1) := by decide +kernel
theorem dX5_stow_39 : decode cX5_stow 39 = .ok (.if_icmp .ne 7, 3) := by decide +kernel
theorem dX5_stow_42 : decode cX5_stow 42 = .ok (.iload_n 2, 1) := by decide +kernel
theorem dX5_stow_43 : decode cX5_stow 43 = .ok (.goto 12, 3) := by decide +kernel
theorem dX5_stow_46 : decode cX5_stow 46 = .ok (.aload_n 0, 1) := by decide +kernel
theorem dX5_stow_47 : decode cX5_stow 47 = .ok (.getfield 41, 3) := by decide +kernel
theorem dX5_stow_50 : decode cX5_stow 50 = .ok (.getfield 194, 3) := by decide +kernel
theorem dX5_stow_53 : decode cX5_stow 53 = .ok (.iload_n 1, 1) := by decide +kernel
theorem dX5_stow_54 : decode cX5_stow 54 = .ok (.iaload, 1) := by decide +kernel
theorem dX5_stow_55 : decode cX5_stow 55 = .ok (.ireturn, 1) := by decide +kernel
theorem dX5_hoard_0 : decode cX5_hoard 0 = .ok (.aload_n 0, 1) := by decide +kernel
theorem dX5_hoard_1 : decode cX5_hoard 1 = .ok (.iload_n 1, 1) := by decide +kernel
theorem dX5_hoard_2 : decode cX5_hoard 2 = .ok (.invokevirtual 93, 3) := by decide +kernel
theorem dX5_hoard_5 : decode cX5_hoard 5 = .ok (.ifCond .ne 5, 3) := by decide +kernel
theorem dX5_hoard_8 : decode cX5_hoard 8 = .ok (.iconst (-1), 1) := by decide +kernel
theorem dX5_hoard_9 : decode cX5_hoard 9 = .ok (.ireturn, 1) := by decide +kernel
theorem dX5_hoard_10 : decode cX5_hoard 10 = .ok (.iconst 0, 1) := by decide +kernel
theorem dX5_hoard_11 : decode cX5_hoard 11 = .ok (.istore_n 2, 1) := by decide +kernel
theorem dX5_hoard_12 : decode cX5_hoard 12 = .ok (.iconst 0, 1) := by decide +kernel
theorem dX5_hoard_13 : decode cX5_hoard 13 = .ok (.istore_n 3, 1) := by decide +kernel
theorem dX5_hoard_14 : decode cX5_hoard 14 = .ok (.iload_n 3, 1) := by decide +kernel
theorem dX5_hoard_15 : decode cX5_hoard 15 = .ok (.iconst 1, 1) := by decide +kernel
theorem dX5_hoard_16 : decode cX5_hoard 16 = .ok (.aload_n 0, 1) := by decide +kernel
theorem dX5_hoard_17 : decode cX5_hoard 17 = .ok (.getfield 58, 3) := by decide +kernel
theorem dX5_hoard_20 : decode cX5_hoard 20 = .ok (.getfield 177, 3) := by decide +kernel
theorem dX5_hoard_23 : decode cX5_hoard 23 = .ok (.ishl, 1) := by decide +kernel
theorem dX5_hoard_24 : decode cX5_hoard 24 = .ok (.if_icmp .ge 23, 3) := by decide +kernel
theorem dX5_hoard_27 : decode cX5_hoard 27 = .ok (.iload_n 2, 1) := by decide +kernel
theorem dX5_hoard_28 : decode cX5_hoard 28 = .ok (.aload_n 0, 1) := by decide +kernel
theorem dX5_hoard_29 : decode cX5_hoard 29 = .ok (.getfield 58, 3) := by decide +kernel
theorem dX5_hoard_32 : decode cX5_hoard 32 = .ok (.iload_n 3, 1) := by decide +kernel
theorem dX5_hoard_33 : decode cX5_hoard 33 = .ok (.iload_n 1, 1) := by decide +kernel
theorem dX5_hoard_34 : decode cX5_hoard 34 = .ok (.invokevirtual 197, 3) := by decide +kernel
theorem dX5_hoard_37 : decode cX5_hoard 37 = .ok (.invokestatic 201, 3) := by decide +kernel
theorem dX5_hoard_40 : decode cX5_hoard 40 = .ok (.istore_n 2, 1) := by decide +kernel
theorem dX5_hoard_41 : decode cX5_hoard 41 = .ok (.iinc 3 1, 3) := by decide +kernel
theorem dX5_hoard_44 : decode cX5_hoard 44 = .ok (.goto (-30), 3) := by decide +kernel
theorem dX5_hoard_47 : decode cX5_hoard 47 = .ok (.iload_n 2, 1) := by decide +kernel
theorem dX5_hoard_48 : decode cX5_hoard 48 = .ok (.ireturn, 1) := by decide +kernel
theorem dX5_saves_0 : decode cX5_saves 0 = .ok (.aload_n 0, 1) := by decide +kernel
theorem dX5_saves_1 : decode cX5_saves 1 = .ok (.iload_n 1, 1) := by decide +kernel
theorem dX5_saves_2 : decode cX5_saves 2 = .ok (.invokevirtual 122, 3) := by decide +kernel
theorem dX5_saves_5 : decode cX5_saves 5 = .ok (.ifCond .eq 11, 3) := by decide +kernel
theorem dX5_saves_8 : decode cX5_saves 8 = .ok (.aload_n 0, 1) := by decide +kernel
theorem dX5_saves_9 : decode cX5_saves 9 = .ok (.iload_n 2, 1) := by decide +kernel
theorem dX5_saves_10 : decode cX5_saves 10 = .ok (.invokevirtual 93, 3) := by decide +kernel
theorem dX5_saves_13 : decode cX5_saves 13 = .ok (.ifCond .ne 5, 3) := by decide +kernel
theorem dX5_saves_16 : decode cX5_saves 16 = .ok (.iconst (-1), 1) := by decide +kernel
theorem dX5_saves_17 : decode cX5_saves 17 = .ok (.ireturn, 1) := by decide +kernel
theorem dX5_saves_18 : decode cX5_saves 18 = .ok (.aload_n 0, 1) := by decide +kernel
theorem dX5_saves_19 : decode cX5_saves 19 = .ok (.getfield 58, 3) := by decide +kernel
theorem dX5_saves_22 : decode cX5_saves 22 = .ok (.getfield 125, 3) := by decide +kernel
theorem dX5_saves_25 : decode cX5_saves 25 = .ok (.iload_n 1, 1) := by decide +kernel
theorem dX5_saves_26 : decode cX5_saves 26 = .ok (.iaload, 1) := by decide +kernel
theorem dX5_saves_27 : decode cX5_saves 27 = .ok (.istore_n 3, 1) := by decide +kernel
theorem dX5_saves_28 : decode cX5_saves 28 = .ok (.aload_n 0, 1) := by decide +kernel
theorem dX5_saves_29 : decode cX5_saves 29 = .ok (.iload_n 1, 1) := by decide +kernel
theorem dX5_saves_30 : decode cX5_saves 30 = .ok (.iload_n 2, 1) := by decide +kernel
theorem dX5_saves_31 : decode cX5_saves 31 = .ok (.iconst 1, 1) := by decide +kernel
theorem dX5_saves_32 : decode cX5_saves 32 = .ok (.bipush (-9), 2) := by decide +kernel
theorem dX5_saves_34 : decode cX5_saves 34 = .ok (.bipush (-9), 2) := by decide +kernel
theorem dX5_saves_36 : decode cX5_saves 36 = .ok (.invokevirtual 186, 3) := by decide +kernel
theorem dX5_saves_39 : decode cX5_saves 39 = .ok (.istore 4, 2) := by decide +kernel
theorem dX5_saves_41 : decode cX5_saves 41 = .ok (.bipush (-9), 2) := by decide +kernel
theorem dX5_saves_43 : decode cX5_saves 43 = .ok (.istore 5, 2) := by decide +kernel
theorem dX5_saves_45 : decode cX5_saves 45 = .ok (.iconst 0, 1) := by decide +kernel
theorem dX5_saves_46 : decode cX5_saves 46 = .ok (.istore 6, 2) := by decide +kernel
theorem dX5_saves_48 : decode cX5_saves 48 = .ok (.iload 6, 2) := by decide +kernel
theorem dX5_saves_50 : decode cX5_saves 50 = .ok (.aload_n 0, 1) := by decide +kernel
theorem dX5_saves_51 : decode cX5_saves 51 = .ok (.getfield 58, 3) := by decide +kernel
theorem dX5_saves_54 : decode cX5_saves 54 = .ok (.getfield 206, 3) := by decide +kernel
theorem dX5_saves_57 : decode cX5_saves 57 = .ok (.if_icmp .ge 110, 3) := by decide +kernel
theorem dX5_saves_60 : decode cX5_saves 60 = .ok (.iload 6, 2) := by decide +kernel
theorem dX5_saves_62 : decode cX5_saves 62 = .ok (.iconst 1, 1) := by decide +kernel
theorem dX5_saves_63 : decode cX5_saves 63 = .ok (.iadd, 1) := by decide +kernel
theorem dX5_saves_64 : decode cX5_saves 64 = .ok (.istore 7, 2) := by decide +kernel
theorem dX5_saves_66 : decode cX5_saves 66 = .ok (.iload 7, 2) := by decide +kernel
theorem dX5_saves_68 : decode cX5_saves 68 = .ok (.aload_n 0, 1) := by decide +kernel
theorem dX5_saves_69 : decode cX5_saves 69 = .ok (.getfield 58, 3) := by decide +kernel
theorem dX5_saves_72 : decode cX5_saves 72 = .ok (.getfield 206, 3) := by decide +kernel
theorem dX5_saves_75 : decode cX5_saves 75 = .ok (.if_icmp .ge 86, 3) := by decide +kernel
theorem dX5_saves_78 : decode cX5_saves 78 = .ok (.aload_n 0, 1) := by decide +kernel
theorem dX5_saves_79 : decode cX5_saves 79 = .ok (.getfield 58, 3) := by decide +kernel
theorem dX5_saves_82 : decode cX5_saves 82 = .ok (.getfield 116, 3) := by decide +kernel
theorem dX5_saves_85 : decode cX5_saves 85 = .ok (.iload 6, 2) := by decide +kernel
theorem dX5_saves_87 : decode cX5_saves 87 = .ok (.iaload, 1) := by decide +kernel
theorem dX5_saves_88 : decode cX5_saves 88 = .ok (.iload 7, 2) := by decide +kernel
theorem dX5_saves_90 : decode cX5_saves 90 = .ok (.invokestatic 143, 3) := by decide +kernel
theorem dX5_saves_93 : decode cX5_saves 93 = .ok (.ifCond .eq 62, 3) := by decide +kernel
theorem dX5_saves_96 : decode cX5_saves 96 = .ok (.aload_n 0, 1) := by decide +kernel
theorem dX5_saves_97 : decode cX5_saves 97 = .ok (.getfield 58, 3) := by decide +kernel
theorem dX5_saves_100 : decode cX5_saves 100 = .ok (.getfield 209, 3) := by decide +kernel
theorem dX5_saves_103 : decode cX5_saves 103 = .ok (.iload 6, 2) := by decide +kernel
theorem dX5_saves_105 : decode cX5_saves 105 = .ok (.aaload, 1) := by decide +kernel
theorem dX5_saves_106 : decode cX5_saves 106 = .ok (.iload 7, 2) := by decide +kernel
theorem dX5_saves_108 : decode cX5_saves 108 = .ok (.iaload, 1) := by decide +kernel
theorem dX5_saves_109 : decode cX5_saves 109 = .ok (.iload_n 3, 1) := by decide +kernel
theorem dX5_saves_110 : decode cX5_saves 110 = .ok (.invokestatic 143, 3) := by decide +kernel
theorem dX5_saves_113 : decode cX5_saves 113 = .ok (.ifCond .ne 42, 3) := by decide +kernel
theorem dX5_saves_116 : decode cX5_saves 116 = .ok (.aload_n 0, 1) := by decide +kernel
theorem dX5_saves_117 : decode cX5_saves 117 = .ok (.iload_n 1, 1) := by decide +kernel
theorem dX5_saves_118 : decode cX5_saves 118 = .ok (.iload_n 2, 1) := by decide +kernel
theorem dX5_saves_119 : decode cX5_saves 119 = .ok (.iconst 1, 1) := by decide +kernel
theorem dX5_saves_120 : decode cX5_saves 120 = .ok (.iload 6, 2) := by decide +kernel
theorem dX5_saves_122 : decode cX5_saves 122 = .ok (.iload 7, 2) := by decide +kernel
theorem dX5_saves_124 : decode cX5_saves 124 = .ok (.invokevirtual 186, 3) := by decide +kernel
theorem dX5_saves_127 : decode cX5_saves 127 = .ok (.istore 8, 2) := by decide +kernel
theorem dX5_saves_129 : decode cX5_saves 129 = .ok (.iload 8, 2) := by decide +kernel
theorem dX5_saves_131 : decode cX5_saves 131 = .ok (.iload 4, 2) := by decide +kernel
theorem dX5_saves_133 : decode cX5_saves 133 = .ok (.if_icmp .ge 22, 3) := by decide +kernel
theorem dX5_saves_136 : decode cX5_saves 136 = .ok (.iload 8, 2) := by decide +kernel
theorem dX5_saves_138 : decode cX5_saves 138 = .ok (.istore 4, 2) := by decide +kernel
theorem dX5_saves_140 : decode cX5_saves 140 = .ok (.bipush 100, 2) := by decide +kernel
theorem dX5_saves_142 : decode cX5_saves 142 = .ok (.iload 6, 2) := by decide +kernel
theorem dX5_saves_144 : decode cX5_saves 144 = .ok (.imul, 1) := by decide +kernel
theorem dX5_saves_145 : decode cX5_saves 145 = .ok (.bipush 10, 2) := by decide +kernel
theorem dX5_saves_147 : decode cX5_saves 147 = .ok (.iload 7, 2) := by decide +kernel
theorem dX5_saves_149 : decode cX5_saves 149 = .ok (.imul, 1) := by decide +kernel
theorem dX5_saves_150 : decode cX5_saves 150 = .ok (.iadd, 1) := by decide +kernel
theorem dX5_saves_151 : decode cX5_saves 151 = .ok (.iload_n 3, 1) := by decide +kernel
theorem dX5_saves_152 : decode cX5_saves 152 = .ok (.iadd, 1) := by decide +kernel
theorem dX5_saves_153 : decode cX5_saves 153 = .ok (.istore 5, 2) := by decide +kernel
theorem dX5_saves_155 : decode cX5_saves 155 = .ok (.iinc 7 1, 3) := by decide +kernel
theorem dX5_saves_158 : decode cX5_saves 158 = .ok (.goto (-92), 3) := by decide +kernel
theorem dX5_saves_161 : decode cX5_saves 161 = .ok (.iinc 6 1, 3) := by decide +kernel
theorem dX5_saves_164 : decode cX5_saves 164 = .ok (.goto (-116), 3) := by decide +kernel
theorem dX5_saves_167 : decode cX5_saves 167 = .ok (.iload 5, 2) := by decide +kernel
theorem dX5_saves_169 : decode cX5_saves 169 = .ok (.ireturn, 1) := by decide +kernel
theorem dX5_drops_0 : decode cX5_drops 0 = .ok (.aload_n 0, 1) := by decide +kernel
theorem dX5_drops_1 : decode cX5_drops 1 = .ok (.iload_n 1, 1) := by decide +kernel
theorem dX5_drops_2 : decode cX5_drops 2 = .ok (.invokevirtual 122, 3) := by decide +kernel
theorem dX5_drops_5 : decode cX5_drops 5 = .ok (.ifCond .eq 13, 3) := by decide +kernel
theorem dX5_drops_8 : decode cX5_drops 8 = .ok (.iload_n 2, 1) := by decide +kernel
theorem dX5_drops_9 : decode cX5_drops 9 = .ok (.iconst 0, 1) := by decide +kernel
theorem dX5_drops_10 : decode cX5_drops 10 = .ok (.bipush 20, 2) := by decide +kernel
theorem dX5_drops_12 : decode cX5_drops 12 = .ok (.invokestatic 71, 3) := by decide +kernel
theorem dX5_drops_15 : decode cX5_drops 15 = .ok (.ifCond .ne 5, 3) := by decide +kernel
theorem dX5_drops_18 : decode cX5_drops 18 = .ok (.iconst (-1), 1) := by decide +kernel
theorem dX5_drops_19 : decode cX5_drops 19 = .ok (.ireturn, 1) := by decide +kernel
theorem dX5_drops_20 : decode cX5_drops 20 = .ok (.aload_n 0, 1) := by decide +kernel
theorem dX5_drops_21 : decode cX5_drops 21 = .ok (.getfield 58, 3) := by decide +kernel
theorem dX5_drops_24 : decode cX5_drops 24 = .ok (.aload_n 0, 1) := by decide +kernel
theorem dX5_drops_25 : decode cX5_drops 25 = .ok (.getfield 19, 3) := by decide +kernel
theorem dX5_drops_28 : decode cX5_drops 28 = .ok (.getfield 134, 3) := by decide +kernel
theorem dX5_drops_31 : decode cX5_drops 31 = .ok (.iload_n 1, 1) := by decide +kernel
theorem dX5_drops_32 : decode cX5_drops 32 = .ok (.iaload, 1) := by decide +kernel
theorem dX5_drops_33 : decode cX5_drops 33 = .ok (.aload_n 0, 1) := by decide +kernel
theorem dX5_drops_34 : decode cX5_drops 34 = .ok (.getfield 58, 3) := by decide +kernel
theorem dX5_drops_37 : decode cX5_drops 37 = .ok (.getfield 128, 3) := by decide +kernel
theorem dX5_drops_40 : decode cX5_drops 40 = .ok (.iload_n 1, 1) := by decide +kernel
theorem dX5_drops_41 : decode cX5_drops 41 = .ok (.iaload, 1) := by decide +kernel
theorem dX5_drops_42 : decode cX5_drops 42 = .ok (.iload_n 2, 1) := by decide +kernel
theorem dX5_drops_43 : decode cX5_drops 43 = .ok (.invokevirtual 213, 3) := by decide +kernel
theorem dX5_drops_46 : decode cX5_drops 46 = .ok (.ireturn, 1) := by decide +kernel
theorem dX5_lay_0 : decode cX5_lay 0 = .ok (.aload_n 0, 1) := by decide +kernel
theorem dX5_lay_1 : decode cX5_lay 1 = .ok (.iload_n 1, 1) := by decide +kernel
theorem dX5_lay_2 : decode cX5_lay 2 = .ok (.invokevirtual 122, 3) := by decide +kernel
theorem dX5_lay_5 : decode cX5_lay 5 = .ok (.ifCond .eq 13, 3) := by decide +kernel
theorem dX5_lay_8 : decode cX5_lay 8 = .ok (.iload_n 2, 1) := by decide +kernel
theorem dX5_lay_9 : decode cX5_lay 9 = .ok (.iconst 0, 1) := by decide +kernel
theorem dX5_lay_10 : decode cX5_lay 10 = .ok (.bipush 20, 2) := by decide +kernel
theorem dX5_lay_12 : decode cX5_lay 12 = .ok (.invokestatic 71, 3) := by decide +kernel
theorem dX5_lay_15 : decode cX5_lay 15 = .ok (.ifCond .ne 5, 3) := by decide +kernel
theorem dX5_lay_18 : decode cX5_lay 18 = .ok (.iconst (-1), 1) := by decide +kernel
theorem dX5_lay_19 : decode cX5_lay 19 = .ok (.ireturn, 1) := by decide +kernel
theorem dX5_lay_20 : decode cX5_lay 20 = .ok (.iconst 0, 1) := by decide +kernel
theorem dX5_lay_21 : decode cX5_lay 21 = .ok (.istore_n 3, 1) := by decide +kernel
theorem dX5_lay_22 : decode cX5_lay 22 = .ok (.iconst 0, 1) := by decide +kernel
theorem dX5_lay_23 : decode cX5_lay 23 = .ok (.istore 4, 2) := by decide +kernel
theorem dX5_lay_25 : decode cX5_lay 25 = .ok (.iload 4, 2) := by decide +kernel
theorem dX5_lay_27 : decode cX5_lay 27 = .ok (.aload_n 0, 1) := by decide +kernel
theorem dX5_lay_28 : decode cX5_lay 28 = .ok (.getfield 58, 3) := by decide +kernel
theorem dX5_lay_31 : decode cX5_lay 31 = .ok (.getfield 206, 3) := by decide +kernel
theorem dX5_lay_34 : decode cX5_lay 34 = .ok (.if_icmp .ge 47, 3) := by decide +kernel
theorem dX5_lay_37 : decode cX5_lay 37 = .ok (.aload_n 0, 1) := by decide +kernel
theorem dX5_lay_38 : decode cX5_lay 38 = .ok (.getfield 58, 3) := by decide +kernel
theorem dX5_lay_41 : decode cX5_lay 41 = .ok (.iload 4, 2) := by decide +kernel
theorem dX5_lay_43 : decode cX5_lay 43 = .ok (.aload_n 0, 1) := by decide +kernel
theorem dX5_lay_44 : decode cX5_lay 44 = .ok (.getfield 58, 3) := by decide +kernel
theorem dX5_lay_47 : decode cX5_lay 47 = .ok (.getfield 128, 3) := by decide +kernel
theorem dX5_lay_50 : decode cX5_lay 50 = .ok (.iload_n 1, 1) := by decide +kernel
theorem dX5_lay_51 : decode cX5_lay 51 = .ok (.iaload, 1) := by decide +kernel
theorem dX5_lay_52 : decode cX5_lay 52 = .ok (.iload_n 2, 1) := by decide +kernel
theorem dX5_lay_53 : decode cX5_lay 53 = .ok (.invokevirtual 213, 3) := by decide +kernel
theorem dX5_lay_56 : decode cX5_lay 56 = .ok (.aload_n 0, 1) := by decide +kernel
theorem dX5_lay_57 : decode cX5_lay 57 = .ok (.getfield 19, 3) := by decide +kernel
theorem dX5_lay_60 : decode cX5_lay 60 = .ok (.getfield 134, 3) := by decide +kernel
theorem dX5_lay_63 : decode cX5_lay 63 = .ok (.iload_n 1, 1) := by decide +kernel
theorem dX5_lay_64 : decode cX5_lay 64 = .ok (.iaload, 1) := by decide +kernel
theorem dX5_lay_65 : decode cX5_lay 65 = .ok (.if_icmp .ne 10, 3) := by decide +kernel
theorem dX5_lay_68 : decode cX5_lay 68 = .ok (.iload_n 3, 1) := by decide +kernel
theorem dX5_lay_69 : decode cX5_lay 69 = .ok (.iconst 1, 1) := by decide +kernel
theorem dX5_lay_70 : decode cX5_lay 70 = .ok (.iload 4, 2) := by decide +kernel
theorem dX5_lay_72 : decode cX5_lay 72 = .ok (.ishl, 1) := by decide +kernel
theorem dX5_lay_73 : decode cX5_lay 73 = .ok (.ior, 1) := by decide +kernel
theorem dX5_lay_74 : decode cX5_lay 74 = .ok (.istore_n 3, 1) := by decide +kernel
theorem dX5_lay_75 : decode cX5_lay 75 = .ok (.iinc 4 1, 3) := by decide +kernel
theorem dX5_lay_78 : decode cX5_lay 78 = .ok (.goto (-53), 3) := by decide +kernel
theorem dX5_lay_81 : decode cX5_lay 81 = .ok (.iload_n 3, 1) := by decide +kernel
theorem dX5_lay_82 : decode cX5_lay 82 = .ok (.ireturn, 1) := by decide +kernel
theorem dX5_stitches_0 : decode cX5_stitches 0 = .ok (.aload_n 0, 1) := by decide +kernel
theorem dX5_stitches_1 : decode cX5_stitches 1 = .ok (.iload_n 1, 1) := by decide +kernel
theorem dX5_stitches_2 : decode cX5_stitches 2 = .ok (.invokevirtual 93, 3) := by decide +kernel
theorem dX5_stitches_5 : decode cX5_stitches 5 = .ok (.ifCond .eq 25, 3) := by decide +kernel
theorem dX5_stitches_8 : decode cX5_stitches 8 = .ok (.aload_n 0, 1) := by decide +kernel
theorem dX5_stitches_9 : decode cX5_stitches 9 = .ok (.iload_n 2, 1) := by decide +kernel
theorem dX5_stitches_10 : decode cX5_stitches 10 = .ok (.invokevirtual 93, 3) := by decide +kernel
theorem dX5_stitches_13 : decode cX5_stitches 13 = .ok (.ifCond .eq 17, 3) := by decide +kernel
theorem dX5_stitches_16 : decode cX5_stitches 16 = .ok (.iload_n 1, 1) := by decide +kernel
theorem dX5_stitches_17 : decode cX5_stitches 17 = .ok (.iload_n 2, 1) := by decide +kernel
theorem dX5_stitches_18 : decode cX5_stitches 18 = .ok (.if_icmp .eq 12, 3) := by decide +kernel
theorem dX5_stitches_21 : decode cX5_stitches 21 = .ok (.iload_n 3, 1) := by decide +kernel
theorem dX5_stitches_22 : decode cX5_stitches 22 = .ok (.iconst 0, 1) := by decide +kernel
theorem dX5_stitches_23 : decode cX5_stitches 23 = .ok (.iconst 1, 1) := by decide +kernel
theorem dX5_stitches_24 : decode cX5_stitches 24 = .ok (.invokestatic 71, 3) := by decide +kernel
theorem dX5_stitches_27 : decode cX5_stitches 27 = .ok (.ifCond .ne 5, 3) := by decide +kernel
theorem dX5_stitches_30 : decode cX5_stitches 30 = .ok (.iconst (-1), 1) := by decide +kernel
theorem dX5_stitches_31 : decode cX5_stitches 31 = .ok (.ireturn, 1) := by decide +kernel
theorem dX5_stitches_32 : decode cX5_stitches 32 = .ok (.aload_n 0, 1) := by decide +kernel
theorem dX5_stitches_33 : decode cX5_stitches 33 = .ok (.getfield 58, 3) := by decide +kernel
theorem dX5_stitches_36 : decode cX5_stitches 36 = .ok (.iload_n 1, 1) := by decide +kernel
theorem dX5_stitches_37 : decode cX5_stitches 37 = .ok (.iload_n 2, 1) := by decide +kernel
theorem dX5_stitches_38 : decode cX5_stitches 38 = .ok (.bipush (-9), 2) := by decide +kernel
theorem dX5_stitches_40 : decode cX5_stitches 40 = .ok (.invokevirtual 216, 3) := by decide +kernel
theorem dX5_stitches_43 : decode cX5_stitches 43 = .ok (.istore 4, 2) := by decide +kernel
theorem dX5_stitches_45 : decode cX5_stitches 45 = .ok (.iload_n 3, 1) := by decide +kernel
theorem dX5_stitches_46 : decode cX5_stitches 46 = .ok (.ifCond .ne 14, 3) := by decide +kernel
theorem dX5_stitches_49 : decode cX5_stitches 49 = .ok (.iload 4, 2) := by decide +kernel
theorem dX5_stitches_51 : decode cX5_stitches 51 = .ok (.ifCond .eq 7, 3) := by decide +kernel
theorem dX5_stitches_54 : decode cX5_stitches 54 = .ok (.iconst 1, 1) := by decide +kernel
theorem dX5_stitches_55 : decode cX5_stitches 55 = .ok (.goto 4, 3) := by decide +kernel
theorem dX5_stitches_58 : decode cX5_stitches 58 = .ok (.iconst 0, 1) := by decide +kernel
theorem dX5_stitches_59 : decode cX5_stitches 59 = .ok (.ireturn, 1) := by decide +kernel
theorem dX5_stitches_60 : decode cX5_stitches 60 = .ok (.iload 4, 2) := by decide +kernel
theorem dX5_stitches_62 : decode cX5_stitches 62 = .ok (.ifCond .eq 15, 3) := by decide +kernel
theorem dX5_stitches_65 : decode cX5_stitches 65 = .ok (.aload_n 0, 1) := by decide +kernel
theorem dX5_stitches_66 : decode cX5_stitches 66 = .ok (.getfield 58, 3) := by decide +kernel
theorem dX5_stitches_69 : decode cX5_stitches 69 = .ok (.iload_n 1, 1) := by decide +kernel
theorem dX5_stitches_70 : decode cX5_stitches 70 = .ok (.iload_n 2, 1) := by decide +kernel
theorem dX5_stitches_71 : decode cX5_stitches 71 = .ok (.invokevirtual 219, 3) := by decide +kernel
theorem dX5_stitches_74 : decode cX5_stitches 74 = .ok (.goto 5, 3) := by decide +kernel
theorem dX5_stitches_77 : decode cX5_stitches 77 = .ok (.bipush (-9), 2) := by decide +kernel
theorem dX5_stitches_79 : decode cX5_stitches 79 = .ok (.ireturn, 1) := by decide +kernel
theorem dX5_odds_0 : decode cX5_odds 0 = .ok (.aload_n 0, 1) := by decide +kernel
theorem dX5_odds_1 : decode cX5_odds 1 = .ok (.iload_n 1, 1) := by decide +kernel
theorem dX5_odds_2 : decode cX5_odds 2 = .ok (.invokevirtual 122, 3) := by decide +kernel
theorem dX5_odds_5 : decode cX5_odds 5 = .ok (.ifCond .eq 21, 3) := by decide +kernel
theorem dX5_odds_8 : decode cX5_odds 8 = .ok (.aload_n 0, 1) := by decide +kernel
theorem dX5_odds_9 : decode cX5_odds 9 = .ok (.iload_n 2, 1) := by decide +kernel
theorem dX5_odds_10 : decode cX5_odds 10 = .ok (.invokevirtual 93, 3) := by decide +kernel
theorem dX5_odds_13 : decode cX5_odds 13 = .ok (.ifCond .eq 13, 3) := by decide +kernel
theorem dX5_odds_16 : decode cX5_odds 16 = .ok (.iload 5, 2) := by decide +kernel
theorem dX5_odds_18 : decode cX5_odds 18 = .ok (.iconst 0, 1) := by decide +kernel
theorem dX5_odds_19 : decode cX5_odds 19 = .ok (.iconst 1, 1) := by decide +kernel
theorem dX5_odds_20 : decode cX5_odds 20 = .ok (.invokestatic 71, 3) := by decide +kernel
theorem dX5_odds_23 : decode cX5_odds 23 = .ok (.ifCond .ne 5, 3) := by decide +kernel
theorem dX5_odds_26 : decode cX5_odds 26 = .ok (.iconst (-1), 1) := by decide +kernel
theorem dX5_odds_27 : decode cX5_odds 27 = .ok (.ireturn, 1) := by decide +kernel
theorem dX5_odds_28 : decode cX5_odds 28 = .ok (.iload_n 3, 1) := by decide +kernel
theorem dX5_odds_29 : decode cX5_odds 29 = .ok (.iconst 0, 1) := by decide +kernel
theorem dX5_odds_30 : decode cX5_odds 30 = .ok (.bipush 10, 2) := by decide +kernel
theorem dX5_odds_32 : decode cX5_odds 32 = .ok (.invokestatic 71, 3) := by decide +kernel
theorem dX5_odds_35 : decode cX5_odds 35 = .ok (.ifCond .eq 14, 3) := by decide +kernel
theorem dX5_odds_38 : decode cX5_odds 38 = .ok (.iload 4, 2) := by decide +kernel
theorem dX5_odds_40 : decode cX5_odds 40 = .ok (.iconst 0, 1) := by decide +kernel
theorem dX5_odds_41 : decode cX5_odds 41 = .ok (.bipush 6, 2) := by decide +kernel
theorem dX5_odds_43 : decode cX5_odds 43 = .ok (.invokestatic 71, 3) := by decide +kernel
theorem dX5_odds_46 : decode cX5_odds 46 = .ok (.ifCond .ne 5, 3) := by decide +kernel
theorem dX5_odds_49 : decode cX5_odds 49 = .ok (.iconst (-1), 1) := by decide +kernel
theorem dX5_odds_50 : decode cX5_odds 50 = .ok (.ireturn, 1) := by decide +kernel
theorem dX5_odds_51 : decode cX5_odds 51 = .ok (.aload_n 0, 1) := by decide +kernel
theorem dX5_odds_52 : decode cX5_odds 52 = .ok (.getfield 49, 3) := by decide +kernel
theorem dX5_odds_55 : decode cX5_odds 55 = .ok (.iconst 0, 1) := by decide +kernel
theorem dX5_odds_56 : decode cX5_odds 56 = .ok (.invokestatic 222, 3) := by decide +kernel
theorem dX5_odds_59 : decode cX5_odds 59 = .ok (.aload_n 0, 1) := by decide +kernel
theorem dX5_odds_60 : decode cX5_odds 60 = .ok (.getfield 49, 3) := by decide +kernel
theorem dX5_odds_63 : decode cX5_odds 63 = .ok (.aload_n 0, 1) := by decide +kernel
theorem dX5_odds_64 : decode cX5_odds 64 = .ok (.getfield 19, 3) := by decide +kernel
theorem dX5_odds_67 : decode cX5_odds 67 = .ok (.getfield 134, 3) := by decide +kernel
theorem dX5_odds_70 : decode cX5_odds 70 = .ok (.iload_n 1, 1) := by decide +kernel
theorem dX5_odds_71 : decode cX5_odds 71 = .ok (.iaload, 1) := by decide +kernel
theorem dX5_odds_72 : decode cX5_odds 72 = .ok (.iconst 1, 1) := by decide +kernel
theorem dX5_odds_73 : decode cX5_odds 73 = .ok (.iastore, 1) := by decide +kernel
theorem dX5_odds_74 : decode cX5_odds 74 = .ok (.iconst 1, 1) := by decide +kernel
theorem dX5_odds_75 : decode cX5_odds 75 = .ok (.istore 6, 2) := by decide +kernel
theorem dX5_odds_77 : decode cX5_odds 77 = .ok (.iconst 0, 1) := by decide +kernel
theorem dX5_odds_78 : decode cX5_odds 78 = .ok (.istore 7, 2) := by decide +kernel
theorem dX5_odds_80 : decode cX5_odds 80 = .ok (.iload 7, 2) := by decide +kernel
theorem dX5_odds_82 : decode cX5_odds 82 = .ok (.iload 4, 2) := by decide +kernel
theorem dX5_odds_84 : decode cX5_odds 84 = .ok (.if_icmp .ge 30, 3) := by decide +kernel
theorem dX5_odds_87 : decode cX5_odds 87 = .ok (.aload_n 0, 1) := by decide +kernel
theorem dX5_odds_88 : decode cX5_odds 88 = .ok (.aload_n 0, 1) := by decide +kernel
theorem dX5_odds_89 : decode cX5_odds 89 = .ok (.getfield 58, 3) := by decide +kernel
theorem dX5_odds_92 : decode cX5_odds 92 = .ok (.getfield 128, 3) := by decide +kernel
theorem dX5_odds_95 : decode cX5_odds 95 = .ok (.iload_n 1, 1) := by decide +kernel
theorem dX5_odds_96 : decode cX5_odds 96 = .ok (.iaload, 1) := by decide +kernel
theorem dX5_odds_97 : decode cX5_odds 97 = .ok (.iload_n 3, 1) := by decide +kernel
theorem dX5_odds_98 : decode cX5_odds 98 = .ok (.invokevirtual 228, 3) := by decide +kernel
theorem dX5_odds_101 : decode cX5_odds 101 = .ok (.iload 6, 2) := by decide +kernel
theorem dX5_odds_103 : decode cX5_odds 103 = .ok (.bipush 10, 2) := by decide +kernel
theorem dX5_odds_105 : decode cX5_odds 105 = .ok (.imul, 1) := by decide +kernel
theorem dX5_odds_106 : decode cX5_odds 106 = .ok (.istore 6, 2) := by decide +kernel
theorem dX5_odds_108 : decode cX5_odds 108 = .ok (.iinc 7 1, 3) := by decide +kernel
theorem dX5_odds_111 : decode cX5_odds 111 = .ok (.goto (-31), 3) := by decide +kernel
theorem dX5_odds_114 : decode cX5_odds 114 = .ok (.aload_n 0, 1) := by decide +kernel
theorem dX5_odds_115 : decode cX5_odds 115 = .ok (.getfield 49, 3) := by decide +kernel
theorem dX5_odds_118 : decode cX5_odds 118 = .ok (.iload_n 2, 1) := by decide +kernel
theorem dX5_odds_119 : decode cX5_odds 119 = .ok (.iaload, 1) := by decide +kernel
theorem dX5_odds_120 : decode cX5_odds 120 = .ok (.istore 7, 2) := by decide +kernel
theorem dX5_odds_122 : decode cX5_odds 122 = .ok (.iload 7, 2) := by decide +kernel
theorem dX5_odds_124 : decode cX5_odds 124 = .ok (.iload 6, 2) := by decide +kernel
theorem dX5_odds_126 : decode cX5_odds 126 = .ok (.invokestatic 232, 3) := by decide +kernel
theorem dX5_odds_129 : decode cX5_odds 129 = .ok (.istore 8, 2) := by decide +kernel
theorem dX5_odds_131 : decode cX5_odds 131 = .ok (.iload 5, 2) := by decide +kernel
theorem dX5_odds_133 : decode cX5_odds 133 = .ok (.ifCond .ne 8, 3) := by decide +kernel
theorem dX5_odds_136 : decode cX5_odds 136 = .ok (.iload 7, 2) := by decide +kernel
theorem dX5_odds_138 : decode cX5_odds 138 = .ok (.goto 5, 3) := by decide +kernel
theorem dX5_odds_141 : decode cX5_odds 141 = .ok (.iload 6, 2) := by decide +kernel
theorem dX5_odds_143 : decode cX5_odds 143 = .ok (.iload 8, 2) := by decide +kernel
theorem dX5_odds_145 : decode cX5_odds 145 = .ok (.idiv, 1) := by decide +kernel
theorem dX5_odds_146 : decode cX5_odds 146 = .ok (.ireturn, 1) := by decide +kernel
theorem dX5_rate_0 : decode cX5_rate 0 = .ok (.aload_n 0, 1) := by decide +kernel
theorem dX5_rate_1 : decode cX5_rate 1 = .ok (.iload_n 2, 1) := by decide +kernel
theorem dX5_rate_2 : decode cX5_rate 2 = .ok (.invokevirtual 93, 3) := by decide +kernel
theorem dX5_rate_5 : decode cX5_rate 5 = .ok (.ifCond .ne 6, 3) := by decide +kernel
theorem dX5_rate_8 : decode cX5_rate 8 = .ok (.ldc 235, 2) := by decide +kernel
theorem dX5_rate_10 : decode cX5_rate 10 = .ok (.ireturn, 1) := by decide +kernel
theorem dX5_rate_11 : decode cX5_rate 11 = .ok (.iload_n 1, 1) := by decide +kernel
theorem dX5_rate_12 : decode cX5_rate 12 = .ok (.tableswitch 76 0 5 #[40, 46, 52, 58, 64, 70], 40) := by decide +kernel
theorem dX5_rate_52 : decode cX5_rate 52 = .ok (.aload_n 0, 1) := by decide +kernel
theorem dX5_rate_53 : decode cX5_rate 53 = .ok (.iload_n 2, 1) := by decide +kernel
theorem dX5_rate_54 : decode cX5_rate 54 = .ok (.invokevirtual 236, 3) := by decide +kernel
theorem dX5_rate_57 : decode cX5_rate 57 = .ok (.ireturn, 1) := by decide +kernel
theorem dX5_rate_58 : decode cX5_rate 58 = .ok (.aload_n 0, 1) := by decide +kernel
theorem dX5_rate_59 : decode cX5_rate 59 = .ok (.iload_n 2, 1) := by decide +kernel
theorem dX5_rate_60 : decode cX5_rate 60 = .ok (.invokevirtual 239, 3) := by decide +kernel
theorem dX5_rate_63 : decode cX5_rate 63 = .ok (.ireturn, 1) := by decide +kernel
theorem dX5_rate_64 : decode cX5_rate 64 = .ok (.aload_n 0, 1) := by decide +kernel
theorem dX5_rate_65 : decode cX5_rate 65 = .ok (.iload_n 2, 1) := by decide +kernel
theorem dX5_rate_66 : decode cX5_rate 66 = .ok (.invokevirtual 242, 3) := by decide +kernel
theorem dX5_rate_69 : decode cX5_rate 69 = .ok (.ireturn, 1) := by decide +kernel
theorem dX5_rate_70 : decode cX5_rate 70 = .ok (.aload_n 0, 1) := by decide +kernel
theorem dX5_rate_71 : decode cX5_rate 71 = .ok (.iload_n 2, 1) := by decide +kernel
theorem dX5_rate_72 : decode cX5_rate 72 = .ok (.invokevirtual 245, 3) := by decide +kernel
theorem dX5_rate_75 : decode cX5_rate 75 = .ok (.ireturn, 1) := by decide +kernel
theorem dX5_rate_76 : decode cX5_rate 76 = .ok (.aload_n 0, 1) := by decide +kernel
theorem dX5_rate_77 : decode cX5_rate 77 = .ok (.iload_n 2, 1) := by decide +kernel
theorem dX5_rate_78 : decode cX5_rate 78 = .ok (.invokevirtual 248, 3) := by decide +kernel
theorem dX5_rate_81 : decode cX5_rate 81 = .ok (.ireturn, 1) := by decide +kernel
theorem dX5_rate_82 : decode cX5_rate 82 = .ok (.aload_n 0, 1) := by decide +kernel
theorem dX5_rate_83 : decode cX5_rate 83 = .ok (.iload_n 2, 1) := by decide +kernel
theorem dX5_rate_84 : decode cX5_rate 84 = .ok (.invokevirtual 251, 3) := by decide +kernel
theorem dX5_rate_87 : decode cX5_rate 87 = .ok (.ireturn, 1) := by decide +kernel
theorem dX5_rate_88 : decode cX5_rate 88 = .ok (.ldc 235, 2) := by decide +kernel
theorem dX5_rate_90 : decode cX5_rate 90 = .ok (.ireturn, 1) := by decide +kernel
theorem dX5_keep_0 : decode cX5_keep 0 = .ok (.iload_n 1, 1) := by decide +kernel
theorem dX5_keep_1 : decode cX5_keep 1 = .ok (.iconst 0, 1) := by decide +kernel
theorem dX5_keep_2 : decode cX5_keep 2 = .ok (.iconst 1, 1) := by decide +kernel
theorem dX5_keep_3 : decode cX5_keep 3 = .ok (.invokestatic 71, 3) := by decide +kernel
theorem dX5_keep_6 : decode cX5_keep 6 = .ok (.ifCond .ne 5, 3) := by decide +kernel
theorem dX5_keep_9 : decode cX5_keep 9 = .ok (.iconst (-1), 1) := by decide +kernel
theorem dX5_keep_10 : decode cX5_keep 10 = .ok (.ireturn, 1) := by decide +kernel
theorem dX5_keep_11 : decode cX5_keep 11 = .ok (.aload_n 0, 1) := by decide +kernel
theorem dX5_keep_12 : decode cX5_keep 12 = .ok (.getfield 30, 3) := by decide +kernel
theorem dX5_keep_15 : decode cX5_keep 15 = .ok (.iload_n 1, 1) := by decide +kernel
theorem dX5_keep_16 : decode cX5_keep 16 = .ok (.aaload, 1) := by decide +kernel
theorem dX5_keep_17 : decode cX5_keep 17 = .ok (.aload_n 0, 1) := by decide +kernel
theorem dX5_keep_18 : decode cX5_keep 18 = .ok (.getfield 19, 3) := by decide +kernel
theorem dX5_keep_21 : decode cX5_keep 21 = .ok (.invokevirtual 254, 3) := by decide +kernel
theorem dX5_keep_24 : decode cX5_keep 24 = .ok (.aload_n 0, 1) := by decide +kernel
theorem dX5_keep_25 : decode cX5_keep 25 = .ok (.getfield 34, 3) := by decide +kernel
theorem dX5_keep_28 : decode cX5_keep 28 = .ok (.iload_n 1, 1) := by decide +kernel
theorem dX5_keep_29 : decode cX5_keep 29 = .ok (.iconst 1, 1) := by decide +kernel
theorem dX5_keep_30 : decode cX5_keep 30 = .ok (.bastore, 1) := by decide +kernel
theorem dX5_keep_31 : decode cX5_keep 31 = .ok (.aload_n 0, 1) := by decide +kernel
theorem dX5_keep_32 : decode cX5_keep 32 = .ok (.getfield 19, 3) := by decide +kernel
theorem dX5_keep_35 : decode cX5_keep 35 = .ok (.getfield 150, 3) := by decide +kernel
theorem dX5_keep_38 : decode cX5_keep 38 = .ok (.ireturn, 1) := by decide +kernel
theorem dX5_back_0 : decode cX5_back 0 = .ok (.iload_n 1, 1) := by decide +kernel
theorem dX5_back_1 : decode cX5_back 1 = .ok (.iconst 0, 1) := by decide +kernel
theorem dX5_back_2 : decode cX5_back 2 = .ok (.iconst 1, 1) := by decide +kernel
theorem dX5_back_3 : decode cX5_back 3 = .ok (.invokestatic 71, 3) := by decide +kernel
theorem dX5_back_6 : decode cX5_back 6 = .ok (.ifCond .ne 5, 3) := by decide +kernel
theorem dX5_back_9 : decode cX5_back 9 = .ok (.iconst (-1), 1) := by decide +kernel
theorem dX5_back_10 : decode cX5_back 10 = .ok (.ireturn, 1) := by decide +kernel
theorem dX5_back_11 : decode cX5_back 11 = .ok (.aload_n 0, 1) := by decide +kernel
theorem dX5_back_12 : decode cX5_back 12 = .ok (.getfield 34, 3) := by decide +kernel
theorem dX5_back_15 : decode cX5_back 15 = .ok (.iload_n 1, 1) := by decide +kernel
theorem dX5_back_16 : decode cX5_back 16 = .ok (.baload, 1) := by decide +kernel
theorem dX5_back_17 : decode cX5_back 17 = .ok (.ifCond .ne 6, 3) := by decide +kernel
theorem dX5_back_20 : decode cX5_back 20 = .ok (.bipush (-2), 2) := by decide +kernel
theorem dX5_back_22 : decode cX5_back 22 = .ok (.ireturn, 1) := by decide +kernel
theorem dX5_back_23 : decode cX5_back 23 = .ok (.aload_n 0, 1) := by decide +kernel
theorem dX5_back_24 : decode cX5_back 24 = .ok (.getfield 19, 3) := by decide +kernel
theorem dX5_back_27 : decode cX5_back 27 = .ok (.aload_n 0, 1) := by decide +kernel
theorem dX5_back_28 : decode cX5_back 28 = .ok (.getfield 30, 3) := by decide +kernel
theorem dX5_back_31 : decode cX5_back 31 = .ok (.iload_n 1, 1) := by decide +kernel
theorem dX5_back_32 : decode cX5_back 32 = .ok (.aaload, 1) := by decide +kernel
theorem dX5_back_33 : decode cX5_back 33 = .ok (.invokevirtual 254, 3) := by decide +kernel
theorem dX5_back_36 : decode cX5_back 36 = .ok (.aload_n 0, 1) := by decide +kernel
theorem dX5_back_37 : decode cX5_back 37 = .ok (.getfield 26, 3) := by decide +kernel
theorem dX5_back_40 : decode cX5_back 40 = .ok (.iconst 0, 1) := by decide +kernel
theorem dX5_back_41 : decode cX5_back 41 = .ok (.putfield 90, 3) := by decide +kernel
theorem dX5_back_44 : decode cX5_back 44 = .ok (.aload_n 0, 1) := by decide +kernel
theorem dX5_back_45 : decode cX5_back 45 = .ok (.getfield 19, 3) := by decide +kernel
theorem dX5_back_48 : decode cX5_back 48 = .ok (.getfield 150, 3) := by decide +kernel
theorem dX5_back_51 : decode cX5_back 51 = .ok (.ireturn, 1) := by decide +kernel
theorem dX5_count_0 : decode cX5_count 0 = .ok (.iload_n 1, 1) := by decide +kernel
theorem dX5_count_1 : decode cX5_count 1 = .ok (.tableswitch 63 0 3 #[31, 39, 47, 55], 31) := by decide +kernel
theorem dX5_count_32 : decode cX5_count 32 = .ok (.aload_n 0, 1) := by decide +kernel
theorem dX5_count_33 : decode cX5_count 33 = .ok (.getfield 58, 3) := by decide +kernel
theorem dX5_count_36 : decode cX5_count 36 = .ok (.getfield 206, 3) := by decide +kernel
theorem dX5_count_39 : decode cX5_count 39 = .ok (.ireturn, 1) := by decide +kernel
theorem dX5_count_40 : decode cX5_count 40 = .ok (.aload_n 0, 1) := by decide +kernel
theorem dX5_count_41 : decode cX5_count 41 = .ok (.getfield 58, 3) := by decide +kernel
theorem dX5_count_44 : decode cX5_count 44 = .ok (.getfield 177, 3) := by decide +kernel
theorem dX5_count_47 : decode cX5_count 47 = .ok (.ireturn, 1) := by decide +kernel
theorem dX5_count_48 : decode cX5_count 48 = .ok (.aload_n 0, 1) := by decide +kernel
theorem dX5_count_49 : decode cX5_count 49 = .ok (.getfield 58, 3) := by decide +kernel
theorem dX5_count_52 : decode cX5_count 52 = .ok (.getfield 257, 3) := by decide +kernel
theorem dX5_count_55 : decode cX5_count 55 = .ok (.ireturn, 1) := by decide +kernel
theorem dX5_count_56 : decode cX5_count 56 = .ok (.aload_n 0, 1) := by decide +kernel
theorem dX5_count_57 : decode cX5_count 57 = .ok (.getfield 10, 3) := by decide +kernel
theorem dX5_count_60 : decode cX5_count 60 = .ok (.getfield 75, 3) := by decide +kernel
theorem dX5_count_63 : decode cX5_count 63 = .ok (.ireturn, 1) := by decide +kernel
theorem dX5_count_64 : decode cX5_count 64 = .ok (.iconst (-1), 1) := by decide +kernel
theorem dX5_count_65 : decode cX5_count 65 = .ok (.ireturn, 1) := by decide +kernel
theorem dX5_trace_0 : decode cX5_trace 0 = .ok (.aload_n 0, 1) := by decide +kernel
theorem dX5_trace_1 : decode cX5_trace 1 = .ok (.getfield 260, 3) := by decide +kernel
theorem dX5_trace_4 : decode cX5_trace 4 = .ok (.lreturn, 1) := by decide +kernel
theorem dX5_isPocket_0 : decode cX5_isPocket 0 = .ok (.iload_n 1, 1) := by decide +kernel
theorem dX5_isPocket_1 : decode cX5_isPocket 1 = .ok (.iconst 0, 1) := by decide +kernel
theorem dX5_isPocket_2 : decode cX5_isPocket 2 = .ok (.aload_n 0, 1) := by decide +kernel
theorem dX5_isPocket_3 : decode cX5_isPocket 3 = .ok (.getfield 58, 3) := by decide +kernel
theorem dX5_isPocket_6 : decode cX5_isPocket 6 = .ok (.getfield 206, 3) := by decide +kernel
theorem dX5_isPocket_9 : decode cX5_isPocket 9 = .ok (.iconst 1, 1) := by decide +kernel
theorem dX5_isPocket_10 : decode cX5_isPocket 10 = .ok (.isub, 1) := by decide +kernel
theorem dX5_isPocket_11 : decode cX5_isPocket 11 = .ok (.invokestatic 71, 3) := by decide +kernel
theorem dX5_isPocket_14 : decode cX5_isPocket 14 = .ok (.ireturn, 1) := by decide +kernel
theorem dX5_isThing_0 : decode cX5_isThing 0 = .ok (.iload_n 1, 1) := by decide +kernel
theorem dX5_isThing_1 : decode cX5_isThing 1 = .ok (.iconst 0, 1) := by decide +kernel
theorem dX5_isThing_2 : decode cX5_isThing 2 = .ok (.aload_n 0, 1) := by decide +kernel
theorem dX5_isThing_3 : decode cX5_isThing 3 = .ok (.getfield 58, 3) := by decide +kernel
theorem dX5_isThing_6 : decode cX5_isThing 6 = .ok (.getfield 177, 3) := by decide +kernel
theorem dX5_isThing_9 : decode cX5_isThing 9 = .ok (.iconst 1, 1) := by decide +kernel
theorem dX5_isThing_10 : decode cX5_isThing 10 = .ok (.isub, 1) := by decide +kernel
theorem dX5_isThing_11 : decode cX5_isThing 11 = .ok (.invokestatic 71, 3) := by decide +kernel
theorem dX5_isThing_14 : decode cX5_isThing 14 = .ok (.ireturn, 1) := by decide +kernel
theorem dX5_filled_0 : decode cX5_filled 0 = .ok (.iconst 0, 1) := by decide +kernel
theorem dX5_filled_1 : decode cX5_filled 1 = .ok (.istore_n 2, 1) := by decide +kernel
theorem dX5_filled_2 : decode cX5_filled 2 = .ok (.iconst 0, 1) := by decide +kernel
theorem dX5_filled_3 : decode cX5_filled 3 = .ok (.istore_n 3, 1) := by decide +kernel
theorem dX5_filled_4 : decode cX5_filled 4 = .ok (.iload_n 3, 1) := by decide +kernel
theorem dX5_filled_5 : decode cX5_filled 5 = .ok (.aload_n 0, 1) := by decide +kernel
theorem dX5_filled_6 : decode cX5_filled 6 = .ok (.getfield 58, 3) := by decide +kernel
theorem dX5_filled_9 : decode cX5_filled 9 = .ok (.getfield 177, 3) := by decide +kernel
theorem dX5_filled_12 : decode cX5_filled 12 = .ok (.if_icmp .ge 34, 3) := by decide +kernel
theorem dX5_filled_15 : decode cX5_filled 15 = .ok (.aload_n 0, 1) := by decide +kernel
theorem dX5_filled_16 : decode cX5_filled 16 = .ok (.getfield 19, 3) := by decide +kernel
theorem dX5_filled_19 : decode cX5_filled 19 = .ok (.getfield 134, 3) := by decide +kernel
theorem dX5_filled_22 : decode cX5_filled 22 = .ok (.iload_n 3, 1) := by decide +kernel
theorem dX5_filled_23 : decode cX5_filled 23 = .ok (.iaload, 1) := by decide +kernel
theorem dX5_filled_24 : decode cX5_filled 24 = .ok (.iload_n 1, 1) := by decide +kernel
theorem dX5_filled_25 : decode cX5_filled 25 = .ok (.if_icmp .ne 15, 3) := by decide +kernel
theorem dX5_filled_28 : decode cX5_filled 28 = .ok (.iload_n 2, 1) := by decide +kernel
theorem dX5_filled_29 : decode cX5_filled 29 = .ok (.aload_n 0, 1) := by decide +kernel
theorem dX5_filled_30 : decode cX5_filled 30 = .ok (.getfield 58, 3) := by decide +kernel
theorem dX5_filled_33 : decode cX5_filled 33 = .ok (.getfield 128, 3) := by decide +kernel
theorem dX5_filled_36 : decode cX5_filled 36 = .ok (.iload_n 3, 1) := by decide +kernel
theorem dX5_filled_37 : decode cX5_filled 37 = .ok (.iaload, 1) := by decide +kernel
theorem dX5_filled_38 : decode cX5_filled 38 = .ok (.iadd, 1) := by decide +kernel
theorem dX5_filled_39 : decode cX5_filled 39 = .ok (.istore_n 2, 1) := by decide +kernel
theorem dX5_filled_40 : decode cX5_filled 40 = .ok (.iinc 3 1, 3) := by decide +kernel
theorem dX5_filled_43 : decode cX5_filled 43 = .ok (.goto (-39), 3) := by decide +kernel
theorem dX5_filled_46 : decode cX5_filled 46 = .ok (.iload_n 2, 1) := by decide +kernel
theorem dX5_filled_47 : decode cX5_filled 47 = .ok (.ireturn, 1) := by decide +kernel
theorem dX5_hasRoom_0 : decode cX5_hasRoom 0 = .ok (.aload_n 0, 1) := by decide +kernel
theorem dX5_hasRoom_1 : decode cX5_hasRoom 1 = .ok (.iload_n 1, 1) := by decide +kernel
theorem dX5_hasRoom_2 : decode cX5_hasRoom 2 = .ok (.invokevirtual 109, 3) := by decide +kernel
theorem dX5_hasRoom_5 : decode cX5_hasRoom 5 = .ok (.iload_n 2, 1) := by decide +kernel
theorem dX5_hasRoom_6 : decode cX5_hasRoom 6 = .ok (.iadd, 1) := by decide +kernel
theorem dX5_hasRoom_7 : decode cX5_hasRoom 7 = .ok (.aload_n 0, 1) := by decide +kernel
theorem dX5_hasRoom_8 : decode cX5_hasRoom 8 = .ok (.getfield 58, 3) := by decide +kernel
theorem dX5_hasRoom_11 : decode cX5_hasRoom 11 = .ok (.getfield 97, 3) := by decide +kernel
theorem dX5_hasRoom_14 : decode cX5_hasRoom 14 = .ok (.iload_n 1, 1) := by decide +kernel
theorem dX5_hasRoom_15 : decode cX5_hasRoom 15 = .ok (.iaload, 1) := by decide +kernel
theorem dX5_hasRoom_16 : decode cX5_hasRoom 16 = .ok (.if_icmp .gt 7, 3) := by decide +kernel
theorem dX5_hasRoom_19 : decode cX5_hasRoom 19 = .ok (.iconst 1, 1) := by decide +kernel
theorem dX5_hasRoom_20 : decode cX5_hasRoom 20 = .ok (.goto 4, 3) := by decide +kernel
theorem dX5_hasRoom_23 : decode cX5_hasRoom 23 = .ok (.iconst 0, 1) := by decide +kernel
theorem dX5_hasRoom_24 : decode cX5_hasRoom 24 = .ok (.ireturn, 1) := by decide +kernel
theorem dX5_isOutlawed_0 : decode cX5_isOutlawed 0 = .ok (.aload_n 0, 1) := by decide +kernel
theorem dX5_isOutlawed_1 : decode cX5_isOutlawed 1 = .ok (.getfield 58, 3) := by decide +kernel
theorem dX5_isOutlawed_4 : decode cX5_isOutlawed 4 = .ok (.getfield 140, 3) := by decide +kernel
theorem dX5_isOutlawed_7 : decode cX5_isOutlawed 7 = .ok (.aload_n 0, 1) := by decide +kernel
theorem dX5_isOutlawed_8 : decode cX5_isOutlawed 8 = .ok (.getfield 19, 3) := by decide +kernel
theorem dX5_isOutlawed_11 : decode cX5_isOutlawed 11 = .ok (.getfield 134, 3) := by decide +kernel
theorem dX5_isOutlawed_14 : decode cX5_isOutlawed 14 = .ok (.iload_n 1, 1) := by decide +kernel
theorem dX5_isOutlawed_15 : decode cX5_isOutlawed 15 = .ok (.iaload, 1) := by decide +kernel
theorem dX5_isOutlawed_16 : decode cX5_isOutlawed 16 = .ok (.iaload, 1) := by decide +kernel
theorem dX5_isOutlawed_17 : decode cX5_isOutlawed 17 = .ok (.aload_n 0, 1) := by decide +kernel
theorem dX5_isOutlawed_18 : decode cX5_isOutlawed 18 = .ok (.getfield 58, 3) := by decide +kernel
theorem dX5_isOutlawed_21 : decode cX5_isOutlawed 21 = .ok (.getfield 125, 3) := by decide +kernel
theorem dX5_isOutlawed_24 : decode cX5_isOutlawed 24 = .ok (.iload_n 1, 1) := by decide +kernel
theorem dX5_isOutlawed_25 : decode cX5_isOutlawed 25 = .ok (.iaload, 1) := by decide +kernel
theorem dX5_isOutlawed_26 : decode cX5_isOutlawed 26 = .ok (.invokestatic 143, 3) := by decide +kernel
theorem dX5_isOutlawed_29 : decode cX5_isOutlawed 29 = .ok (.ifCond .ne 7, 3) := by decide +kernel
theorem dX5_isOutlawed_32 : decode cX5_isOutlawed 32 = .ok (.iconst 1, 1) := by decide +kernel
theorem dX5_isOutlawed_33 : decode cX5_isOutlawed 33 = .ok (.goto 4, 3) := by decide +kernel
theorem dX5_isOutlawed_36 : decode cX5_isOutlawed 36 = .ok (.iconst 0, 1) := by decide +kernel
theorem dX5_isOutlawed_37 : decode cX5_isOutlawed 37 = .ok (.ireturn, 1) := by decide +kernel
theorem dX5_outlawed_0 : decode cX5_outlawed 0 = .ok (.iconst 0, 1) := by decide +kernel
theorem dX5_outlawed_1 : decode cX5_outlawed 1 = .ok (.istore_n 1, 1) := by decide +kernel
theorem dX5_outlawed_2 : decode cX5_outlawed 2 = .ok (.iconst 0, 1) := by decide +kernel
theorem dX5_outlawed_3 : decode cX5_outlawed 3 = .ok (.istore_n 2, 1) := by decide +kernel
theorem dX5_outlawed_4 : decode cX5_outlawed 4 = .ok (.iload_n 2, 1) := by decide +kernel
theorem dX5_outlawed_5 : decode cX5_outlawed 5 = .ok (.aload_n 0, 1) := by decide +kernel
theorem dX5_outlawed_6 : decode cX5_outlawed 6 = .ok (.getfield 58, 3) := by decide +kernel
theorem dX5_outlawed_9 : decode cX5_outlawed 9 = .ok (.getfield 177, 3) := by decide +kernel
theorem dX5_outlawed_12 : decode cX5_outlawed 12 = .ok (.if_icmp .ge 23, 3) := by decide +kernel
theorem dX5_outlawed_15 : decode cX5_outlawed 15 = .ok (.aload_n 0, 1) := by decide +kernel
theorem dX5_outlawed_16 : decode cX5_outlawed 16 = .ok (.iload_n 2, 1) := by decide +kernel
theorem dX5_outlawed_17 : decode cX5_outlawed 17 = .ok (.invokevirtual 137, 3) := by decide +kernel
theorem dX5_outlawed_20 : decode cX5_outlawed 20 = .ok (.ifCond .eq 9, 3) := by decide +kernel
theorem dX5_outlawed_23 : decode cX5_outlawed 23 = .ok (.iload_n 1, 1) := by decide +kernel
theorem dX5_outlawed_24 : decode cX5_outlawed 24 = .ok (.iconst 1, 1) := by decide +kernel
theorem dX5_outlawed_25 : decode cX5_outlawed 25 = .ok (.iload_n 2, 1) := by decide +kernel
theorem dX5_outlawed_26 : decode cX5_outlawed 26 = .ok (.ishl, 1) := by decide +kernel
theorem dX5_outlawed_27 : decode cX5_outlawed 27 = .ok (.ior, 1) := by decide +kernel
theorem dX5_outlawed_28 : decode cX5_outlawed 28 = .ok (.istore_n 1, 1) := by decide +kernel
theorem dX5_outlawed_29 : decode cX5_outlawed 29 = .ok (.iinc 2 1, 3) := by decide +kernel
theorem dX5_outlawed_32 : decode cX5_outlawed 32 = .ok (.goto (-28), 3) := by decide +kernel
theorem dX5_outlawed_35 : decode cX5_outlawed 35 = .ok (.iload_n 1, 1) := by decide +kernel
theorem dX5_outlawed_36 : decode cX5_outlawed 36 = .ok (.ireturn, 1) := by decide +kernel
theorem dX5_fallsThrough_0 : decode cX5_fallsThrough 0 = .ok (.aload_n 0, 1) := by decide +kernel
theorem dX5_fallsThrough_1 : decode cX5_fallsThrough 1 = .ok (.getfield 19, 3) := by decide +kernel
theorem dX5_fallsThrough_4 : decode cX5_fallsThrough 4 = .ok (.getfield 134, 3) := by decide +kernel
theorem dX5_fallsThrough_7 : decode cX5_fallsThrough 7 = .ok (.iload_n 1, 1) := by decide +kernel
theorem dX5_fallsThrough_8 : decode cX5_fallsThrough 8 = .ok (.iaload, 1) := by decide +kernel
theorem dX5_fallsThrough_9 : decode cX5_fallsThrough 9 = .ok (.istore_n 2, 1) := by decide +kernel
theorem dX5_fallsThrough_10 : decode cX5_fallsThrough 10 = .ok (.aload_n 0, 1) := by decide +kernel
theorem dX5_fallsThrough_11 : decode cX5_fallsThrough 11 = .ok (.getfield 58, 3) := by decide +kernel
theorem dX5_fallsThrough_14 : decode cX5_fallsThrough 14 = .ok (.getfield 119, 3) := by decide +kernel
theorem dX5_fallsThrough_17 : decode cX5_fallsThrough 17 = .ok (.iload_n 2, 1) := by decide +kernel
theorem dX5_fallsThrough_18 : decode cX5_fallsThrough 18 = .ok (.iaload, 1) := by decide +kernel
theorem dX5_fallsThrough_19 : decode cX5_fallsThrough 19 = .ok (.istore_n 3, 1) := by decide +kernel
theorem dX5_fallsThrough_20 : decode cX5_fallsThrough 20 = .ok (.iload_n 3, 1) := by decide +kernel
theorem dX5_fallsThrough_21 : decode cX5_fallsThrough 21 = .ok (.bipush (-9), 2) := by decide +kernel
theorem dX5_fallsThrough_23 : decode cX5_fallsThrough 23 = .ok (.if_icmp .eq 41, 3) := by decide +kernel
theorem dX5_fallsThrough_26 : decode cX5_fallsThrough 26 = .ok (.aload_n 0, 1) := by decide +kernel
theorem dX5_fallsThrough_27 : decode cX5_fallsThrough 27 = .ok (.getfield 58, 3) := by decide +kernel
theorem dX5_fallsThrough_30 : decode cX5_fallsThrough 30 = .ok (.getfield 128, 3) := by decide +kernel
theorem dX5_fallsThrough_33 : decode cX5_fallsThrough 33 = .ok (.iload_n 1, 1) := by decide +kernel
theorem dX5_fallsThrough_34 : decode cX5_fallsThrough 34 = .ok (.iaload, 1) := by decide +kernel
theorem dX5_fallsThrough_35 : decode cX5_fallsThrough 35 = .ok (.aload_n 0, 1) := by decide +kernel
theorem dX5_fallsThrough_36 : decode cX5_fallsThrough 36 = .ok (.getfield 58, 3) := by decide +kernel
theorem dX5_fallsThrough_39 : decode cX5_fallsThrough 39 = .ok (.getfield 264, 3) := by decide +kernel
theorem dX5_fallsThrough_42 : decode cX5_fallsThrough 42 = .ok (.iload_n 2, 1) := by decide +kernel
theorem dX5_fallsThrough_43 : decode cX5_fallsThrough 43 = .ok (.iaload, 1) := by decide +kernel
theorem dX5_fallsThrough_44 : decode cX5_fallsThrough 44 = .ok (.if_icmp .gt 20, 3) := by decide +kernel
theorem dX5_fallsThrough_47 : decode cX5_fallsThrough 47 = .ok (.aload_n 0, 1) := by decide +kernel
theorem dX5_fallsThrough_48 : decode cX5_fallsThrough 48 = .ok (.iload_n 3, 1) := by decide +kernel
theorem dX5_fallsThrough_49 : decode cX5_fallsThrough 49 = .ok (.aload_n 0, 1) := by decide +kernel
theorem dX5_fallsThrough_50 : decode cX5_fallsThrough 50 = .ok (.getfield 58, 3) := by decide +kernel
theorem dX5_fallsThrough_53 : decode cX5_fallsThrough 53 = .ok (.getfield 128, 3) := by decide +kernel
theorem dX5_fallsThrough_56 : decode cX5_fallsThrough 56 = .ok (.iload_n 1, 1) := by decide +kernel
theorem dX5_fallsThrough_57 : decode cX5_fallsThrough 57 = .ok (.iaload, 1) := by decide +kernel
theorem dX5_fallsThrough_58 : decode cX5_fallsThrough 58 = .ok (.invokevirtual 166, 3) := by decide +kernel
theorem dX5_fallsThrough_61 : decode cX5_fallsThrough 61 = .ok (.ifCond .ne 5, 3) := by decide +kernel
theorem dX5_fallsThrough_64 : decode cX5_fallsThrough 64 = .ok (.iconst 0, 1) := by decide +kernel
theorem dX5_fallsThrough_65 : decode cX5_fallsThrough 65 = .ok (.ireturn, 1) := by decide +kernel
theorem dX5_fallsThrough_66 : decode cX5_fallsThrough 66 = .ok (.aload_n 0, 1) := by decide +kernel
theorem dX5_fallsThrough_67 : decode cX5_fallsThrough 67 = .ok (.getfield 19, 3) := by decide +kernel
theorem dX5_fallsThrough_70 : decode cX5_fallsThrough 70 = .ok (.getfield 134, 3) := by decide +kernel
theorem dX5_fallsThrough_73 : decode cX5_fallsThrough 73 = .ok (.iload_n 1, 1) := by decide +kernel
theorem dX5_fallsThrough_74 : decode cX5_fallsThrough 74 = .ok (.iload_n 3, 1) := by decide +kernel
theorem dX5_fallsThrough_75 : decode cX5_fallsThrough 75 = .ok (.iastore, 1) := by decide +kernel
theorem dX5_fallsThrough_76 : decode cX5_fallsThrough 76 = .ok (.iconst 1, 1) := by decide +kernel
theorem dX5_fallsThrough_77 : decode cX5_fallsThrough 77 = .ok (.ireturn, 1) := by decide +kernel
theorem dX5_least_0 : decode cX5_least 0 = .ok (.aload_n 0, 1) := by decide +kernel
theorem dX5_least_1 : decode cX5_least 1 = .ok (.getfield 45, 3) := by decide +kernel
theorem dX5_least_4 : decode cX5_least 4 = .ok (.ldc_w 267, 3) := by decide +kernel
theorem dX5_least_7 : decode cX5_least 7 = .ok (.invokestatic 222, 3) := by decide +kernel
theorem dX5_least_10 : decode cX5_least 10 = .ok (.aload_n 0, 1) := by decide +kernel
theorem dX5_least_11 : decode cX5_least 11 = .ok (.getfield 45, 3) := by decide +kernel
theorem dX5_least_14 : decode cX5_least 14 = .ok (.aload_n 0, 1) := by decide +kernel
theorem dX5_least_15 : decode cX5_least 15 = .ok (.getfield 19, 3) := by decide +kernel
theorem dX5_least_18 : decode cX5_least 18 = .ok (.getfield 134, 3) := by decide +kernel
theorem dX5_least_21 : decode cX5_least 21 = .ok (.iload_n 1, 1) := by decide +kernel
theorem dX5_least_22 : decode cX5_least 22 = .ok (.iaload, 1) := by decide +kernel
theorem dX5_least_23 : decode cX5_least 23 = .ok (.iconst 0, 1) := by decide +kernel
theorem dX5_least_24 : decode cX5_least 24 = .ok (.iastore, 1) := by decide +kernel
theorem dX5_least_25 : decode cX5_least 25 = .ok (.iconst 1, 1) := by decide +kernel
theorem dX5_least_26 : decode cX5_least 26 = .ok (.istore 6, 2) := by decide +kernel
theorem dX5_least_28 : decode cX5_least 28 = .ok (.iload 6, 2) := by decide +kernel
theorem dX5_least_30 : decode cX5_least 30 = .ok (.aload_n 0, 1) := by decide +kernel
theorem dX5_least_31 : decode cX5_least 31 = .ok (.getfield 58, 3) := by decide +kernel
theorem dX5_least_34 : decode cX5_least 34 = .ok (.getfield 206, 3) := by decide +kernel
theorem dX5_least_37 : decode cX5_least 37 = .ok (.if_icmp .ge 50, 3) := by decide +kernel
theorem dX5_least_40 : decode cX5_least 40 = .ok (.iconst 0, 1) := by decide +kernel
theorem dX5_least_41 : decode cX5_least 41 = .ok (.istore 7, 2) := by decide +kernel
theorem dX5_least_43 : decode cX5_least 43 = .ok (.iload 7, 2) := by decide +kernel
theorem dX5_least_45 : decode cX5_least 45 = .ok (.aload_n 0, 1) := by decide +kernel
theorem dX5_least_46 : decode cX5_least 46 = .ok (.getfield 58, 3) := by decide +kernel
theorem dX5_least_49 : decode cX5_least 49 = .ok (.getfield 206, 3) := by decide +kernel
theorem dX5_least_52 : decode cX5_least 52 = .ok (.if_icmp .ge 29, 3) := by decide +kernel
theorem dX5_least_55 : decode cX5_least 55 = .ok (.aload_n 0, 1) := by decide +kernel
theorem dX5_least_56 : decode cX5_least 56 = .ok (.iload 7, 2) := by decide +kernel
theorem dX5_least_58 : decode cX5_least 58 = .ok (.aload_n 0, 1) := by decide +kernel
theorem dX5_least_59 : decode cX5_least 59 = .ok (.getfield 58, 3) := by decide +kernel
theorem dX5_least_62 : decode cX5_least 62 = .ok (.getfield 125, 3) := by decide +kernel
theorem dX5_least_65 : decode cX5_least 65 = .ok (.iload_n 1, 1) := by decide +kernel
theorem dX5_least_66 : decode cX5_least 66 = .ok (.iaload, 1) := by decide +kernel
theorem dX5_least_67 : decode cX5_least 67 = .ok (.iload_n 3, 1) := by decide +kernel
theorem dX5_least_68 : decode cX5_least 68 = .ok (.iload 4, 2) := by decide +kernel
theorem dX5_least_70 : decode cX5_least 70 = .ok (.iload 5, 2) := by decide +kernel
theorem dX5_least_72 : decode cX5_least 72 = .ok (.invokevirtual 268, 3) := by decide +kernel
theorem dX5_least_75 : decode cX5_least 75 = .ok (.iinc 7 1, 3) := by decide +kernel
theorem dX5_least_78 : decode cX5_least 78 = .ok (.goto (-35), 3) := by decide +kernel
theorem dX5_least_81 : decode cX5_least 81 = .ok (.iinc 6 1, 3) := by decide +kernel
theorem dX5_least_84 : decode cX5_least 84 = .ok (.goto (-56), 3) := by decide +kernel
theorem dX5_least_87 : decode cX5_least 87 = .ok (.aload_n 0, 1) := by decide +kernel
theorem dX5_least_88 : decode cX5_least 88 = .ok (.getfield 45, 3) := by decide +kernel
theorem dX5_least_91 : decode cX5_least 91 = .ok (.iload_n 2, 1) := by decide +kernel
theorem dX5_least_92 : decode cX5_least 92 = .ok (.iaload, 1) := by decide +kernel
theorem dX5_least_93 : decode cX5_least 93 = .ok (.ldc_w 267, 3) := by decide +kernel
theorem dX5_least_96 : decode cX5_least 96 = .ok (.if_icmp .ge 12, 3) := by decide +kernel
theorem dX5_least_99 : decode cX5_least 99 = .ok (.aload_n 0, 1) := by decide +kernel
theorem dX5_least_100 : decode cX5_least 100 = .ok (.getfield 45, 3) := by decide +kernel
theorem dX5_least_103 : decode cX5_least 103 = .ok (.iload_n 2, 1) := by decide +kernel
theorem dX5_least_104 : decode cX5_least 104 = .ok (.iaload, 1) := by decide +kernel
theorem dX5_least_105 : decode cX5_least 105 = .ok (.goto 5, 3) := by decide +kernel
theorem dX5_least_108 : decode cX5_least 108 = .ok (.bipush (-9), 2) := by decide +kernel
theorem dX5_least_110 : decode cX5_least 110 = .ok (.ireturn, 1) := by decide +kernel
theorem dX5_lowerCosts_0 : decode cX5_lowerCosts 0 = .ok (.iconst 0, 1) := by decide +kernel
theorem dX5_lowerCosts_1 : decode cX5_lowerCosts 1 = .ok (.istore 6, 2) := by decide +kernel
theorem dX5_lowerCosts_3 : decode cX5_lowerCosts 3 = .ok (.iload 6, 2) := by decide +kernel
theorem dX5_lowerCosts_5 : decode cX5_lowerCosts 5 = .ok (.aload_n 0, 1) := by decide +kernel
theorem dX5_lowerCosts_6 : decode cX5_lowerCosts 6 = .ok (.getfield 58, 3) := by decide +kernel
theorem dX5_lowerCosts_9 : decode cX5_lowerCosts 9 = .ok (.getfield 206, 3) := by decide +kernel
theorem dX5_lowerCosts_12 : decode cX5_lowerCosts 12 = .ok (.if_icmp .ge 112, 3) := by decide +kernel
theorem dX5_lowerCosts_15 : decode cX5_lowerCosts 15 = .ok (.aload_n 0, 1) := by decide +kernel
theorem dX5_lowerCosts_16 : decode cX5_lowerCosts 16 = .ok (.getfield 58, 3) := by decide +kernel
theorem dX5_lowerCosts_19 : decode cX5_lowerCosts 19 = .ok (.iload_n 1, 1) := by decide +kernel
theorem dX5_lowerCosts_20 : decode cX5_lowerCosts 20 = .ok (.iload 6, 2) := by decide +kernel
theorem dX5_lowerCosts_22 : decode cX5_lowerCosts 22 = .ok (.iload_n 2, 1) := by decide +kernel
theorem dX5_lowerCosts_23 : decode cX5_lowerCosts 23 = .ok (.invokevirtual 163, 3) := by decide +kernel
theorem dX5_lowerCosts_26 : decode cX5_lowerCosts 26 = .ok (.ifCond .eq 92, 3) := by decide +kernel
theorem dX5_lowerCosts_29 : decode cX5_lowerCosts 29 = .ok (.iload_n 1, 1) := by decide +kernel
theorem dX5_lowerCosts_30 : decode cX5_lowerCosts 30 = .ok (.iload 4, 2) := by decide +kernel
theorem dX5_lowerCosts_32 : decode cX5_lowerCosts 32 = .ok (.if_icmp .ne 10, 3) := by decide +kernel
theorem dX5_lowerCosts_35 : decode cX5_lowerCosts 35 = .ok (.iload 6, 2) := by decide +kernel
theorem dX5_lowerCosts_37 : decode cX5_lowerCosts 37 = .ok (.iload 5, 2) := by decide +kernel
theorem dX5_lowerCosts_39 : decode cX5_lowerCosts 39 = .ok (.if_icmp .eq 16, 3) := by decide +kernel
theorem dX5_lowerCosts_42 : decode cX5_lowerCosts 42 = .ok (.iload_n 1, 1) := by decide +kernel
theorem dX5_lowerCosts_43 : decode cX5_lowerCosts 43 = .ok (.iload 5, 2) := by decide +kernel
theorem dX5_lowerCosts_45 : decode cX5_lowerCosts 45 = .ok (.if_icmp .ne 14, 3) := by decide +kernel
theorem dX5_lowerCosts_48 : decode cX5_lowerCosts 48 = .ok (.iload 6, 2) := by decide +kernel
theorem dX5_lowerCosts_50 : decode cX5_lowerCosts 50 = .ok (.iload 4, 2) := by decide +kernel
theorem dX5_lowerCosts_52 : decode cX5_lowerCosts 52 = .ok (.if_icmp .ne 7, 3) := by decide +kernel
theorem dX5_lowerCosts_55 : decode cX5_lowerCosts 55 = .ok (.iconst 1, 1) := by decide +kernel
theorem dX5_lowerCosts_56 : decode cX5_lowerCosts 56 = .ok (.goto 4, 3) := by decide +kernel
theorem dX5_lowerCosts_59 : decode cX5_lowerCosts 59 = .ok (.iconst 0, 1) := by decide +kernel
theorem dX5_lowerCosts_60 : decode cX5_lowerCosts 60 = .ok (.istore 7, 2) := by decide +kernel
theorem dX5_lowerCosts_62 : decode cX5_lowerCosts 62 = .ok (.iload_n 3, 1) := by decide +kernel
theorem dX5_lowerCosts_63 : decode cX5_lowerCosts 63 = .ok (.ifCond .ne 7, 3) := by decide +kernel
theorem dX5_lowerCosts_66 : decode cX5_lowerCosts 66 = .ok (.iconst 1, 1) := by decide +kernel
theorem dX5_lowerCosts_67 : decode cX5_lowerCosts 67 = .ok (.goto 23, 3) := by decide +kernel
theorem dX5_lowerCosts_70 : decode cX5_lowerCosts 70 = .ok (.iload 7, 2) := by decide +kernel
theorem dX5_lowerCosts_72 : decode cX5_lowerCosts 72 = .ok (.ifCond .eq 7, 3) := by decide +kernel
theorem dX5_lowerCosts_75 : decode cX5_lowerCosts 75 = .ok (.iconst 0, 1) := by decide +kernel
theorem dX5_lowerCosts_76 : decode cX5_lowerCosts 76 = .ok (.goto 14, 3) := by decide +kernel
theorem dX5_lowerCosts_79 : decode cX5_lowerCosts 79 = .ok (.aload_n 0, 1) := by decide +kernel
theorem dX5_lowerCosts_80 : decode cX5_lowerCosts 80 = .ok (.getfield 58, 3) := by decide +kernel
theorem dX5_lowerCosts_83 : decode cX5_lowerCosts 83 = .ok (.iload_n 1, 1) := by decide +kernel
theorem dX5_lowerCosts_84 : decode cX5_lowerCosts 84 = .ok (.iload 6, 2) := by decide +kernel
theorem dX5_lowerCosts_86 : decode cX5_lowerCosts 86 = .ok (.iload_n 2, 1) := by decide +kernel
theorem dX5_lowerCosts_87 : decode cX5_lowerCosts 87 = .ok (.invokevirtual 173, 3) := by decide +kernel
theorem dX5_lowerCosts_90 : decode cX5_lowerCosts 90 = .ok (.istore 8, 2) := by decide +kernel
theorem dX5_lowerCosts_92 : decode cX5_lowerCosts 92 = .ok (.aload_n 0, 1) := by decide +kernel
theorem dX5_lowerCosts_93 : decode cX5_lowerCosts 93 = .ok (.getfield 45, 3) := by decide +kernel
theorem dX5_lowerCosts_96 : decode cX5_lowerCosts 96 = .ok (.iload 6, 2) := by decide +kernel
theorem dX5_lowerCosts_98 : decode cX5_lowerCosts 98 = .ok (.aload_n 0, 1) := by decide +kernel
theorem dX5_lowerCosts_99 : decode cX5_lowerCosts 99 = .ok (.getfield 45, 3) := by decide +kernel
theorem dX5_lowerCosts_102 : decode cX5_lowerCosts 102 = .ok (.iload 6, 2) := by decide +kernel
theorem dX5_lowerCosts_104 : decode cX5_lowerCosts 104 = .ok (.iaload, 1) := by decide +kernel
theorem dX5_lowerCosts_105 : decode cX5_lowerCosts 105 = .ok (.aload_n 0, 1) := by decide +kernel
theorem dX5_lowerCosts_106 : decode cX5_lowerCosts 106 = .ok (.getfield 45, 3) := by decide +kernel
theorem dX5_lowerCosts_109 : decode cX5_lowerCosts 109 = .ok (.iload_n 1, 1) := by decide +kernel
theorem dX5_lowerCosts_110 : decode cX5_lowerCosts 110 = .ok (.iaload, 1) := by decide +kernel
theorem dX5_lowerCosts_111 : decode cX5_lowerCosts 111 = .ok (.iload 8, 2) := by decide +kernel
theorem dX5_lowerCosts_113 : decode cX5_lowerCosts 113 = .ok (.iadd, 1) := by decide +kernel
theorem dX5_lowerCosts_114 : decode cX5_lowerCosts 114 = .ok (.invokestatic 272, 3) := by decide +kernel
theorem dX5_lowerCosts_117 : decode cX5_lowerCosts 117 = .ok (.iastore, 1) := by decide +kernel
theorem dX5_lowerCosts_118 : decode cX5_lowerCosts 118 = .ok (.iinc 6 1, 3) := by decide +kernel
theorem dX5_lowerCosts_121 : decode cX5_lowerCosts 121 = .ok (.goto (-118), 3) := by decide +kernel
theorem dX5_lowerCosts_124 : decode cX5_lowerCosts 124 = .ok (.return_, 1) := by decide +kernel
theorem dX5_spreadChance_0 : decode cX5_spreadChance 0 = .ok (.aload_n 0, 1) := by decide +kernel
theorem dX5_spreadChance_1 : decode cX5_spreadChance 1 = .ok (.getfield 52, 3) := by decide +kernel
theorem dX5_spreadChance_4 : decode cX5_spreadChance 4 = .ok (.iconst 0, 1) := by decide +kernel
theorem dX5_spreadChance_5 : decode cX5_spreadChance 5 = .ok (.invokestatic 222, 3) := by decide +kernel
theorem dX5_spreadChance_8 : decode cX5_spreadChance 8 = .ok (.iconst 0, 1) := by decide +kernel
theorem dX5_spreadChance_9 : decode cX5_spreadChance 9 = .ok (.istore_n 3, 1) := by decide +kernel
theorem dX5_spreadChance_10 : decode cX5_spreadChance 10 = .ok (.iload_n 3, 1) := by decide +kernel
theorem dX5_spreadChance_11 : decode cX5_spreadChance 11 = .ok (.aload_n 0, 1) := by decide +kernel
theorem dX5_spreadChance_12 : decode cX5_spreadChance 12 = .ok (.getfield 58, 3) := by decide +kernel
theorem dX5_spreadChance_15 : decode cX5_spreadChance 15 = .ok (.getfield 206, 3) := by decide +kernel
theorem dX5_spreadChance_18 : decode cX5_spreadChance 18 = .ok (.if_icmp .ge 58, 3) := by decide +kernel
theorem dX5_spreadChance_21 : decode cX5_spreadChance 21 = .ok (.aload_n 0, 1) := by decide +kernel
theorem dX5_spreadChance_22 : decode cX5_spreadChance 22 = .ok (.getfield 58, 3) := by decide +kernel
theorem dX5_spreadChance_25 : decode cX5_spreadChance 25 = .ok (.iload_n 3, 1) := by decide +kernel
theorem dX5_spreadChance_26 : decode cX5_spreadChance 26 = .ok (.iload_n 1, 1) := by decide +kernel
theorem dX5_spreadChance_27 : decode cX5_spreadChance 27 = .ok (.invokevirtual 275, 3) := by decide +kernel
theorem dX5_spreadChance_30 : decode cX5_spreadChance 30 = .ok (.istore 4, 2) := by decide +kernel
theorem dX5_spreadChance_32 : decode cX5_spreadChance 32 = .ok (.aload_n 0, 1) := by decide +kernel
theorem dX5_spreadChance_33 : decode cX5_spreadChance 33 = .ok (.getfield 52, 3) := by decide +kernel
theorem dX5_spreadChance_36 : decode cX5_spreadChance 36 = .ok (.iload 4, 2) := by decide +kernel
theorem dX5_spreadChance_38 : decode cX5_spreadChance 38 = .ok (.dup2, 1) := by decide +kernel
theorem dX5_spreadChance_39 : decode cX5_spreadChance 39 = .ok (.iaload, 1) := by decide +kernel
theorem dX5_spreadChance_40 : decode cX5_spreadChance 40 = .ok (.aload_n 0, 1) := by decide +kernel
theorem dX5_spreadChance_41 : decode cX5_spreadChance 41 = .ok (.getfield 49, 3) := by decide +kernel
theorem dX5_spreadChance_44 : decode cX5_spreadChance 44 = .ok (.iload_n 3, 1) := by decide +kernel
theorem dX5_spreadChance_45 : decode cX5_spreadChance 45 = .ok (.iaload, 1) := by decide +kernel
theorem dX5_spreadChance_46 : decode cX5_spreadChance 46 = .ok (.iload_n 2, 1) := by decide +kernel
theorem dX5_spreadChance_47 : decode cX5_spreadChance 47 = .ok (.imul, 1) := by decide +kernel
theorem dX5_spreadChance_48 : decode cX5_spreadChance 48 = .ok (.iadd, 1) := by decide +kernel
theorem dX5_spreadChance_49 : decode cX5_spreadChance 49 = .ok (.iastore, 1) := by decide +kernel
theorem dX5_spreadChance_50 : decode cX5_spreadChance 50 = .ok (.aload_n 0, 1) := by decide +kernel
theorem dX5_spreadChance_51 : decode cX5_spreadChance 51 = .ok (.getfield 52, 3) := by decide +kernel
theorem dX5_spreadChance_54 : decode cX5_spreadChance 54 = .ok (.iload_n 3, 1) := by decide +kernel
theorem dX5_spreadChance_55 : decode cX5_spreadChance 55 = .ok (.dup2, 1) := by decide +kernel
theorem dX5_spreadChance_56 : decode cX5_spreadChance 56 = .ok (.iaload, 1) := by decide +kernel
theorem dX5_spreadChance_57 : decode cX5_spreadChance 57 = .ok (.aload_n 0, 1) := by decide +kernel
theorem dX5_spreadChance_58 : decode cX5_spreadChance 58 = .ok (.getfield 49, 3) := by decide +kernel
theorem dX5_spreadChance_61 : decode cX5_spreadChance 61 = .ok (.iload_n 3, 1) := by decide +kernel
theorem dX5_spreadChance_62 : decode cX5_spreadChance 62 = .ok (.iaload, 1) := by decide +kernel
theorem dX5_spreadChance_63 : decode cX5_spreadChance 63 = .ok (.bipush 10, 2) := by decide +kernel
theorem dX5_spreadChance_65 : decode cX5_spreadChance 65 = .ok (.iload_n 2, 1) := by decide +kernel
theorem dX5_spreadChance_66 : decode cX5_spreadChance 66 = .ok (.isub, 1) := by decide +kernel
theorem dX5_spreadChance_67 : decode cX5_spreadChance 67 = .ok (.imul, 1) := by decide +kernel
theorem dX5_spreadChance_68 : decode cX5_spreadChance 68 = .ok (.iadd, 1) := by decide +kernel
theorem dX5_spreadChance_69 : decode cX5_spreadChance 69 = .ok (.iastore, 1) := by decide +kernel
theorem dX5_spreadChance_70 : decode cX5_spreadChance 70 = .ok (.iinc 3 1, 3) := by decide +kernel
theorem dX5_spreadChance_73 : decode cX5_spreadChance 73 = .ok (.goto (-63), 3) := by decide +kernel
theorem dX5_spreadChance_76 : decode cX5_spreadChance 76 = .ok (.aload_n 0, 1) := by decide +kernel
theorem dX5_spreadChance_77 : decode cX5_spreadChance 77 = .ok (.getfield 52, 3) := by decide +kernel
theorem dX5_spreadChance_80 : decode cX5_spreadChance 80 = .ok (.iconst 0, 1) := by decide +kernel
theorem dX5_spreadChance_81 : decode cX5_spreadChance 81 = .ok (.aload_n 0, 1) := by decide +kernel
theorem dX5_spreadChance_82 : decode cX5_spreadChance 82 = .ok (.getfield 49, 3) := by decide +kernel
theorem dX5_spreadChance_85 : decode cX5_spreadChance 85 = .ok (.iconst 0, 1) := by decide +kernel
theorem dX5_spreadChance_86 : decode cX5_spreadChance 86 = .ok (.bipush 6, 2) := by decide +kernel
theorem dX5_spreadChance_88 : decode cX5_spreadChance 88 = .ok (.invokestatic 278, 3) := by decide +kernel
theorem dX5_spreadChance_91 : decode cX5_spreadChance 91 = .ok (.return_, 1) := by decide +kernel
theorem dX5_asPocket_0 : decode cX5_asPocket 0 = .ok (.aload_n 0, 1) := by decide +kernel
theorem dX5_asPocket_1 : decode cX5_asPocket 1 = .ok (.dup, 1) := by decide +kernel
theorem dX5_asPocket_2 : decode cX5_asPocket 2 = .ok (.getfield 260, 3) := by decide +kernel
theorem dX5_asPocket_5 : decode cX5_asPocket 5 = .ok (.lconst 1, 1) := by decide +kernel
theorem dX5_asPocket_6 : decode cX5_asPocket 6 = .ok (.ladd, 1) := by decide +kernel
theorem dX5_asPocket_7 : decode cX5_asPocket 7 = .ok (.putfield 260, 3) := by decide +kernel
theorem dX5_asPocket_10 : decode cX5_asPocket 10 = .ok (.aload_n 0, 1) := by decide +kernel
theorem dX5_asPocket_11 : decode cX5_asPocket 11 = .ok (.iload_n 1, 1) := by decide +kernel
theorem dX5_asPocket_12 : decode cX5_asPocket 12 = .ok (.invokevirtual 109, 3) := by decide +kernel
theorem dX5_asPocket_15 : decode cX5_asPocket 15 = .ok (.ireturn, 1) := by decide +kernel
theorem dX5_asCoat_0 : decode cX5_asCoat 0 = .ok (.aload_n 0, 1) := by decide +kernel
theorem dX5_asCoat_1 : decode cX5_asCoat 1 = .ok (.dup, 1) := by decide +kernel
theorem dX5_asCoat_2 : decode cX5_asCoat 2 = .ok (.getfield 260, 3) := by decide +kernel
theorem dX5_asCoat_5 : decode cX5_asCoat 5 = .ok (.ldc2_w 284, 3) := by decide +kernel
theorem dX5_asCoat_8 : decode cX5_asCoat 8 = .ok (.ladd, 1) := by decide +kernel
theorem dX5_asCoat_9 : decode cX5_asCoat 9 = .ok (.putfield 260, 3) := by decide +kernel
theorem dX5_asCoat_12 : decode cX5_asCoat 12 = .ok (.aload_n 0, 1) := by decide +kernel
theorem dX5_asCoat_13 : decode cX5_asCoat 13 = .ok (.iload_n 1, 1) := by decide +kernel
theorem dX5_asCoat_14 : decode cX5_asCoat 14 = .ok (.invokevirtual 236, 3) := by decide +kernel
theorem dX5_asCoat_17 : decode cX5_asCoat 17 = .ok (.aload_n 0, 1) := by decide +kernel
theorem dX5_asCoat_18 : decode cX5_asCoat 18 = .ok (.getfield 58, 3) := by decide +kernel
theorem dX5_asCoat_21 : decode cX5_asCoat 21 = .ok (.getfield 97, 3) := by decide +kernel
theorem dX5_asCoat_24 : decode cX5_asCoat 24 = .ok (.iload_n 1, 1) := by decide +kernel
theorem dX5_asCoat_25 : decode cX5_asCoat 25 = .ok (.iaload, 1) := by decide +kernel
theorem dX5_asCoat_26 : decode cX5_asCoat 26 = .ok (.iadd, 1) := by decide +kernel
theorem dX5_asCoat_27 : decode cX5_asCoat 27 = .ok (.ireturn, 1) := by decide +kernel
theorem dX5_asPurse_0 : decode cX5_asPurse 0 = .ok (.aload_n 0, 1) := by decide +kernel
theorem dX5_asPurse_1 : decode cX5_asPurse 1 = .ok (.dup, 1) := by decide +kernel
theorem dX5_asPurse_2 : decode cX5_asPurse 2 = .ok (.getfield 260, 3) := by decide +kernel
theorem dX5_asPurse_5 : decode cX5_asPurse 5 = .ok (.ldc2_w 286, 3) := by decide +kernel
theorem dX5_asPurse_8 : decode cX5_asPurse 8 = .ok (.ladd, 1) := by decide +kernel
theorem dX5_asPurse_9 : decode cX5_asPurse 9 = .ok (.putfield 260, 3) := by decide +kernel
theorem dX5_asPurse_12 : decode cX5_asPurse 12 = .ok (.aload_n 0, 1) := by decide +kernel
theorem dX5_asPurse_13 : decode cX5_asPurse 13 = .ok (.iload_n 1, 1) := by decide +kernel
theorem dX5_asPurse_14 : decode cX5_asPurse 14 = .ok (.invokevirtual 236, 3) := by decide +kernel
theorem dX5_asPurse_17 : decode cX5_asPurse 17 = .ok (.aload_n 0, 1) := by decide +kernel
theorem dX5_asPurse_18 : decode cX5_asPurse 18 = .ok (.getfield 58, 3) := by decide +kernel
theorem dX5_asPurse_21 : decode cX5_asPurse 21 = .ok (.getfield 103, 3) := by decide +kernel
theorem dX5_asPurse_24 : decode cX5_asPurse 24 = .ok (.iload_n 1, 1) := by decide +kernel
theorem dX5_asPurse_25 : decode cX5_asPurse 25 = .ok (.iaload, 1) := by decide +kernel
theorem dX5_asPurse_26 : decode cX5_asPurse 26 = .ok (.isub, 1) := by decide +kernel
theorem dX5_asPurse_27 : decode cX5_asPurse 27 = .ok (.ireturn, 1) := by decide +kernel
theorem dX5_asLeague_0 : decode cX5_asLeague 0 = .ok (.aload_n 0, 1) := by decide +kernel
theorem dX5_asLeague_1 : decode cX5_asLeague 1 = .ok (.dup, 1) := by decide +kernel
theorem dX5_asLeague_2 : decode cX5_asLeague 2 = .ok (.getfield 260, 3) := by decide +kernel
theorem dX5_asLeague_5 : decode cX5_asLeague 5 = .ok (.ldc2_w 288, 3) := by decide +kernel
theorem dX5_asLeague_8 : decode cX5_asLeague 8 = .ok (.ladd, 1) := by decide +kernel
theorem dX5_asLeague_9 : decode cX5_asLeague 9 = .ok (.putfield 260, 3) := by decide +kernel
theorem dX5_asLeague_12 : decode cX5_asLeague 12 = .ok (.iconst 2, 1) := by decide +kernel
theorem dX5_asLeague_13 : decode cX5_asLeague 13 = .ok (.aload_n 0, 1) := by decide +kernel
theorem dX5_asLeague_14 : decode cX5_asLeague 14 = .ok (.iload_n 1, 1) := by decide +kernel
theorem dX5_asLeague_15 : decode cX5_asLeague 15 = .ok (.invokevirtual 239, 3) := by decide +kernel
theorem dX5_asLeague_18 : decode cX5_asLeague 18 = .ok (.imul, 1) := by decide +kernel
theorem dX5_asLeague_19 : decode cX5_asLeague 19 = .ok (.ireturn, 1) := by decide +kernel
theorem dX5_asBeggar_0 : decode cX5_asBeggar 0 = .ok (.aload_n 0, 1) := by decide +kernel
theorem dX5_asBeggar_1 : decode cX5_asBeggar 1 = .ok (.dup, 1) := by decide +kernel
theorem dX5_asBeggar_2 : decode cX5_asBeggar 2 = .ok (.getfield 260, 3) := by decide +kernel
theorem dX5_asBeggar_5 : decode cX5_asBeggar 5 = .ok (.ldc2_w 290, 3) := by decide +kernel
theorem dX5_asBeggar_8 : decode cX5_asBeggar 8 = .ok (.ladd, 1) := by decide +kernel
theorem dX5_asBeggar_9 : decode cX5_asBeggar 9 = .ok (.putfield 260, 3) := by decide +kernel
theorem dX5_asBeggar_12 : decode cX5_asBeggar 12 = .ok (.aload_n 0, 1) := by decide +kernel
theorem dX5_asBeggar_13 : decode cX5_asBeggar 13 = .ok (.iload_n 1, 1) := by decide +kernel
theorem dX5_asBeggar_14 : decode cX5_asBeggar 14 = .ok (.invokevirtual 242, 3) := by decide +kernel
theorem dX5_asBeggar_17 : decode cX5_asBeggar 17 = .ok (.iload_n 1, 1) := by decide +kernel
theorem dX5_asBeggar_18 : decode cX5_asBeggar 18 = .ok (.iadd, 1) := by decide +kernel
theorem dX5_asBeggar_19 : decode cX5_asBeggar 19 = .ok (.ireturn, 1) := by decide +kernel
theorem dX5_asLining_0 : decode cX5_asLining 0 = .ok (.aload_n 0, 1) := by decide +kernel
theorem dX5_asLining_1 : decode cX5_asLining 1 = .ok (.dup, 1) := by decide +kernel
theorem dX5_asLining_2 : decode cX5_asLining 2 = .ok (.getfield 260, 3) := by decide +kernel
theorem dX5_asLining_5 : decode cX5_asLining 5 = .ok (.ldc2_w 292, 3) := by decide +kernel
theorem dX5_asLining_8 : decode cX5_asLining 8 = .ok (.ladd, 1) := by decide +kernel
theorem dX5_asLining_9 : decode cX5_asLining 9 = .ok (.putfield 260, 3) := by decide +kernel
theorem dX5_asLining_12 : decode cX5_asLining 12 = .ok (.aload_n 0, 1) := by decide +kernel
theorem dX5_asLining_13 : decode cX5_asLining 13 = .ok (.iload_n 1, 1) := by decide +kernel
theorem dX5_asLining_14 : decode cX5_asLining 14 = .ok (.invokevirtual 236, 3) := by decide +kernel
theorem dX5_asLining_17 : decode cX5_asLining 17 = .ok (.aload_n 0, 1) := by decide +kernel
theorem dX5_asLining_18 : decode cX5_asLining 18 = .ok (.getfield 58, 3) := by decide +kernel
theorem dX5_asLining_21 : decode cX5_asLining 21 = .ok (.iload_n 1, 1) := by decide +kernel
theorem dX5_asLining_22 : decode cX5_asLining 22 = .ok (.invokevirtual 113, 3) := by decide +kernel
theorem dX5_asLining_25 : decode cX5_asLining 25 = .ok (.iadd, 1) := by decide +kernel
theorem dX5_asLining_26 : decode cX5_asLining 26 = .ok (.ireturn, 1) := by decide +kernel
theorem dX5_within_0 : decode cX5_within 0 = .ok (.iload_n 0, 1) := by decide +kernel
theorem dX5_within_1 : decode cX5_within 1 = .ok (.iload_n 1, 1) := by decide +kernel
theorem dX5_within_2 : decode cX5_within 2 = .ok (.if_icmp .lt 12, 3) := by decide +kernel
theorem dX5_within_5 : decode cX5_within 5 = .ok (.iload_n 0, 1) := by decide +kernel
theorem dX5_within_6 : decode cX5_within 6 = .ok (.iload_n 2, 1) := by decide +kernel
theorem dX5_within_7 : decode cX5_within 7 = .ok (.if_icmp .gt 7, 3) := by decide +kernel
theorem dX5_within_10 : decode cX5_within 10 = .ok (.iconst 1, 1) := by decide +kernel
theorem dX5_within_11 : decode cX5_within 11 = .ok (.goto 4, 3) := by decide +kernel
theorem dX5_within_14 : decode cX5_within 14 = .ok (.iconst 0, 1) := by decide +kernel
theorem dX5_within_15 : decode cX5_within 15 = .ok (.ireturn, 1) := by decide +kernel
theorem dX5_has_0 : decode cX5_has 0 = .ok (.iload_n 0, 1) := by decide +kernel
theorem dX5_has_1 : decode cX5_has 1 = .ok (.iload_n 1, 1) := by decide +kernel
theorem dX5_has_2 : decode cX5_has 2 = .ok (.ishr, 1) := by decide +kernel
theorem dX5_has_3 : decode cX5_has 3 = .ok (.iconst 1, 1) := by decide +kernel
theorem dX5_has_4 : decode cX5_has 4 = .ok (.iand, 1) := by decide +kernel
theorem dX5_has_5 : decode cX5_has 5 = .ok (.iconst 1, 1) := by decide +kernel
theorem dX5_has_6 : decode cX5_has 6 = .ok (.if_icmp .ne 7, 3) := by decide +kernel
theorem dX5_has_9 : decode cX5_has 9 = .ok (.iconst 1, 1) := by decide +kernel
theorem dX5_has_10 : decode cX5_has 10 = .ok (.goto 4, 3) := by decide +kernel
theorem dX5_has_13 : decode cX5_has 13 = .ok (.iconst 0, 1) := by decide +kernel
theorem dX5_has_14 : decode cX5_has 14 = .ok (.ireturn, 1) := by decide +kernel
theorem dX5_commonDivisor_0 : decode cX5_commonDivisor 0 = .ok (.iload_n 0, 1) := by decide +kernel
theorem dX5_commonDivisor_1 : decode cX5_commonDivisor 1 = .ok (.istore_n 2, 1) := by decide +kernel
theorem dX5_commonDivisor_2 : decode cX5_commonDivisor 2 = .ok (.iload_n 1, 1) := by decide +kernel
theorem dX5_commonDivisor_3 : decode cX5_commonDivisor 3 = .ok (.istore_n 3, 1) := by decide +kernel
theorem dX5_commonDivisor_4 : decode cX5_commonDivisor 4 = .ok (.iconst 0, 1) := by decide +kernel
theorem dX5_commonDivisor_5 : decode cX5_commonDivisor 5 = .ok (.istore 4, 2) := by decide +kernel
theorem dX5_commonDivisor_7 : decode cX5_commonDivisor 7 = .ok (.iload 4, 2) := by decide +kernel
theorem dX5_commonDivisor_9 : decode cX5_commonDivisor 9 = .ok (.bipush 64, 2) := by decide +kernel
theorem dX5_commonDivisor_11 : decode cX5_commonDivisor 11 = .ok (.if_icmp .ge 23, 3) := by decide +kernel
theorem dX5_commonDivisor_14 : decode cX5_commonDivisor 14 = .ok (.iload_n 3, 1) := by decide +kernel
theorem dX5_commonDivisor_15 : decode cX5_commonDivisor 15 = .ok (.ifCond .eq 19, 3) := by decide +kernel
theorem dX5_commonDivisor_18 : decode cX5_commonDivisor 18 = .ok (.iload_n 2, 1) := by decide +kernel
theorem dX5_commonDivisor_19 : decode cX5_commonDivisor 19 = .ok (.iload_n 3, 1) := by decide +kernel
theorem dX5_commonDivisor_20 : decode cX5_commonDivisor 20 = .ok (.irem, 1) := by decide +kernel
theorem dX5_commonDivisor_21 : decode cX5_commonDivisor 21 = .ok (.istore 5, 2) := by decide +kernel
theorem dX5_commonDivisor_23 : decode cX5_commonDivisor 23 = .ok (.iload_n 3, 1) := by decide +kernel
theorem dX5_commonDivisor_24 : decode cX5_commonDivisor 24 = .ok (.istore_n 2, 1) := by decide +kernel
theorem dX5_commonDivisor_25 : decode cX5_commonDivisor 25 = .ok (.iload 5, 2) := by decide +kernel
theorem dX5_commonDivisor_27 : decode cX5_commonDivisor 27 = .ok (.istore_n 3, 1) := by decide +kernel
theorem dX5_commonDivisor_28 : decode cX5_commonDivisor 28 = .ok (.iinc 4 1, 3) := by decide +kernel
theorem dX5_commonDivisor_31 : decode cX5_commonDivisor 31 = .ok (.goto (-24), 3) := by decide +kernel
theorem dX5_commonDivisor_34 : decode cX5_commonDivisor 34 = .ok (.iconst 1, 1) := by decide +kernel
theorem dX5_commonDivisor_35 : decode cX5_commonDivisor 35 = .ok (.iload_n 2, 1) := by decide +kernel
theorem dX5_commonDivisor_36 : decode cX5_commonDivisor 36 = .ok (.invokestatic 201, 3) := by decide +kernel
theorem dX5_commonDivisor_39 : decode cX5_commonDivisor 39 = .ok (.ireturn, 1) := by decide +kernel
theorem dX6_init_0 : decode cX6_init 0 = .ok (.aload_n 0, 1) := by decide +kernel
theorem dX6_init_1 : decode cX6_init 1 = .ok (.invokespecial 1, 3) := by decide +kernel
theorem dX6_init_4 : decode cX6_init 4 = .ok (.aload_n 0, 1) := by decide +kernel
theorem dX6_init_5 : decode cX6_init 5 = .ok (.sipush 200, 3) := by decide +kernel
theorem dX6_init_8 : decode cX6_init 8 = .ok (.newarray .int, 2) := by decide +kernel
theorem dX6_init_10 : decode cX6_init 10 = .ok (.putfield 7, 3) := by decide +kernel
theorem dX6_init_13 : decode cX6_init 13 = .ok (.aload_n 0, 1) := by decide +kernel
theorem dX6_init_14 : decode cX6_init 14 = .ok (.bipush 48, 2) := by decide +kernel
theorem dX6_init_16 : decode cX6_init 16 = .ok (.newarray .int, 2) := by decide +kernel
theorem dX6_init_18 : decode cX6_init 18 = .ok (.putfield 13, 3) := by decide +kernel
theorem dX6_init_21 : decode cX6_init 21 = .ok (.aload_n 0, 1) := by decide +kernel
theorem dX6_init_22 : decode cX6_init 22 = .ok (.bipush 36, 2) := by decide +kernel
theorem dX6_init_24 : decode cX6_init 24 = .ok (.newarray .boolean, 2) := by decide +kernel
theorem dX6_init_26 : decode cX6_init 26 = .ok (.putfield 16, 3) := by decide +kernel
theorem dX6_init_29 : decode cX6_init 29 = .ok (.aload_n 0, 1) := by decide +kernel
theorem dX6_init_30 : decode cX6_init 30 = .ok (.bipush 36, 2) := by decide +kernel
theorem dX6_init_32 : decode cX6_init 32 = .ok (.newarray .int, 2) := by decide +kernel
theorem dX6_init_34 : decode cX6_init 34 = .ok (.putfield 20, 3) := by decide +kernel
theorem dX6_init_37 : decode cX6_init 37 = .ok (.aload_n 0, 1) := by decide +kernel
theorem dX6_init_38 : decode cX6_init 38 = .ok (.bipush 6, 2) := by decide +kernel
theorem dX6_init_40 : decode cX6_init 40 = .ok (.newarray .int, 2) := by decide +kernel
theorem dX6_init_42 : decode cX6_init 42 = .ok (.putfield 23, 3) := by decide +kernel
theorem dX6_init_45 : decode cX6_init 45 = .ok (.aload_n 0, 1) := by decide +kernel
theorem dX6_init_46 : decode cX6_init 46 = .ok (.bipush 6, 2) := by decide +kernel
theorem dX6_init_48 : decode cX6_init 48 = .ok (.newarray .int, 2) := by decide +kernel
theorem dX6_init_50 : decode cX6_init 50 = .ok (.putfield 26, 3) := by decide +kernel
theorem dX6_init_53 : decode cX6_init 53 = .ok (.aload_n 0, 1) := by decide +kernel
theorem dX6_init_54 : decode cX6_init 54 = .ok (.bipush 6, 2) := by decide +kernel
theorem dX6_init_56 : decode cX6_init 56 = .ok (.newarray .int, 2) := by decide +kernel
theorem dX6_init_58 : decode cX6_init 58 = .ok (.putfield 29, 3) := by decide +kernel
theorem dX6_init_61 : decode cX6_init 61 = .ok (.aload_n 0, 1) := by decide +kernel
theorem dX6_init_62 : decode cX6_init 62 = .ok (.bipush 8, 2) := by decide +kernel
theorem dX6_init_64 : decode cX6_init 64 = .ok (.newarray .int, 2) := by decide +kernel
theorem dX6_init_66 : decode cX6_init 66 = .ok (.putfield 32, 3) := by decide +kernel
theorem dX6_init_69 : decode cX6_init 69 = .ok (.aload_n 0, 1) := by decide +kernel
theorem dX6_init_70 : decode cX6_init 70 = .ok (.bipush 80, 2) := by decide +kernel
theorem dX6_init_72 : decode cX6_init 72 = .ok (.newarray .int, 2) := by decide +kernel
theorem dX6_init_74 : decode cX6_init 74 = .ok (.putfield 35, 3) := by decide +kernel
theorem dX6_init_77 : decode cX6_init 77 = .ok (.aload_n 0, 1) := by decide +kernel
theorem dX6_init_78 : decode cX6_init 78 = .ok (.bipush 48, 2) := by decide +kernel
theorem dX6_init_80 : decode cX6_init 80 = .ok (.newarray .int, 2) := by decide +kernel
theorem dX6_init_82 : decode cX6_init 82 = .ok (.putfield 38, 3) := by decide +kernel
theorem dX6_init_85 : decode cX6_init 85 = .ok (.aload_n 0, 1) := by decide +kernel
theorem dX6_init_86 : decode cX6_init 86 = .ok (.bipush 36, 2) := by decide +kernel
theorem dX6_init_88 : decode cX6_init 88 = .ok (.newarray .boolean, 2) := by decide +kernel
theorem dX6_init_90 : decode cX6_init 90 = .ok (.putfield 41, 3) := by decide +kernel
theorem dX6_init_93 : decode cX6_init 93 = .ok (.aload_n 0, 1) := by decide +kernel
theorem dX6_init_94 : decode cX6_init 94 = .ok (.bipush 36, 2) := by decide +kernel
theorem dX6_init_96 : decode cX6_init 96 = .ok (.newarray .int, 2) := by decide +kernel
theorem dX6_init_98 : decode cX6_init 98 = .ok (.putfield 44, 3) := by decide +kernel
theorem dX6_init_101 : decode cX6_init 101 = .ok (.aload_n 0, 1) := by decide +kernel
theorem dX6_init_102 : decode cX6_init 102 = .ok (.bipush 24, 2) := by decide +kernel
theorem dX6_init_104 : decode cX6_init 104 = .ok (.newarray .int, 2) := by decide +kernel
theorem dX6_init_106 : decode cX6_init 106 = .ok (.putfield 47, 3) := by decide +kernel
theorem dX6_init_109 : decode cX6_init 109 = .ok (.aload_n 0, 1) := by decide +kernel
theorem dX6_init_110 : decode cX6_init 110 = .ok (.iconst 4, 1) := by decide +kernel
theorem dX6_init_111 : decode cX6_init 111 = .ok (.newarray .int, 2) := by decide +kernel
theorem dX6_init_113 : decode cX6_init 113 = .ok (.putfield 50, 3) := by decide +kernel
theorem dX6_init_116 : decode cX6_init 116 = .ok (.aload_n 0, 1) := by decide +kernel
theorem dX6_init_117 : decode cX6_init 117 = .ok (.bipush 6, 2) := by decide +kernel
theorem dX6_init_119 : decode cX6_init 119 = .ok (.newarray .int, 2) := by decide +kernel
theorem dX6_init_121 : decode cX6_init 121 = .ok (.putfield 53, 3) := by decide +kernel
theorem dX6_init_124 : decode cX6_init 124 = .ok (.aload_n 0, 1) := by decide +kernel
theorem dX6_init_125 : decode cX6_init 125 = .ok (.bipush 6, 2) := by decide +kernel
theorem dX6_init_127 : decode cX6_init 127 = .ok (.newarray .int, 2) := by decide +kernel
theorem dX6_init_129 : decode cX6_init 129 = .ok (.putfield 56, 3) := by decide +kernel
theorem dX6_init_132 : decode cX6_init 132 = .ok (.aload_n 0, 1) := by decide +kernel
theorem dX6_init_133 : decode cX6_init 133 = .ok (.bipush 6, 2) := by decide +kernel
theorem dX6_init_135 : decode cX6_init 135 = .ok (.newarray .int, 2) := by decide +kernel
theorem dX6_init_137 : decode cX6_init 137 = .ok (.putfield 59, 3) := by decide +kernel
theorem dX6_init_140 : decode cX6_init 140 = .ok (.aload_n 0, 1) := by decide +kernel
theorem dX6_init_141 : decode cX6_init 141 = .ok (.bipush 6, 2) := by decide +kernel
theorem dX6_init_143 : decode cX6_init 143 = .ok (.newarray .int, 2) := by decide +kernel
theorem dX6_init_145 : decode cX6_init 145 = .ok (.putfield 62, 3) := by decide +kernel
theorem dX6_init_148 : decode cX6_init 148 = .ok (.aload_n 0, 1) := by decide +kernel
theorem dX6_init_149 : decode cX6_init 149 = .ok (.bipush 6, 2) := by decide +kernel
theorem dX6_init_151 : decode cX6_init 151 = .ok (.newarray .long, 2) := by decide +kernel
theorem dX6_init_153 : decode cX6_init 153 = .ok (.putfield 65, 3) := by decide +kernel
theorem dX6_init_156 : decode cX6_init 156 = .ok (.aload_n 0, 1) := by decide +kernel
theorem dX6_init_157 : decode cX6_init 157 = .ok (.bipush 6, 2) := by decide +kernel
theorem dX6_init_159 : decode cX6_init 159 = .ok (.newarray .long, 2) := by decide +kernel
theorem dX6_init_161 : decode cX6_init 161 = .ok (.putfield 69, 3) := by decide +kernel
theorem dX6_init_164 : decode cX6_init 164 = .ok (.aload_n 0, 1) := by decide +kernel
theorem dX6_init_165 : decode cX6_init 165 = .ok (.iconst 2, 1) := by decide +kernel
theorem dX6_init_166 : decode cX6_init 166 = .ok (.newarray .boolean, 2) := by decide +kernel
theorem dX6_init_168 : decode cX6_init 168 = .ok (.putfield 72, 3) := by decide +kernel
theorem dX6_init_171 : decode cX6_init 171 = .ok (.aload_n 0, 1) := by decide +kernel
theorem dX6_init_172 : decode cX6_init 172 = .ok (.bipush 16, 2) := by decide +kernel
theorem dX6_init_174 : decode cX6_init 174 = .ok (.newarray .int, 2) := by decide +kernel
theorem dX6_init_176 : decode cX6_init 176 = .ok (.putfield 75, 3) := by decide +kernel
theorem dX6_init_179 : decode cX6_init 179 = .ok (.return_, 1) := by decide +kernel
theorem dX6_in_0 : decode cX6_in 0 = .ok (.lload_n 0, 1) := by decide +kernel
theorem dX6_in_1 : decode cX6_in 1 = .ok (.lload_n 2, 1) := by decide +kernel
theorem dX6_in_2 : decode cX6_in 2 = .ok (.lcmp, 1) := by decide +kernel
theorem dX6_in_3 : decode cX6_in 3 = .ok (.ifCond .lt 14, 3) := by decide +kernel
theorem dX6_in_6 : decode cX6_in 6 = .ok (.lload_n 0, 1) := by decide +kernel
theorem dX6_in_7 : decode cX6_in 7 = .ok (.lload 4, 2) := by decide +kernel
theorem dX6_in_9 : decode cX6_in 9 = .ok (.lcmp, 1) := by decide +kernel
theorem dX6_in_10 : decode cX6_in 10 = .ok (.ifCond .gt 7, 3) := by decide +kernel
theorem dX6_in_13 : decode cX6_in 13 = .ok (.iconst 1, 1) := by decide +kernel
theorem dX6_in_14 : decode cX6_in 14 = .ok (.goto 4, 3) := by decide +kernel
theorem dX6_in_17 : decode cX6_in 17 = .ok (.iconst 0, 1) := by decide +kernel
theorem dX6_in_18 : decode cX6_in 18 = .ok (.ireturn, 1) := by decide +kernel
theorem dX6_has_0 : decode cX6_has 0 = .ok (.iload_n 0, 1) := by decide +kernel
theorem dX6_has_1 : decode cX6_has 1 = .ok (.iload_n 1, 1) := by decide +kernel
theorem dX6_has_2 : decode cX6_has 2 = .ok (.ishr, 1) := by decide +kernel
theorem dX6_has_3 : decode cX6_has 3 = .ok (.iconst 1, 1) := by decide +kernel
theorem dX6_has_4 : decode cX6_has 4 = .ok (.iand, 1) := by decide +kernel
theorem dX6_has_5 : decode cX6_has 5 = .ok (.iconst 1, 1) := by decide +kernel
theorem dX6_has_6 : decode cX6_has 6 = .ok (.if_icmp .ne 7, 3) := by decide +kernel
theorem dX6_has_9 : decode cX6_has 9 = .ok (.iconst 1, 1) := by decide +kernel
theorem dX6_has_10 : decode cX6_has 10 = .ok (.goto 4, 3) := by decide +kernel
theorem dX6_has_13 : decode cX6_has 13 = .ok (.iconst 0, 1) := by decide +kernel
theorem dX6_has_14 : decode cX6_has 14 = .ok (.ireturn, 1) := by decide +kernel
theorem dX6_isPocket_0 : decode cX6_isPocket 0 = .ok (.iload_n 1, 1) := by decide +kernel
theorem dX6_isPocket_1 : decode cX6_isPocket 1 = .ok (.i2l, 1) := by decide +kernel
theorem dX6_isPocket_2 : decode cX6_isPocket 2 = .ok (.lconst 0, 1) := by decide +kernel
theorem dX6_isPocket_3 : decode cX6_isPocket 3 = .ok (.aload_n 0, 1) := by decide +kernel
theorem dX6_isPocket_4 : decode cX6_isPocket 4 = .ok (.getfield 78, 3) := by decide +kernel
theorem dX6_isPocket_7 : decode cX6_isPocket 7 = .ok (.iconst 1, 1) := by decide +kernel
theorem dX6_isPocket_8 : decode cX6_isPocket 8 = .ok (.isub, 1) := by decide +kernel
theorem dX6_isPocket_9 : decode cX6_isPocket 9 = .ok (.i2l, 1) := by decide +kernel
theorem dX6_isPocket_10 : decode cX6_isPocket 10 = .ok (.invokestatic 82, 3) := by decide +kernel
theorem dX6_isPocket_13 : decode cX6_isPocket 13 = .ok (.ireturn, 1) := by decide +kernel
theorem dX6_isThing_0 : decode cX6_isThing 0 = .ok (.iload_n 1, 1) := by decide +kernel
theorem dX6_isThing_1 : decode cX6_isThing 1 = .ok (.i2l, 1) := by decide +kernel
theorem dX6_isThing_2 : decode cX6_isThing 2 = .ok (.lconst 0, 1) := by decide +kernel
theorem dX6_isThing_3 : decode cX6_isThing 3 = .ok (.aload_n 0, 1) := by decide +kernel
theorem dX6_isThing_4 : decode cX6_isThing 4 = .ok (.getfield 86, 3) := by decide +kernel
theorem dX6_isThing_7 : decode cX6_isThing 7 = .ok (.iconst 1, 1) := by decide +kernel
theorem dX6_isThing_8 : decode cX6_isThing 8 = .ok (.isub, 1) := by decide +kernel
theorem dX6_isThing_9 : decode cX6_isThing 9 = .ok (.i2l, 1) := by decide +kernel
theorem dX6_isThing_10 : decode cX6_isThing 10 = .ok (.invokestatic 82, 3) := by decide +kernel
theorem dX6_isThing_13 : decode cX6_isThing 13 = .ok (.ireturn, 1) := by decide +kernel
theorem dX6_type_0 : decode cX6_type 0 = .ok (.iload_n 1, 1) := by decide +kernel
theorem dX6_type_1 : decode cX6_type 1 = .ok (.i2l, 1) := by decide +kernel
theorem dX6_type_2 : decode cX6_type 2 = .ok (.lconst 0, 1) := by decide +kernel
theorem dX6_type_3 : decode cX6_type 3 = .ok (.ldc2_w 89, 3) := by decide +kernel
theorem dX6_type_6 : decode cX6_type 6 = .ok (.invokestatic 82, 3) := by decide +kernel
theorem dX6_type_9 : decode cX6_type 9 = .ok (.ifCond .ne 5, 3) := by decide +kernel
theorem dX6_type_12 : decode cX6_type 12 = .ok (.iconst (-1), 1) := by decide +kernel
theorem dX6_type_13 : decode cX6_type 13 = .ok (.ireturn, 1) := by decide +kernel
theorem dX6_type_14 : decode cX6_type 14 = .ok (.aload_n 0, 1) := by decide +kernel
theorem dX6_type_15 : decode cX6_type 15 = .ok (.getfield 91, 3) := by decide +kernel
theorem dX6_type_18 : decode cX6_type 18 = .ok (.sipush 200, 3) := by decide +kernel
theorem dX6_type_21 : decode cX6_type 21 = .ok (.if_icmp .ne 6, 3) := by decide +kernel
theorem dX6_type_24 : decode cX6_type 24 = .ok (.bipush (-3), 2) := by decide +kernel
theorem dX6_type_26 : decode cX6_type 26 = .ok (.ireturn, 1) := by decide +kernel
theorem dX6_type_27 : decode cX6_type 27 = .ok (.aload_n 0, 1) := by decide +kernel
theorem dX6_type_28 : decode cX6_type 28 = .ok (.getfield 7, 3) := by decide +kernel
theorem dX6_type_31 : decode cX6_type 31 = .ok (.aload_n 0, 1) := by decide +kernel
theorem dX6_type_32 : decode cX6_type 32 = .ok (.getfield 91, 3) := by decide +kernel
theorem dX6_type_35 : decode cX6_type 35 = .ok (.iload_n 1, 1) := by decide +kernel
theorem dX6_type_36 : decode cX6_type 36 = .ok (.iastore, 1) := by decide +kernel
theorem dX6_type_37 : decode cX6_type 37 = .ok (.aload_n 0, 1) := by decide +kernel
theorem dX6_type_38 : decode cX6_type 38 = .ok (.dup, 1) := by decide +kernel
theorem dX6_type_39 : decode cX6_type 39 = .ok (.getfield 91, 3) := by decide +kernel
theorem dX6_type_42 : decode cX6_type 42 = .ok (.iconst 1, 1) := by decide +kernel
theorem dX6_type_43 : decode cX6_type 43 = .ok (.iadd, 1) := by decide +kernel
theorem dX6_type_44 : decode cX6_type 44 = .ok (.putfield 91, 3) := by decide +kernel
theorem dX6_type_47 : decode cX6_type 47 = .ok (.aload_n 0, 1) := by decide +kernel
theorem dX6_type_48 : decode cX6_type 48 = .ok (.getfield 91, 3) := by decide +kernel
theorem dX6_type_51 : decode cX6_type 51 = .ok (.ireturn, 1) := by decide +kernel
theorem dX6_clear_0 : decode cX6_clear 0 = .ok (.aload_n 0, 1) := by decide +kernel
theorem dX6_clear_1 : decode cX6_clear 1 = .ok (.getfield 91, 3) := by decide +kernel
theorem dX6_clear_4 : decode cX6_clear 4 = .ok (.istore_n 1, 1) := by decide +kernel
theorem dX6_clear_5 : decode cX6_clear 5 = .ok (.aload_n 0, 1) := by decide +kernel
theorem dX6_clear_6 : decode cX6_clear 6 = .ok (.iconst 0, 1) := by decide +kernel
theorem dX6_clear_7 : decode cX6_clear 7 = .ok (.putfield 91, 3) := by decide +kernel
theorem dX6_clear_10 : decode cX6_clear 10 = .ok (.iload_n 1, 1) := by decide +kernel
theorem dX6_clear_11 : decode cX6_clear 11 = .ok (.ireturn, 1) := by decide +kernel
theorem dX6_letterAt_0 : decode cX6_letterAt 0 = .ok (.iload_n 1, 1) := by decide +kernel
theorem dX6_letterAt_1 : decode cX6_letterAt 1 = .ok (.aload_n 0, 1) := by decide +kernel
theorem dX6_letterAt_2 : decode cX6_letterAt 2 = .ok (.getfield 91, 3) := by decide +kernel
theorem dX6_letterAt_5 : decode cX6_letterAt 5 = .ok (.if_icmp .ge 12, 3) := by decide +kernel
theorem dX6_letterAt_8 : decode cX6_letterAt 8 = .ok (.aload_n 0, 1) := by decide +kernel
theorem dX6_letterAt_9 : decode cX6_letterAt 9 = .ok (.getfield 7, 3) := by decide +kernel
theorem dX6_letterAt_12 : decode cX6_letterAt 12 = .ok (.iload_n 1, 1) := by decide +kernel
theorem dX6_letterAt_13 : decode cX6_letterAt 13 = .ok (.iaload, 1) := by decide +kernel
theorem dX6_letterAt_14 : decode cX6_letterAt 14 = .ok (.goto 4, 3) := by decide +kernel
theorem dX6_letterAt_17 : decode cX6_letterAt 17 = .ok (.iconst 0, 1) := by decide +kernel
theorem dX6_letterAt_18 : decode cX6_letterAt 18 = .ok (.ireturn, 1) := by decide +kernel
theorem dX6_nextToken_0 : decode cX6_nextToken 0 = .ok (.aload_n 0, 1) := by decide +kernel
theorem dX6_nextToken_1 : decode cX6_nextToken 1 = .ok (.aload_n 0, 1) := by decide +kernel
theorem dX6_nextToken_2 : decode cX6_nextToken 2 = .ok (.getfield 94, 3) := by decide +kernel
theorem dX6_nextToken_5 : decode cX6_nextToken 5 = .ok (.invokevirtual 97, 3) := by decide +kernel
theorem dX6_nextToken_8 : decode cX6_nextToken 8 = .ok (.bipush 32, 2) := by decide +kernel
theorem dX6_nextToken_10 : decode cX6_nextToken 10 = .ok (.if_icmp .ne 16, 3) := by decide +kernel
theorem dX6_nextToken_13 : decode cX6_nextToken 13 = .ok (.aload_n 0, 1) := by decide +kernel
theorem dX6_nextToken_14 : decode cX6_nextToken 14 = .ok (.dup, 1) := by decide +kernel
theorem dX6_nextToken_15 : decode cX6_nextToken 15 = .ok (.getfield 94, 3) := by decide +kernel
theorem dX6_nextToken_18 : decode cX6_nextToken 18 = .ok (.iconst 1, 1) := by decide +kernel
theorem dX6_nextToken_19 : decode cX6_nextToken 19 = .ok (.iadd, 1) := by decide +kernel
theorem dX6_nextToken_20 : decode cX6_nextToken 20 = .ok (.putfield 94, 3) := by decide +kernel
theorem dX6_nextToken_23 : decode cX6_nextToken 23 = .ok (.goto (-23), 3) := by decide +kernel
theorem dX6_nextToken_26 : decode cX6_nextToken 26 = .ok (.aload_n 0, 1) := by decide +kernel
theorem dX6_nextToken_27 : decode cX6_nextToken 27 = .ok (.aload_n 0, 1) := by decide +kernel
theorem dX6_nextToken_28 : decode cX6_nextToken 28 = .ok (.getfield 94, 3) := by decide +kernel
theorem dX6_nextToken_31 : decode cX6_nextToken 31 = .ok (.putfield 101, 3) := by decide +kernel
theorem dX6_nextToken_34 : decode cX6_nextToken 34 = .ok (.aload_n 0, 1) := by decide +kernel
theorem dX6_nextToken_35 : decode cX6_nextToken 35 = .ok (.iconst 0, 1) := by decide +kernel
theorem dX6_nextToken_36 : decode cX6_nextToken 36 = .ok (.putfield 104, 3) := by decide +kernel
theorem dX6_nextToken_39 : decode cX6_nextToken 39 = .ok (.aload_n 0, 1) := by decide +kernel
theorem dX6_nextToken_40 : decode cX6_nextToken 40 = .ok (.getfield 94, 3) := by decide +kernel
theorem dX6_nextToken_43 : decode cX6_nextToken 43 = .ok (.aload_n 0, 1) := by decide +kernel
theorem dX6_nextToken_44 : decode cX6_nextToken 44 = .ok (.getfield 91, 3) := by decide +kernel
theorem dX6_nextToken_47 : decode cX6_nextToken 47 = .ok (.if_icmp .ne 11, 3) := by decide +kernel
theorem dX6_nextToken_50 : decode cX6_nextToken 50 = .ok (.aload_n 0, 1) := by decide +kernel
theorem dX6_nextToken_51 : decode cX6_nextToken 51 = .ok (.iconst 2, 1) := by decide +kernel
theorem dX6_nextToken_52 : decode cX6_nextToken 52 = .ok (.putfield 107, 3) := by decide +kernel
theorem dX6_nextToken_55 : decode cX6_nextToken 55 = .ok (.goto 200, 3) := by decide +kernel
theorem dX6_nextToken_58 : decode cX6_nextToken 58 = .ok (.aload_n 0, 1) := by decide +kernel
theorem dX6_nextToken_59 : decode cX6_nextToken 59 = .ok (.aload_n 0, 1) := by decide +kernel
theorem dX6_nextToken_60 : decode cX6_nextToken 60 = .ok (.getfield 94, 3) := by decide +kernel
theorem dX6_nextToken_63 : decode cX6_nextToken 63 = .ok (.invokevirtual 97, 3) := by decide +kernel
theorem dX6_nextToken_66 : decode cX6_nextToken 66 = .ok (.i2l, 1) := by decide +kernel
theorem dX6_nextToken_67 : decode cX6_nextToken 67 = .ok (.ldc2_w 110, 3) := by decide +kernel
theorem dX6_nextToken_70 : decode cX6_nextToken 70 = .ok (.ldc2_w 112, 3) := by decide +kernel
theorem dX6_nextToken_73 : decode cX6_nextToken 73 = .ok (.invokestatic 82, 3) := by decide +kernel
theorem dX6_nextToken_76 : decode cX6_nextToken 76 = .ok (.ifCond .eq 151, 3) := by decide +kernel
theorem dX6_nextToken_79 : decode cX6_nextToken 79 = .ok (.aload_n 0, 1) := by decide +kernel
theorem dX6_nextToken_80 : decode cX6_nextToken 80 = .ok (.aload_n 0, 1) := by decide +kernel
theorem dX6_nextToken_81 : decode cX6_nextToken 81 = .ok (.getfield 94, 3) := by decide +kernel
theorem dX6_nextToken_84 : decode cX6_nextToken 84 = .ok (.invokevirtual 97, 3) := by decide +kernel
theorem dX6_nextToken_87 : decode cX6_nextToken 87 = .ok (.i2l, 1) := by decide +kernel
theorem dX6_nextToken_88 : decode cX6_nextToken 88 = .ok (.ldc2_w 110, 3) := by decide +kernel
theorem dX6_nextToken_91 : decode cX6_nextToken 91 = .ok (.ldc2_w 112, 3) := by decide +kernel
theorem dX6_nextToken_94 : decode cX6_nextToken 94 = .ok (.invokestatic 82, 3) := by decide +kernel
theorem dX6_nextToken_97 : decode cX6_nextToken 97 = .ok (.ifCond .eq 56, 3) := by decide +kernel
theorem dX6_nextToken_100 : decode cX6_nextToken 100 = .ok (.aload_n 0, 1) := by decide +kernel
theorem dX6_nextToken_101 : decode cX6_nextToken 101 = .ok (.aload_n 0, 1) := by decide +kernel
theorem dX6_nextToken_102 : decode cX6_nextToken 102 = .ok (.getfield 104, 3) := by decide +kernel
theorem dX6_nextToken_105 : decode cX6_nextToken 105 = .ok (.bipush 99, 2) := by decide +kernel
theorem dX6_nextToken_107 : decode cX6_nextToken 107 = .ok (.if_icmp .le 10, 3) := by decide +kernel
theorem dX6_nextToken_110 : decode cX6_nextToken 110 = .ok (.aload_n 0, 1) := by decide +kernel
theorem dX6_nextToken_111 : decode cX6_nextToken 111 = .ok (.getfield 104, 3) := by decide +kernel
theorem dX6_nextToken_114 : decode cX6_nextToken 114 = .ok (.goto 23, 3) := by decide +kernel
theorem dX6_nextToken_117 : decode cX6_nextToken 117 = .ok (.bipush 10, 2) := by decide +kernel
theorem dX6_nextToken_119 : decode cX6_nextToken 119 = .ok (.aload_n 0, 1) := by decide +kernel
theorem dX6_nextToken_120 : decode cX6_nextToken 120 = .ok (.getfield 104, 3) := by decide +kernel
theorem dX6_nextToken_123 : decode cX6_nextToken 123 = .ok (.imul, 1) := by decide +kernel
theorem dX6_nextToken_124 : decode cX6_nextToken 124 = .ok (.aload_n 0, 1) := by decide +kernel
theorem dX6_nextToken_125 : decode cX6_nextToken 125 = .ok (.getfield 7, 3) := by decide +kernel
theorem dX6_nextToken_128 : decode cX6_nextToken 128 = .ok (.aload_n 0, 1) := by decide +kernel
theorem dX6_nextToken_129 : decode cX6_nextToken 129 = .ok (.getfield 94, 3) := by decide +kernel
theorem dX6_nextToken_132 : decode cX6_nextToken 132 = .ok (.iaload, 1) := by decide +kernel
theorem dX6_nextToken_133 : decode cX6_nextToken 133 = .ok (.iadd, 1) := by decide +kernel
theorem dX6_nextToken_134 : decode cX6_nextToken 134 = .ok (.bipush 48, 2) := by decide +kernel
theorem dX6_nextToken_136 : decode cX6_nextToken 136 = .ok (.isub, 1) := by decide +kernel
theorem dX6_nextToken_137 : decode cX6_nextToken 137 = .ok (.putfield 104, 3) := by decide +kernel
theorem dX6_nextToken_140 : decode cX6_nextToken 140 = .ok (.aload_n 0, 1) := by decide +kernel
theorem dX6_nextToken_141 : decode cX6_nextToken 141 = .ok (.dup, 1) := by decide +kernel
theorem dX6_nextToken_142 : decode cX6_nextToken 142 = .ok (.getfield 94, 3) := by decide +kernel
theorem dX6_nextToken_145 : decode cX6_nextToken 145 = .ok (.iconst 1, 1) := by decide +kernel
theorem dX6_nextToken_146 : decode cX6_nextToken 146 = .ok (.iadd, 1) := by decide +kernel
theorem dX6_nextToken_147 : decode cX6_nextToken 147 = .ok (.putfield 94, 3) := by decide +kernel
theorem dX6_nextToken_150 : decode cX6_nextToken 150 = .ok (.goto (-71), 3) := by decide +kernel
theorem dX6_nextToken_153 : decode cX6_nextToken 153 = .ok (.aload_n 0, 1) := by decide +kernel
theorem dX6_nextToken_154 : decode cX6_nextToken 154 = .ok (.getfield 94, 3) := by decide +kernel
theorem dX6_nextToken_157 : decode cX6_nextToken 157 = .ok (.aload_n 0, 1) := by decide +kernel
theorem dX6_nextToken_158 : decode cX6_nextToken 158 = .ok (.getfield 101, 3) := by decide +kernel
theorem dX6_nextToken_161 : decode cX6_nextToken 161 = .ok (.isub, 1) := by decide +kernel
theorem dX6_nextToken_162 : decode cX6_nextToken 162 = .ok (.iconst 1, 1) := by decide +kernel
theorem dX6_nextToken_163 : decode cX6_nextToken 163 = .ok (.if_icmp .eq 26, 3) := by decide +kernel
theorem dX6_nextToken_166 : decode cX6_nextToken 166 = .ok (.aload_n 0, 1) := by decide +kernel
theorem dX6_nextToken_167 : decode cX6_nextToken 167 = .ok (.getfield 7, 3) := by decide +kernel
theorem dX6_nextToken_170 : decode cX6_nextToken 170 = .ok (.aload_n 0, 1) := by decide +kernel
theorem dX6_nextToken_171 : decode cX6_nextToken 171 = .ok (.getfield 101, 3) := by decide +kernel
theorem dX6_nextToken_174 : decode cX6_nextToken 174 = .ok (.iaload, 1) := by decide +kernel
theorem dX6_nextToken_175 : decode cX6_nextToken 175 = .ok (.bipush 48, 2) := by decide +kernel
theorem dX6_nextToken_177 : decode cX6_nextToken 177 = .ok (.if_icmp .eq 16, 3) := by decide +kernel
theorem dX6_nextToken_180 : decode cX6_nextToken 180 = .ok (.aload_n 0, 1) := by decide +kernel
theorem dX6_nextToken_181 : decode cX6_nextToken 181 = .ok (.getfield 104, 3) := by decide +kernel
theorem dX6_nextToken_184 : decode cX6_nextToken 184 = .ok (.bipush 100, 2) := by decide +kernel
theorem dX6_nextToken_186 : decode cX6_nextToken 186 = .ok (.if_icmp .ge 7, 3) := by decide +kernel
theorem dX6_nextToken_189 : decode cX6_nextToken 189 = .ok (.iconst 1, 1) := by decide +kernel
theorem dX6_nextToken_190 : decode cX6_nextToken 190 = .ok (.goto 4, 3) := by decide +kernel
theorem dX6_nextToken_193 : decode cX6_nextToken 193 = .ok (.iconst 0, 1) := by decide +kernel
theorem dX6_nextToken_194 : decode cX6_nextToken 194 = .ok (.istore_n 1, 1) := by decide +kernel
theorem dX6_nextToken_195 : decode cX6_nextToken 195 = .ok (.aload_n 0, 1) := by decide +kernel
theorem dX6_nextToken_196 : decode cX6_nextToken 196 = .ok (.iload_n 1, 1) := by decide +kernel
theorem dX6_nextToken_197 : decode cX6_nextToken 197 = .ok (.ifCond .eq 7, 3) := by decide +kernel
theorem dX6_nextToken_200 : decode cX6_nextToken 200 = .ok (.iconst 1, 1) := by decide +kernel
theorem dX6_nextToken_201 : decode cX6_nextToken 201 = .ok (.goto 4, 3) := by decide +kernel
theorem dX6_nextToken_204 : decode cX6_nextToken 204 = .ok (.iconst 0, 1) := by decide +kernel
theorem dX6_nextToken_205 : decode cX6_nextToken 205 = .ok (.putfield 107, 3) := by decide +kernel
theorem dX6_nextToken_208 : decode cX6_nextToken 208 = .ok (.aload_n 0, 1) := by decide +kernel
theorem dX6_nextToken_209 : decode cX6_nextToken 209 = .ok (.iload_n 1, 1) := by decide +kernel
theorem dX6_nextToken_210 : decode cX6_nextToken 210 = .ok (.ifCond .eq 10, 3) := by decide +kernel
theorem dX6_nextToken_213 : decode cX6_nextToken 213 = .ok (.aload_n 0, 1) := by decide +kernel
theorem dX6_nextToken_214 : decode cX6_nextToken 214 = .ok (.getfield 104, 3) := by decide +kernel
theorem dX6_nextToken_217 : decode cX6_nextToken 217 = .ok (.goto 4, 3) := by decide +kernel
theorem dX6_nextToken_220 : decode cX6_nextToken 220 = .ok (.iconst 0, 1) := by decide +kernel
theorem dX6_nextToken_221 : decode cX6_nextToken 221 = .ok (.putfield 104, 3) := by decide +kernel
theorem dX6_nextToken_224 : decode cX6_nextToken 224 = .ok (.goto 31, 3) := by decide +kernel
theorem dX6_nextToken_227 : decode cX6_nextToken 227 = .ok (.aload_n 0, 1) := by decide +kernel
theorem dX6_nextToken_228 : decode cX6_nextToken 228 = .ok (.iconst 0, 1) := by decide +kernel
theorem dX6_nextToken_229 : decode cX6_nextToken 229 = .ok (.putfield 107, 3) := by decide +kernel
theorem dX6_nextToken_232 : decode cX6_nextToken 232 = .ok (.aload_n 0, 1) := by decide +kernel
theorem dX6_nextToken_233 : decode cX6_nextToken 233 = .ok (.aload_n 0, 1) := by decide +kernel
theorem dX6_nextToken_234 : decode cX6_nextToken 234 = .ok (.getfield 7, 3) := by decide +kernel
theorem dX6_nextToken_237 : decode cX6_nextToken 237 = .ok (.aload_n 0, 1) := by decide +kernel
theorem dX6_nextToken_238 : decode cX6_nextToken 238 = .ok (.getfield 94, 3) := by decide +kernel
theorem dX6_nextToken_241 : decode cX6_nextToken 241 = .ok (.iaload, 1) := by decide +kernel
theorem dX6_nextToken_242 : decode cX6_nextToken 242 = .ok (.putfield 104, 3) := by decide +kernel
theorem dX6_nextToken_245 : decode cX6_nextToken 245 = .ok (.aload_n 0, 1) := by decide +kernel
theorem dX6_nextToken_246 : decode cX6_nextToken 246 = .ok (.dup, 1) := by decide +kernel
theorem dX6_nextToken_247 : decode cX6_nextToken 247 = .ok (.getfield 94, 3) := by decide +kernel
theorem dX6_nextToken_250 : decode cX6_nextToken 250 = .ok (.iconst 1, 1) := by decide +kernel
theorem dX6_nextToken_251 : decode cX6_nextToken 251 = .ok (.iadd, 1) := by decide +kernel
theorem dX6_nextToken_252 : decode cX6_nextToken 252 = .ok (.putfield 94, 3) := by decide +kernel
theorem dX6_nextToken_255 : decode cX6_nextToken 255 = .ok (.return_, 1) := by decide +kernel
theorem dX6_takes_0 : decode cX6_takes 0 = .ok (.aload_n 0, 1) := by decide +kernel
theorem dX6_takes_1 : decode cX6_takes 1 = .ok (.invokevirtual 114, 3) := by decide +kernel
theorem dX6_takes_4 : decode cX6_takes 4 = .ok (.aload_n 0, 1) := by decide +kernel
theorem dX6_takes_5 : decode cX6_takes 5 = .ok (.getfield 50, 3) := by decide +kernel
theorem dX6_takes_8 : decode cX6_takes 8 = .ok (.iload_n 1, 1) := by decide +kernel
theorem dX6_takes_9 : decode cX6_takes 9 = .ok (.aload_n 0, 1) := by decide +kernel
theorem dX6_takes_10 : decode cX6_takes 10 = .ok (.getfield 104, 3) := by decide +kernel
theorem dX6_takes_13 : decode cX6_takes 13 = .ok (.iastore, 1) := by decide +kernel
theorem dX6_takes_14 : decode cX6_takes 14 = .ok (.aload_n 0, 1) := by decide +kernel
theorem dX6_takes_15 : decode cX6_takes 15 = .ok (.getfield 107, 3) := by decide +kernel
theorem dX6_takes_18 : decode cX6_takes 18 = .ok (.iconst 1, 1) := by decide +kernel
theorem dX6_takes_19 : decode cX6_takes 19 = .ok (.if_icmp .ne 22, 3) := by decide +kernel
theorem dX6_takes_22 : decode cX6_takes 22 = .ok (.aload_n 0, 1) := by decide +kernel
theorem dX6_takes_23 : decode cX6_takes 23 = .ok (.getfield 104, 3) := by decide +kernel
theorem dX6_takes_26 : decode cX6_takes 26 = .ok (.i2l, 1) := by decide +kernel
theorem dX6_takes_27 : decode cX6_takes 27 = .ok (.iload_n 2, 1) := by decide +kernel
theorem dX6_takes_28 : decode cX6_takes 28 = .ok (.i2l, 1) := by decide +kernel
theorem dX6_takes_29 : decode cX6_takes 29 = .ok (.iload_n 3, 1) := by decide +kernel
theorem dX6_takes_30 : decode cX6_takes 30 = .ok (.i2l, 1) := by decide +kernel
theorem dX6_takes_31 : decode cX6_takes 31 = .ok (.invokestatic 82, 3) := by decide +kernel
theorem dX6_takes_34 : decode cX6_takes 34 = .ok (.ifCond .eq 7, 3) := by decide +kernel
theorem dX6_takes_37 : decode cX6_takes 37 = .ok (.iconst 1, 1) := by decide +kernel
theorem dX6_takes_38 : decode cX6_takes 38 = .ok (.goto 4, 3) := by decide +kernel
theorem dX6_takes_41 : decode cX6_takes 41 = .ok (.iconst 0, 1) := by decide +kernel
theorem dX6_takes_42 : decode cX6_takes 42 = .ok (.ireturn, 1) := by decide +kernel
theorem dX6_takesTwo_0 : decode cX6_takesTwo 0 = .ok (.aload_n 0, 1) := by decide +kernel
theorem dX6_takesTwo_1 : decode cX6_takesTwo 1 = .ok (.iconst 0, 1) := by decide +kernel
theorem dX6_takesTwo_2 : decode cX6_takesTwo 2 = .ok (.iconst 0, 1) := by decide +kernel
theorem dX6_takesTwo_3 : decode cX6_takesTwo 3 = .ok (.aload_n 0, 1) := by decide +kernel
theorem dX6_takesTwo_4 : decode cX6_takesTwo 4 = .ok (.getfield 117, 3) := by decide +kernel
theorem dX6_takesTwo_7 : decode cX6_takesTwo 7 = .ok (.iconst 1, 1) := by decide +kernel
theorem dX6_takesTwo_8 : decode cX6_takesTwo 8 = .ok (.isub, 1) := by decide +kernel
theorem dX6_takesTwo_9 : decode cX6_takesTwo 9 = .ok (.invokevirtual 120, 3) := by decide +kernel
theorem dX6_takesTwo_12 : decode cX6_takesTwo 12 = .ok (.ifCond .eq 37, 3) := by decide +kernel
theorem dX6_takesTwo_15 : decode cX6_takesTwo 15 = .ok (.aload_n 0, 1) := by decide +kernel
theorem dX6_takesTwo_16 : decode cX6_takesTwo 16 = .ok (.iconst 1, 1) := by decide +kernel
theorem dX6_takesTwo_17 : decode cX6_takesTwo 17 = .ok (.iconst 0, 1) := by decide +kernel
theorem dX6_takesTwo_18 : decode cX6_takesTwo 18 = .ok (.aload_n 0, 1) := by decide +kernel
theorem dX6_takesTwo_19 : decode cX6_takesTwo 19 = .ok (.getfield 117, 3) := by decide +kernel
theorem dX6_takesTwo_22 : decode cX6_takesTwo 22 = .ok (.iconst 1, 1) := by decide +kernel
theorem dX6_takesTwo_23 : decode cX6_takesTwo 23 = .ok (.isub, 1) := by decide +kernel
theorem dX6_takesTwo_24 : decode cX6_takesTwo 24 = .ok (.invokevirtual 120, 3) := by decide +kernel
theorem dX6_takesTwo_27 : decode cX6_takesTwo 27 = .ok (.ifCond .eq 22, 3) := by decide +kernel
theorem dX6_takesTwo_30 : decode cX6_takesTwo 30 = .ok (.aload_n 0, 1) := by decide +kernel
theorem dX6_takesTwo_31 : decode cX6_takesTwo 31 = .ok (.getfield 50, 3) := by decide +kernel
theorem dX6_takesTwo_34 : decode cX6_takesTwo 34 = .ok (.iconst 0, 1) := by decide +kernel
theorem dX6_takesTwo_35 : decode cX6_takesTwo 35 = .ok (.iaload, 1) := by decide +kernel
theorem dX6_takesTwo_36 : decode cX6_takesTwo 36 = .ok (.aload_n 0, 1) := by decide +kernel
theorem dX6_takesTwo_37 : decode cX6_takesTwo 37 = .ok (.getfield 50, 3) := by decide +kernel
theorem dX6_takesTwo_40 : decode cX6_takesTwo 40 = .ok (.iconst 1, 1) := by decide +kernel
theorem dX6_takesTwo_41 : decode cX6_takesTwo 41 = .ok (.iaload, 1) := by decide +kernel
theorem dX6_takesTwo_42 : decode cX6_takesTwo 42 = .ok (.if_icmp .eq 7, 3) := by decide +kernel
theorem dX6_takesTwo_45 : decode cX6_takesTwo 45 = .ok (.iconst 1, 1) := by decide +kernel
theorem dX6_takesTwo_46 : decode cX6_takesTwo 46 = .ok (.goto 4, 3) := by decide +kernel
theorem dX6_takesTwo_49 : decode cX6_takesTwo 49 = .ok (.iconst 0, 1) := by decide +kernel
theorem dX6_takesTwo_50 : decode cX6_takesTwo 50 = .ok (.ireturn, 1) := by decide +kernel
theorem dX6_readPocket_0 : decode cX6_readPocket 0 = .ok (.aload_n 0, 1) := by decide +kernel
theorem dX6_readPocket_1 : decode cX6_readPocket 1 = .ok (.getfield 117, 3) := by decide +kernel
theorem dX6_readPocket_4 : decode cX6_readPocket 4 = .ok (.bipush 6, 2) := by decide +kernel
theorem dX6_readPocket_6 : decode cX6_readPocket 6 = .ok (.if_icmp .eq 36, 3) := by decide +kernel
theorem dX6_readPocket_9 : decode cX6_readPocket 9 = .ok (.aload_n 0, 1) := by decide +kernel
theorem dX6_readPocket_10 : decode cX6_readPocket 10 = .ok (.iconst 0, 1) := by decide +kernel
theorem dX6_readPocket_11 : decode cX6_readPocket 11 = .ok (.iconst 1, 1) := by decide +kernel
theorem dX6_readPocket_12 : decode cX6_readPocket 12 = .ok (.bipush 20, 2) := by decide +kernel
theorem dX6_readPocket_14 : decode cX6_readPocket 14 = .ok (.invokevirtual 120, 3) := by decide +kernel
theorem dX6_readPocket_17 : decode cX6_readPocket 17 = .ok (.ifCond .eq 25, 3) := by decide +kernel
theorem dX6_readPocket_20 : decode cX6_readPocket 20 = .ok (.aload_n 0, 1) := by decide +kernel
theorem dX6_readPocket_21 : decode cX6_readPocket 21 = .ok (.iconst 1, 1) := by decide +kernel
theorem dX6_readPocket_22 : decode cX6_readPocket 22 = .ok (.iconst 0, 1) := by decide +kernel
theorem dX6_readPocket_23 : decode cX6_readPocket 23 = .ok (.bipush 63, 2) := by decide +kernel
theorem dX6_readPocket_25 : decode cX6_readPocket 25 = .ok (.invokevirtual 120, 3) := by decide +kernel
theorem dX6_readPocket_28 : decode cX6_readPocket 28 = .ok (.ifCond .eq 14, 3) := by decide +kernel
theorem dX6_readPocket_31 : decode cX6_readPocket 31 = .ok (.aload_n 0, 1) := by decide +kernel
theorem dX6_readPocket_32 : decode cX6_readPocket 32 = .ok (.iconst 2, 1) := by decide +kernel
theorem dX6_readPocket_33 : decode cX6_readPocket 33 = .ok (.iconst 0, 1) := by decide +kernel
theorem dX6_readPocket_34 : decode cX6_readPocket 34 = .ok (.bipush 9, 2) := by decide +kernel
theorem dX6_readPocket_36 : decode cX6_readPocket 36 = .ok (.invokevirtual 120, 3) := by decide +kernel
theorem dX6_readPocket_39 : decode cX6_readPocket 39 = .ok (.ifCond .ne 5, 3) := by decide +kernel
theorem dX6_readPocket_42 : decode cX6_readPocket 42 = .ok (.iconst 0, 1) := by decide +kernel
theorem dX6_readPocket_43 : decode cX6_readPocket 43 = .ok (.ireturn, 1) := by decide +kernel
theorem dX6_readPocket_44 : decode cX6_readPocket 44 = .ok (.aload_n 0, 1) := by decide +kernel
theorem dX6_readPocket_45 : decode cX6_readPocket 45 = .ok (.invokevirtual 114, 3) := by decide +kernel
theorem dX6_readPocket_48 : decode cX6_readPocket 48 = .ok (.aload_n 0, 1) := by decide +kernel
theorem dX6_readPocket_49 : decode cX6_readPocket 49 = .ok (.getfield 107, 3) := by decide +kernel
theorem dX6_readPocket_52 : decode cX6_readPocket 52 = .ok (.iconst 1, 1) := by decide +kernel
theorem dX6_readPocket_53 : decode cX6_readPocket 53 = .ok (.if_icmp .ne 23, 3) := by decide +kernel
theorem dX6_readPocket_56 : decode cX6_readPocket 56 = .ok (.aload_n 0, 1) := by decide +kernel
theorem dX6_readPocket_57 : decode cX6_readPocket 57 = .ok (.getfield 104, 3) := by decide +kernel
theorem dX6_readPocket_60 : decode cX6_readPocket 60 = .ok (.bipush 9, 2) := by decide +kernel
theorem dX6_readPocket_62 : decode cX6_readPocket 62 = .ok (.if_icmp .eq 16, 3) := by decide +kernel
theorem dX6_readPocket_65 : decode cX6_readPocket 65 = .ok (.aload_n 0, 1) := by decide +kernel
theorem dX6_readPocket_66 : decode cX6_readPocket 66 = .ok (.getfield 104, 3) := by decide +kernel
theorem dX6_readPocket_69 : decode cX6_readPocket 69 = .ok (.aload_n 0, 1) := by decide +kernel
theorem dX6_readPocket_70 : decode cX6_readPocket 70 = .ok (.getfield 117, 3) := by decide +kernel
theorem dX6_readPocket_73 : decode cX6_readPocket 73 = .ok (.if_icmp .lt 5, 3) := by decide +kernel
theorem dX6_readPocket_76 : decode cX6_readPocket 76 = .ok (.iconst 0, 1) := by decide +kernel
theorem dX6_readPocket_77 : decode cX6_readPocket 77 = .ok (.ireturn, 1) := by decide +kernel
theorem dX6_readPocket_78 : decode cX6_readPocket 78 = .ok (.bipush 8, 2) := by decide +kernel
theorem dX6_readPocket_80 : decode cX6_readPocket 80 = .ok (.aload_n 0, 1) := by decide +kernel
theorem dX6_readPocket_81 : decode cX6_readPocket 81 = .ok (.getfield 117, 3) := by decide +kernel
theorem dX6_readPocket_84 : decode cX6_readPocket 84 = .ok (.imul, 1) := by decide +kernel
theorem dX6_readPocket_85 : decode cX6_readPocket 85 = .ok (.istore_n 1, 1) := by decide +kernel
theorem dX6_readPocket_86 : decode cX6_readPocket 86 = .ok (.aload_n 0, 1) := by decide +kernel
theorem dX6_readPocket_87 : decode cX6_readPocket 87 = .ok (.getfield 38, 3) := by decide +kernel
theorem dX6_readPocket_90 : decode cX6_readPocket 90 = .ok (.iload_n 1, 1) := by decide +kernel
theorem dX6_readPocket_91 : decode cX6_readPocket 91 = .ok (.aload_n 0, 1) := by decide +kernel
theorem dX6_readPocket_92 : decode cX6_readPocket 92 = .ok (.getfield 50, 3) := by decide +kernel
theorem dX6_readPocket_95 : decode cX6_readPocket 95 = .ok (.iconst 0, 1) := by decide +kernel
theorem dX6_readPocket_96 : decode cX6_readPocket 96 = .ok (.iaload, 1) := by decide +kernel
theorem dX6_readPocket_97 : decode cX6_readPocket 97 = .ok (.iastore, 1) := by decide +kernel
theorem dX6_readPocket_98 : decode cX6_readPocket 98 = .ok (.aload_n 0, 1) := by decide +kernel
theorem dX6_readPocket_99 : decode cX6_readPocket 99 = .ok (.getfield 38, 3) := by decide +kernel
theorem dX6_readPocket_102 : decode cX6_readPocket 102 = .ok (.iload_n 1, 1) := by decide +kernel
theorem dX6_readPocket_103 : decode cX6_readPocket 103 = .ok (.iconst 1, 1) := by decide +kernel
theorem dX6_readPocket_104 : decode cX6_readPocket 104 = .ok (.iadd, 1) := by decide +kernel
theorem dX6_readPocket_105 : decode cX6_readPocket 105 = .ok (.aload_n 0, 1) := by decide +kernel
theorem dX6_readPocket_106 : decode cX6_readPocket 106 = .ok (.getfield 50, 3) := by decide +kernel
theorem dX6_readPocket_109 : decode cX6_readPocket 109 = .ok (.iconst 1, 1) := by decide +kernel
theorem dX6_readPocket_110 : decode cX6_readPocket 110 = .ok (.iaload, 1) := by decide +kernel
theorem dX6_readPocket_111 : decode cX6_readPocket 111 = .ok (.iastore, 1) := by decide +kernel
theorem dX6_readPocket_112 : decode cX6_readPocket 112 = .ok (.aload_n 0, 1) := by decide +kernel
theorem dX6_readPocket_113 : decode cX6_readPocket 113 = .ok (.getfield 38, 3) := by decide +kernel
theorem dX6_readPocket_116 : decode cX6_readPocket 116 = .ok (.iload_n 1, 1) := by decide +kernel
theorem dX6_readPocket_117 : decode cX6_readPocket 117 = .ok (.iconst 2, 1) := by decide +kernel
theorem dX6_readPocket_118 : decode cX6_readPocket 118 = .ok (.iadd, 1) := by decide +kernel
theorem dX6_readPocket_119 : decode cX6_readPocket 119 = .ok (.aload_n 0, 1) := by decide +kernel
theorem dX6_readPocket_120 : decode cX6_readPocket 120 = .ok (.getfield 50, 3) := by decide +kernel
theorem dX6_readPocket_123 : decode cX6_readPocket 123 = .ok (.iconst 2, 1) := by decide +kernel
theorem dX6_readPocket_124 : decode cX6_readPocket 124 = .ok (.iaload, 1) := by decide +kernel
theorem dX6_readPocket_125 : decode cX6_readPocket 125 = .ok (.iastore, 1) := by decide +kernel
theorem dX6_readPocket_126 : decode cX6_readPocket 126 = .ok (.aload_n 0, 1) := by decide +kernel
theorem dX6_readPocket_127 : decode cX6_readPocket 127 = .ok (.getfield 38, 3) := by decide +kernel
theorem dX6_readPocket_130 : decode cX6_readPocket 130 = .ok (.iload_n 1, 1) := by decide +kernel
theorem dX6_readPocket_131 : decode cX6_readPocket 131 = .ok (.iconst 3, 1) := by decide +kernel
theorem dX6_readPocket_132 : decode cX6_readPocket 132 = .ok (.iadd, 1) := by decide +kernel
theorem dX6_readPocket_133 : decode cX6_readPocket 133 = .ok (.aload_n 0, 1) := by decide +kernel
theorem dX6_readPocket_134 : decode cX6_readPocket 134 = .ok (.getfield 104, 3) := by decide +kernel
theorem dX6_readPocket_137 : decode cX6_readPocket 137 = .ok (.iastore, 1) := by decide +kernel
theorem dX6_readPocket_138 : decode cX6_readPocket 138 = .ok (.aload_n 0, 1) := by decide +kernel
theorem dX6_readPocket_139 : decode cX6_readPocket 139 = .ok (.getfield 38, 3) := by decide +kernel
theorem dX6_readPocket_142 : decode cX6_readPocket 142 = .ok (.iload_n 1, 1) := by decide +kernel
theorem dX6_readPocket_143 : decode cX6_readPocket 143 = .ok (.iconst 4, 1) := by decide +kernel
theorem dX6_readPocket_144 : decode cX6_readPocket 144 = .ok (.iadd, 1) := by decide +kernel
theorem dX6_readPocket_145 : decode cX6_readPocket 145 = .ok (.iconst 0, 1) := by decide +kernel
theorem dX6_readPocket_146 : decode cX6_readPocket 146 = .ok (.iastore, 1) := by decide +kernel
theorem dX6_readPocket_147 : decode cX6_readPocket 147 = .ok (.aload_n 0, 1) := by decide +kernel
theorem dX6_readPocket_148 : decode cX6_readPocket 148 = .ok (.getfield 38, 3) := by decide +kernel
theorem dX6_readPocket_151 : decode cX6_readPocket 151 = .ok (.iload_n 1, 1) := by decide +kernel
theorem dX6_readPocket_152 : decode cX6_readPocket 152 = .ok (.bipush 6, 2) := by decide +kernel
theorem dX6_readPocket_154 : decode cX6_readPocket 154 = .ok (.iadd, 1) := by decide +kernel
theorem dX6_readPocket_155 : decode cX6_readPocket 155 = .ok (.bipush (-9), 2) := by decide +kernel
theorem dX6_readPocket_157 : decode cX6_readPocket 157 = .ok (.iastore, 1) := by decide +kernel
theorem dX6_readPocket_158 : decode cX6_readPocket 158 = .ok (.aload_n 0, 1) := by decide +kernel
theorem dX6_readPocket_159 : decode cX6_readPocket 159 = .ok (.dup, 1) := by decide +kernel
theorem dX6_readPocket_160 : decode cX6_readPocket 160 = .ok (.getfield 117, 3) := by decide +kernel
theorem dX6_readPocket_163 : decode cX6_readPocket 163 = .ok (.iconst 1, 1) := by decide +kernel
theorem dX6_readPocket_164 : decode cX6_readPocket 164 = .ok (.iadd, 1) := by decide +kernel
theorem dX6_readPocket_165 : decode cX6_readPocket 165 = .ok (.putfield 117, 3) := by decide +kernel
theorem dX6_readPocket_168 : decode cX6_readPocket 168 = .ok (.iconst 1, 1) := by decide +kernel
theorem dX6_readPocket_169 : decode cX6_readPocket 169 = .ok (.ireturn, 1) := by decide +kernel
theorem dX6_readThing_0 : decode cX6_readThing 0 = .ok (.aload_n 0, 1) := by decide +kernel
theorem dX6_readThing_1 : decode cX6_readThing 1 = .ok (.getfield 124, 3) := by decide +kernel
theorem dX6_readThing_4 : decode cX6_readThing 4 = .ok (.bipush 6, 2) := by decide +kernel
theorem dX6_readThing_6 : decode cX6_readThing 6 = .ok (.if_icmp .eq 49, 3) := by decide +kernel
theorem dX6_readThing_9 : decode cX6_readThing 9 = .ok (.aload_n 0, 1) := by decide +kernel
theorem dX6_readThing_10 : decode cX6_readThing 10 = .ok (.iconst 0, 1) := by decide +kernel
theorem dX6_readThing_11 : decode cX6_readThing 11 = .ok (.iconst 0, 1) := by decide +kernel
theorem dX6_readThing_12 : decode cX6_readThing 12 = .ok (.iconst 5, 1) := by decide +kernel
theorem dX6_readThing_13 : decode cX6_readThing 13 = .ok (.invokevirtual 120, 3) := by decide +kernel
theorem dX6_readThing_16 : decode cX6_readThing 16 = .ok (.ifCond .eq 39, 3) := by decide +kernel
theorem dX6_readThing_19 : decode cX6_readThing 19 = .ok (.aload_n 0, 1) := by decide +kernel
theorem dX6_readThing_20 : decode cX6_readThing 20 = .ok (.iconst 1, 1) := by decide +kernel
theorem dX6_readThing_21 : decode cX6_readThing 21 = .ok (.iconst 1, 1) := by decide +kernel
theorem dX6_readThing_22 : decode cX6_readThing 22 = .ok (.iconst 5, 1) := by decide +kernel
theorem dX6_readThing_23 : decode cX6_readThing 23 = .ok (.invokevirtual 120, 3) := by decide +kernel
theorem dX6_readThing_26 : decode cX6_readThing 26 = .ok (.ifCond .eq 29, 3) := by decide +kernel
theorem dX6_readThing_29 : decode cX6_readThing 29 = .ok (.aload_n 0, 1) := by decide +kernel
theorem dX6_readThing_30 : decode cX6_readThing 30 = .ok (.iconst 2, 1) := by decide +kernel
theorem dX6_readThing_31 : decode cX6_readThing 31 = .ok (.iconst 0, 1) := by decide +kernel
theorem dX6_readThing_32 : decode cX6_readThing 32 = .ok (.bipush 9, 2) := by decide +kernel
