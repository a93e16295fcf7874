theorem dX0_init_0 : decode cX0_init 0 = .ok (.aload_n 0, 1) := by decide +kernel
theorem dX0_init_1 : decode cX0_init 1 = .ok (.invokespecial 3, 3) := by decide +kernel
theorem dX0_init_4 : decode cX0_init 4 = .ok (.aload_n 0, 1) := by decide +kernel
theorem dX0_init_5 : decode cX0_init 5 = .ok (.bipush 6, 2) := by decide +kernel
theorem dX0_init_7 : decode cX0_init 7 = .ok (.newarray .int, 2) := by decide +kernel
theorem dX0_init_9 : decode cX0_init 9 = .ok (.putfield 9, 3) := by decide +kernel
theorem dX0_init_12 : decode cX0_init 12 = .ok (.return_, 1) := by decide +kernel
theorem dX0_become_0 : decode cX0_become 0 = .ok (.aload_n 1, 1) := by decide +kernel
theorem dX0_become_1 : decode cX0_become 1 = .ok (.getfield 9, 3) := by decide +kernel
theorem dX0_become_4 : decode cX0_become 4 = .ok (.iconst 0, 1) := by decide +kernel
theorem dX0_become_5 : decode cX0_become 5 = .ok (.aload_n 0, 1) := by decide +kernel
theorem dX0_become_6 : decode cX0_become 6 = .ok (.getfield 9, 3) := by decide +kernel
theorem dX0_become_9 : decode cX0_become 9 = .ok (.iconst 0, 1) := by decide +kernel
theorem dX0_become_10 : decode cX0_become 10 = .ok (.bipush 6, 2) := by decide +kernel
theorem dX0_become_12 : decode cX0_become 12 = .ok (.invokestatic 15, 3) := by decide +kernel
theorem dX0_become_15 : decode cX0_become 15 = .ok (.aload_n 0, 1) := by decide +kernel
theorem dX0_become_16 : decode cX0_become 16 = .ok (.aload_n 1, 1) := by decide +kernel
theorem dX0_become_17 : decode cX0_become 17 = .ok (.getfield 21, 3) := by decide +kernel
theorem dX0_become_20 : decode cX0_become 20 = .ok (.putfield 21, 3) := by decide +kernel
theorem dX0_become_23 : decode cX0_become 23 = .ok (.aload_n 0, 1) := by decide +kernel
theorem dX0_become_24 : decode cX0_become 24 = .ok (.aload_n 1, 1) := by decide +kernel
theorem dX0_become_25 : decode cX0_become 25 = .ok (.getfield 25, 3) := by decide +kernel
theorem dX0_become_28 : decode cX0_become 28 = .ok (.putfield 25, 3) := by decide +kernel
theorem dX0_become_31 : decode cX0_become 31 = .ok (.return_, 1) := by decide +kernel
theorem dX0_begin_0 : decode cX0_begin 0 = .ok (.aload_n 1, 1) := by decide +kernel
theorem dX0_begin_1 : decode cX0_begin 1 = .ok (.getfield 28, 3) := by decide +kernel
theorem dX0_begin_4 : decode cX0_begin 4 = .ok (.iconst 0, 1) := by decide +kernel
theorem dX0_begin_5 : decode cX0_begin 5 = .ok (.aload_n 0, 1) := by decide +kernel
theorem dX0_begin_6 : decode cX0_begin 6 = .ok (.getfield 9, 3) := by decide +kernel
theorem dX0_begin_9 : decode cX0_begin 9 = .ok (.iconst 0, 1) := by decide +kernel
theorem dX0_begin_10 : decode cX0_begin 10 = .ok (.bipush 6, 2) := by decide +kernel
theorem dX0_begin_12 : decode cX0_begin 12 = .ok (.invokestatic 15, 3) := by decide +kernel
theorem dX0_begin_15 : decode cX0_begin 15 = .ok (.aload_n 0, 1) := by decide +kernel
theorem dX0_begin_16 : decode cX0_begin 16 = .ok (.iconst 0, 1) := by decide +kernel
theorem dX0_begin_17 : decode cX0_begin 17 = .ok (.putfield 21, 3) := by decide +kernel
theorem dX0_begin_20 : decode cX0_begin 20 = .ok (.aload_n 0, 1) := by decide +kernel
theorem dX0_begin_21 : decode cX0_begin 21 = .ok (.iconst 0, 1) := by decide +kernel
theorem dX0_begin_22 : decode cX0_begin 22 = .ok (.putfield 25, 3) := by decide +kernel
theorem dX0_begin_25 : decode cX0_begin 25 = .ok (.return_, 1) := by decide +kernel
theorem dX1_init_0 : decode cX1_init 0 = .ok (.aload_n 0, 1) := by decide +kernel
theorem dX1_init_1 : decode cX1_init 1 = .ok (.invokespecial 3, 3) := by decide +kernel
theorem dX1_init_4 : decode cX1_init 4 = .ok (.aload_n 0, 1) := by decide +kernel
theorem dX1_init_5 : decode cX1_init 5 = .ok (.bipush 10, 2) := by decide +kernel
theorem dX1_init_7 : decode cX1_init 7 = .ok (.anewarray 9, 3) := by decide +kernel
theorem dX1_init_10 : decode cX1_init 10 = .ok (.putfield 11, 3) := by decide +kernel
theorem dX1_init_13 : decode cX1_init 13 = .ok (.iconst 0, 1) := by decide +kernel
theorem dX1_init_14 : decode cX1_init 14 = .ok (.istore_n 1, 1) := by decide +kernel
theorem dX1_init_15 : decode cX1_init 15 = .ok (.iload_n 1, 1) := by decide +kernel
theorem dX1_init_16 : decode cX1_init 16 = .ok (.bipush 10, 2) := by decide +kernel
theorem dX1_init_18 : decode cX1_init 18 = .ok (.if_icmp .ge 22, 3) := by decide +kernel
theorem dX1_init_21 : decode cX1_init 21 = .ok (.aload_n 0, 1) := by decide +kernel
theorem dX1_init_22 : decode cX1_init 22 = .ok (.getfield 11, 3) := by decide +kernel
theorem dX1_init_25 : decode cX1_init 25 = .ok (.iload_n 1, 1) := by decide +kernel
theorem dX1_init_26 : decode cX1_init 26 = .ok (.new 9, 3) := by decide +kernel
theorem dX1_init_29 : decode cX1_init 29 = .ok (.dup, 1) := by decide +kernel
theorem dX1_init_30 : decode cX1_init 30 = .ok (.invokespecial 17, 3) := by decide +kernel
theorem dX1_init_33 : decode cX1_init 33 = .ok (.aastore, 1) := by decide +kernel
theorem dX1_init_34 : decode cX1_init 34 = .ok (.iinc 1 1, 3) := by decide +kernel
theorem dX1_init_37 : decode cX1_init 37 = .ok (.goto (-22), 3) := by decide +kernel
theorem dX1_init_40 : decode cX1_init 40 = .ok (.return_, 1) := by decide +kernel
theorem dX1_push_0 : decode cX1_push 0 = .ok (.aload_n 0, 1) := by decide +kernel
theorem dX1_push_1 : decode cX1_push 1 = .ok (.getfield 11, 3) := by decide +kernel
theorem dX1_push_4 : decode cX1_push 4 = .ok (.aload_n 0, 1) := by decide +kernel
theorem dX1_push_5 : decode cX1_push 5 = .ok (.getfield 18, 3) := by decide +kernel
theorem dX1_push_8 : decode cX1_push 8 = .ok (.aaload, 1) := by decide +kernel
theorem dX1_push_9 : decode cX1_push 9 = .ok (.aload_n 1, 1) := by decide +kernel
theorem dX1_push_10 : decode cX1_push 10 = .ok (.invokevirtual 22, 3) := by decide +kernel
theorem dX1_push_13 : decode cX1_push 13 = .ok (.aload_n 0, 1) := by decide +kernel
theorem dX1_push_14 : decode cX1_push 14 = .ok (.aload_n 0, 1) := by decide +kernel
theorem dX1_push_15 : decode cX1_push 15 = .ok (.getfield 18, 3) := by decide +kernel
theorem dX1_push_18 : decode cX1_push 18 = .ok (.iconst 1, 1) := by decide +kernel
theorem dX1_push_19 : decode cX1_push 19 = .ok (.iadd, 1) := by decide +kernel
theorem dX1_push_20 : decode cX1_push 20 = .ok (.bipush 10, 2) := by decide +kernel
theorem dX1_push_22 : decode cX1_push 22 = .ok (.if_icmp .ge 12, 3) := by decide +kernel
theorem dX1_push_25 : decode cX1_push 25 = .ok (.aload_n 0, 1) := by decide +kernel
theorem dX1_push_26 : decode cX1_push 26 = .ok (.getfield 18, 3) := by decide +kernel
theorem dX1_push_29 : decode cX1_push 29 = .ok (.iconst 1, 1) := by decide +kernel
theorem dX1_push_30 : decode cX1_push 30 = .ok (.iadd, 1) := by decide +kernel
theorem dX1_push_31 : decode cX1_push 31 = .ok (.goto 4, 3) := by decide +kernel
theorem dX1_push_34 : decode cX1_push 34 = .ok (.iconst 0, 1) := by decide +kernel
theorem dX1_push_35 : decode cX1_push 35 = .ok (.putfield 18, 3) := by decide +kernel
theorem dX1_push_38 : decode cX1_push 38 = .ok (.aload_n 0, 1) := by decide +kernel
theorem dX1_push_39 : decode cX1_push 39 = .ok (.bipush 10, 2) := by decide +kernel
theorem dX1_push_41 : decode cX1_push 41 = .ok (.aload_n 0, 1) := by decide +kernel
theorem dX1_push_42 : decode cX1_push 42 = .ok (.getfield 26, 3) := by decide +kernel
theorem dX1_push_45 : decode cX1_push 45 = .ok (.iconst 1, 1) := by decide +kernel
theorem dX1_push_46 : decode cX1_push 46 = .ok (.iadd, 1) := by decide +kernel
theorem dX1_push_47 : decode cX1_push 47 = .ok (.invokestatic 29, 3) := by decide +kernel
theorem dX1_push_50 : decode cX1_push 50 = .ok (.putfield 26, 3) := by decide +kernel
theorem dX1_push_53 : decode cX1_push 53 = .ok (.return_, 1) := by decide +kernel
theorem dX1_popInto_0 : decode cX1_popInto 0 = .ok (.aload_n 0, 1) := by decide +kernel
theorem dX1_popInto_1 : decode cX1_popInto 1 = .ok (.aload_n 0, 1) := by decide +kernel
theorem dX1_popInto_2 : decode cX1_popInto 2 = .ok (.getfield 18, 3) := by decide +kernel
theorem dX1_popInto_5 : decode cX1_popInto 5 = .ok (.ifCond .le 12, 3) := by decide +kernel
theorem dX1_popInto_8 : decode cX1_popInto 8 = .ok (.aload_n 0, 1) := by decide +kernel
theorem dX1_popInto_9 : decode cX1_popInto 9 = .ok (.getfield 18, 3) := by decide +kernel
theorem dX1_popInto_12 : decode cX1_popInto 12 = .ok (.iconst 1, 1) := by decide +kernel
theorem dX1_popInto_13 : decode cX1_popInto 13 = .ok (.isub, 1) := by decide +kernel
theorem dX1_popInto_14 : decode cX1_popInto 14 = .ok (.goto 5, 3) := by decide +kernel
theorem dX1_popInto_17 : decode cX1_popInto 17 = .ok (.bipush 9, 2) := by decide +kernel
theorem dX1_popInto_19 : decode cX1_popInto 19 = .ok (.putfield 18, 3) := by decide +kernel
theorem dX1_popInto_22 : decode cX1_popInto 22 = .ok (.aload_n 1, 1) := by decide +kernel
theorem dX1_popInto_23 : decode cX1_popInto 23 = .ok (.aload_n 0, 1) := by decide +kernel
theorem dX1_popInto_24 : decode cX1_popInto 24 = .ok (.getfield 11, 3) := by decide +kernel
theorem dX1_popInto_27 : decode cX1_popInto 27 = .ok (.aload_n 0, 1) := by decide +kernel
theorem dX1_popInto_28 : decode cX1_popInto 28 = .ok (.getfield 18, 3) := by decide +kernel
theorem dX1_popInto_31 : decode cX1_popInto 31 = .ok (.aaload, 1) := by decide +kernel
theorem dX1_popInto_32 : decode cX1_popInto 32 = .ok (.invokevirtual 22, 3) := by decide +kernel
theorem dX1_popInto_35 : decode cX1_popInto 35 = .ok (.aload_n 0, 1) := by decide +kernel
theorem dX1_popInto_36 : decode cX1_popInto 36 = .ok (.dup, 1) := by decide +kernel
theorem dX1_popInto_37 : decode cX1_popInto 37 = .ok (.getfield 26, 3) := by decide +kernel
theorem dX1_popInto_40 : decode cX1_popInto 40 = .ok (.iconst 1, 1) := by decide +kernel
theorem dX1_popInto_41 : decode cX1_popInto 41 = .ok (.isub, 1) := by decide +kernel
theorem dX1_popInto_42 : decode cX1_popInto 42 = .ok (.putfield 26, 3) := by decide +kernel
theorem dX1_popInto_45 : decode cX1_popInto 45 = .ok (.return_, 1) := by decide +kernel
theorem dX2_init_0 : decode cX2_init 0 = .ok (.aload_n 0, 1) := by decide +kernel
theorem dX2_init_1 : decode cX2_init 1 = .ok (.invokespecial 3, 3) := by decide +kernel
theorem dX2_init_4 : decode cX2_init 4 = .ok (.aload_n 0, 1) := by decide +kernel
theorem dX2_init_5 : decode cX2_init 5 = .ok (.bipush 6, 2) := by decide +kernel
theorem dX2_init_7 : decode cX2_init 7 = .ok (.newarray .int, 2) := by decide +kernel
theorem dX2_init_9 : decode cX2_init 9 = .ok (.putfield 9, 3) := by decide +kernel
theorem dX2_init_12 : decode cX2_init 12 = .ok (.aload_n 0, 1) := by decide +kernel
theorem dX2_init_13 : decode cX2_init 13 = .ok (.bipush 6, 2) := by decide +kernel
theorem dX2_init_15 : decode cX2_init 15 = .ok (.newarray .int, 2) := by decide +kernel
theorem dX2_init_17 : decode cX2_init 17 = .ok (.putfield 15, 3) := by decide +kernel
theorem dX2_init_20 : decode cX2_init 20 = .ok (.aload_n 0, 1) := by decide +kernel
theorem dX2_init_21 : decode cX2_init 21 = .ok (.bipush 6, 2) := by decide +kernel
theorem dX2_init_23 : decode cX2_init 23 = .ok (.newarray .int, 2) := by decide +kernel
theorem dX2_init_25 : decode cX2_init 25 = .ok (.putfield 18, 3) := by decide +kernel
theorem dX2_init_28 : decode cX2_init 28 = .ok (.aload_n 0, 1) := by decide +kernel
theorem dX2_init_29 : decode cX2_init 29 = .ok (.bipush 6, 2) := by decide +kernel
theorem dX2_init_31 : decode cX2_init 31 = .ok (.newarray .int, 2) := by decide +kernel
theorem dX2_init_33 : decode cX2_init 33 = .ok (.putfield 21, 3) := by decide +kernel
theorem dX2_init_36 : decode cX2_init 36 = .ok (.aload_n 0, 1) := by decide +kernel
theorem dX2_init_37 : decode cX2_init 37 = .ok (.bipush 6, 2) := by decide +kernel
theorem dX2_init_39 : decode cX2_init 39 = .ok (.newarray .int, 2) := by decide +kernel
theorem dX2_init_41 : decode cX2_init 41 = .ok (.putfield 24, 3) := by decide +kernel
theorem dX2_init_44 : decode cX2_init 44 = .ok (.aload_n 0, 1) := by decide +kernel
theorem dX2_init_45 : decode cX2_init 45 = .ok (.bipush 6, 2) := by decide +kernel
theorem dX2_init_47 : decode cX2_init 47 = .ok (.newarray .int, 2) := by decide +kernel
theorem dX2_init_49 : decode cX2_init 49 = .ok (.putfield 27, 3) := by decide +kernel
theorem dX2_init_52 : decode cX2_init 52 = .ok (.aload_n 0, 1) := by decide +kernel
theorem dX2_init_53 : decode cX2_init 53 = .ok (.bipush 6, 2) := by decide +kernel
theorem dX2_init_55 : decode cX2_init 55 = .ok (.newarray .int, 2) := by decide +kernel
theorem dX2_init_57 : decode cX2_init 57 = .ok (.putfield 30, 3) := by decide +kernel
theorem dX2_init_60 : decode cX2_init 60 = .ok (.aload_n 0, 1) := by decide +kernel
theorem dX2_init_61 : decode cX2_init 61 = .ok (.bipush 6, 2) := by decide +kernel
theorem dX2_init_63 : decode cX2_init 63 = .ok (.newarray .int, 2) := by decide +kernel
theorem dX2_init_65 : decode cX2_init 65 = .ok (.putfield 33, 3) := by decide +kernel
theorem dX2_init_68 : decode cX2_init 68 = .ok (.aload_n 0, 1) := by decide +kernel
theorem dX2_init_69 : decode cX2_init 69 = .ok (.bipush 6, 2) := by decide +kernel
theorem dX2_init_71 : decode cX2_init 71 = .ok (.newarray .int, 2) := by decide +kernel
theorem dX2_init_73 : decode cX2_init 73 = .ok (.putfield 36, 3) := by decide +kernel
theorem dX2_init_76 : decode cX2_init 76 = .ok (.aload_n 0, 1) := by decide +kernel
theorem dX2_init_77 : decode cX2_init 77 = .ok (.bipush 6, 2) := by decide +kernel
theorem dX2_init_79 : decode cX2_init 79 = .ok (.bipush 6, 2) := by decide +kernel
theorem dX2_init_81 : decode cX2_init 81 = .ok (.multianewarray 39 2, 4) := by decide +kernel
theorem dX2_init_85 : decode cX2_init 85 = .ok (.putfield 41, 3) := by decide +kernel
theorem dX2_init_88 : decode cX2_init 88 = .ok (.aload_n 0, 1) := by decide +kernel
theorem dX2_init_89 : decode cX2_init 89 = .ok (.bipush 6, 2) := by decide +kernel
theorem dX2_init_91 : decode cX2_init 91 = .ok (.newarray .int, 2) := by decide +kernel
theorem dX2_init_93 : decode cX2_init 93 = .ok (.putfield 44, 3) := by decide +kernel
theorem dX2_init_96 : decode cX2_init 96 = .ok (.aload_n 0, 1) := by decide +kernel
theorem dX2_init_97 : decode cX2_init 97 = .ok (.bipush 6, 2) := by decide +kernel
theorem dX2_init_99 : decode cX2_init 99 = .ok (.newarray .int, 2) := by decide +kernel
theorem dX2_init_101 : decode cX2_init 101 = .ok (.putfield 47, 3) := by decide +kernel
theorem dX2_init_104 : decode cX2_init 104 = .ok (.aload_n 0, 1) := by decide +kernel
theorem dX2_init_105 : decode cX2_init 105 = .ok (.bipush 6, 2) := by decide +kernel
theorem dX2_init_107 : decode cX2_init 107 = .ok (.newarray .int, 2) := by decide +kernel
theorem dX2_init_109 : decode cX2_init 109 = .ok (.putfield 50, 3) := by decide +kernel
theorem dX2_init_112 : decode cX2_init 112 = .ok (.aload_n 0, 1) := by decide +kernel
theorem dX2_init_113 : decode cX2_init 113 = .ok (.bipush 6, 2) := by decide +kernel
theorem dX2_init_115 : decode cX2_init 115 = .ok (.newarray .int, 2) := by decide +kernel
theorem dX2_init_117 : decode cX2_init 117 = .ok (.putfield 53, 3) := by decide +kernel
theorem dX2_init_120 : decode cX2_init 120 = .ok (.aload_n 0, 1) := by decide +kernel
theorem dX2_init_121 : decode cX2_init 121 = .ok (.bipush 6, 2) := by decide +kernel
theorem dX2_init_123 : decode cX2_init 123 = .ok (.newarray .int, 2) := by decide +kernel
theorem dX2_init_125 : decode cX2_init 125 = .ok (.putfield 56, 3) := by decide +kernel
theorem dX2_init_128 : decode cX2_init 128 = .ok (.aload_n 0, 1) := by decide +kernel
theorem dX2_init_129 : decode cX2_init 129 = .ok (.bipush 6, 2) := by decide +kernel
theorem dX2_init_131 : decode cX2_init 131 = .ok (.newarray .int, 2) := by decide +kernel
theorem dX2_init_133 : decode cX2_init 133 = .ok (.putfield 59, 3) := by decide +kernel
theorem dX2_init_136 : decode cX2_init 136 = .ok (.return_, 1) := by decide +kernel
theorem dX2_forgetAll_0 : decode cX2_forgetAll 0 = .ok (.aload_n 0, 1) := by decide +kernel
theorem dX2_forgetAll_1 : decode cX2_forgetAll 1 = .ok (.iconst 0, 1) := by decide +kernel
theorem dX2_forgetAll_2 : decode cX2_forgetAll 2 = .ok (.putfield 62, 3) := by decide +kernel
theorem dX2_forgetAll_5 : decode cX2_forgetAll 5 = .ok (.aload_n 0, 1) := by decide +kernel
theorem dX2_forgetAll_6 : decode cX2_forgetAll 6 = .ok (.iconst 0, 1) := by decide +kernel
theorem dX2_forgetAll_7 : decode cX2_forgetAll 7 = .ok (.putfield 66, 3) := by decide +kernel
theorem dX2_forgetAll_10 : decode cX2_forgetAll 10 = .ok (.aload_n 0, 1) := by decide +kernel
theorem dX2_forgetAll_11 : decode cX2_forgetAll 11 = .ok (.iconst 0, 1) := by decide +kernel
theorem dX2_forgetAll_12 : decode cX2_forgetAll 12 = .ok (.putfield 69, 3) := by decide +kernel
theorem dX2_forgetAll_15 : decode cX2_forgetAll 15 = .ok (.aload_n 0, 1) := by decide +kernel
theorem dX2_forgetAll_16 : decode cX2_forgetAll 16 = .ok (.getfield 24, 3) := by decide +kernel
theorem dX2_forgetAll_19 : decode cX2_forgetAll 19 = .ok (.iconst 0, 1) := by decide +kernel
theorem dX2_forgetAll_20 : decode cX2_forgetAll 20 = .ok (.invokestatic 72, 3) := by decide +kernel
theorem dX2_forgetAll_23 : decode cX2_forgetAll 23 = .ok (.aload_n 0, 1) := by decide +kernel
theorem dX2_forgetAll_24 : decode cX2_forgetAll 24 = .ok (.getfield 30, 3) := by decide +kernel
theorem dX2_forgetAll_27 : decode cX2_forgetAll 27 = .ok (.iconst 0, 1) := by decide +kernel
theorem dX2_forgetAll_28 : decode cX2_forgetAll 28 = .ok (.invokestatic 72, 3) := by decide +kernel
theorem dX2_forgetAll_31 : decode cX2_forgetAll 31 = .ok (.aload_n 0, 1) := by decide +kernel
theorem dX2_forgetAll_32 : decode cX2_forgetAll 32 = .ok (.getfield 33, 3) := by decide +kernel
theorem dX2_forgetAll_35 : decode cX2_forgetAll 35 = .ok (.bipush (-9), 2) := by decide +kernel
theorem dX2_forgetAll_37 : decode cX2_forgetAll 37 = .ok (.invokestatic 72, 3) := by decide +kernel
theorem dX2_forgetAll_40 : decode cX2_forgetAll 40 = .ok (.iconst 0, 1) := by decide +kernel
theorem dX2_forgetAll_41 : decode cX2_forgetAll 41 = .ok (.istore_n 1, 1) := by decide +kernel
theorem dX2_forgetAll_42 : decode cX2_forgetAll 42 = .ok (.iload_n 1, 1) := by decide +kernel
theorem dX2_forgetAll_43 : decode cX2_forgetAll 43 = .ok (.bipush 6, 2) := by decide +kernel
theorem dX2_forgetAll_45 : decode cX2_forgetAll 45 = .ok (.if_icmp .ge 19, 3) := by decide +kernel
theorem dX2_forgetAll_48 : decode cX2_forgetAll 48 = .ok (.aload_n 0, 1) := by decide +kernel
theorem dX2_forgetAll_49 : decode cX2_forgetAll 49 = .ok (.getfield 41, 3) := by decide +kernel
theorem dX2_forgetAll_52 : decode cX2_forgetAll 52 = .ok (.iload_n 1, 1) := by decide +kernel
theorem dX2_forgetAll_53 : decode cX2_forgetAll 53 = .ok (.aaload, 1) := by decide +kernel
theorem dX2_forgetAll_54 : decode cX2_forgetAll 54 = .ok (.iconst 0, 1) := by decide +kernel
theorem dX2_forgetAll_55 : decode cX2_forgetAll 55 = .ok (.invokestatic 72, 3) := by decide +kernel
theorem dX2_forgetAll_58 : decode cX2_forgetAll 58 = .ok (.iinc 1 1, 3) := by decide +kernel
theorem dX2_forgetAll_61 : decode cX2_forgetAll 61 = .ok (.goto (-19), 3) := by decide +kernel
theorem dX2_forgetAll_64 : decode cX2_forgetAll 64 = .ok (.return_, 1) := by decide +kernel
theorem dX2_hasRoomFor_0 : decode cX2_hasRoomFor 0 = .ok (.iload_n 1, 1) := by decide +kernel
theorem dX2_hasRoomFor_1 : decode cX2_hasRoomFor 1 = .ok (.lookupswitch 80 #[(107, 35), (116, 50), (121, 65)], 35) := by decide +kernel
theorem dX2_hasRoomFor_36 : decode cX2_hasRoomFor 36 = .ok (.aload_n 0, 1) := by decide +kernel
theorem dX2_hasRoomFor_37 : decode cX2_hasRoomFor 37 = .ok (.getfield 62, 3) := by decide +kernel
theorem dX2_hasRoomFor_40 : decode cX2_hasRoomFor 40 = .ok (.bipush 6, 2) := by decide +kernel
theorem dX2_hasRoomFor_42 : decode cX2_hasRoomFor 42 = .ok (.if_icmp .ge 7, 3) := by decide +kernel
theorem dX2_hasRoomFor_45 : decode cX2_hasRoomFor 45 = .ok (.iconst 1, 1) := by decide +kernel
theorem dX2_hasRoomFor_46 : decode cX2_hasRoomFor 46 = .ok (.goto 4, 3) := by decide +kernel
theorem dX2_hasRoomFor_49 : decode cX2_hasRoomFor 49 = .ok (.iconst 0, 1) := by decide +kernel
theorem dX2_hasRoomFor_50 : decode cX2_hasRoomFor 50 = .ok (.ireturn, 1) := by decide +kernel
theorem dX2_hasRoomFor_51 : decode cX2_hasRoomFor 51 = .ok (.aload_n 0, 1) := by decide +kernel
theorem dX2_hasRoomFor_52 : decode cX2_hasRoomFor 52 = .ok (.getfield 66, 3) := by decide +kernel
theorem dX2_hasRoomFor_55 : decode cX2_hasRoomFor 55 = .ok (.bipush 6, 2) := by decide +kernel
theorem dX2_hasRoomFor_57 : decode cX2_hasRoomFor 57 = .ok (.if_icmp .ge 7, 3) := by decide +kernel
theorem dX2_hasRoomFor_60 : decode cX2_hasRoomFor 60 = .ok (.iconst 1, 1) := by decide +kernel
theorem dX2_hasRoomFor_61 : decode cX2_hasRoomFor 61 = .ok (.goto 4, 3) := by decide +kernel
theorem dX2_hasRoomFor_64 : decode cX2_hasRoomFor 64 = .ok (.iconst 0, 1) := by decide +kernel
theorem dX2_hasRoomFor_65 : decode cX2_hasRoomFor 65 = .ok (.ireturn, 1) := by decide +kernel
theorem dX2_hasRoomFor_66 : decode cX2_hasRoomFor 66 = .ok (.aload_n 0, 1) := by decide +kernel
theorem dX2_hasRoomFor_67 : decode cX2_hasRoomFor 67 = .ok (.getfield 69, 3) := by decide +kernel
theorem dX2_hasRoomFor_70 : decode cX2_hasRoomFor 70 = .ok (.bipush 12, 2) := by decide +kernel
theorem dX2_hasRoomFor_72 : decode cX2_hasRoomFor 72 = .ok (.if_icmp .ge 7, 3) := by decide +kernel
theorem dX2_hasRoomFor_75 : decode cX2_hasRoomFor 75 = .ok (.iconst 1, 1) := by decide +kernel
theorem dX2_hasRoomFor_76 : decode cX2_hasRoomFor 76 = .ok (.goto 4, 3) := by decide +kernel
theorem dX2_hasRoomFor_79 : decode cX2_hasRoomFor 79 = .ok (.iconst 0, 1) := by decide +kernel
theorem dX2_hasRoomFor_80 : decode cX2_hasRoomFor 80 = .ok (.ireturn, 1) := by decide +kernel
theorem dX2_hasRoomFor_81 : decode cX2_hasRoomFor 81 = .ok (.iconst 1, 1) := by decide +kernel
theorem dX2_hasRoomFor_82 : decode cX2_hasRoomFor 82 = .ok (.ireturn, 1) := by decide +kernel
theorem dX2_tell_0 : decode cX2_tell 0 = .ok (.aload_n 2, 1) := by decide +kernel
theorem dX2_tell_1 : decode cX2_tell 1 = .ok (.iconst 0, 1) := by decide +kernel
theorem dX2_tell_2 : decode cX2_tell 2 = .ok (.iaload, 1) := by decide +kernel
theorem dX2_tell_3 : decode cX2_tell 3 = .ok (.istore_n 3, 1) := by decide +kernel
theorem dX2_tell_4 : decode cX2_tell 4 = .ok (.aload_n 2, 1) := by decide +kernel
theorem dX2_tell_5 : decode cX2_tell 5 = .ok (.iconst 1, 1) := by decide +kernel
theorem dX2_tell_6 : decode cX2_tell 6 = .ok (.iaload, 1) := by decide +kernel
theorem dX2_tell_7 : decode cX2_tell 7 = .ok (.istore 4, 2) := by decide +kernel
theorem dX2_tell_9 : decode cX2_tell 9 = .ok (.iload_n 1, 1) := by decide +kernel
theorem dX2_tell_10 : decode cX2_tell 10 = .ok (.tableswitch 188 97 121 #[122, 188, 188, 188, 188, 188, 188, 154, 188, 188, 114, 188, 188, 133, 188, 188, 188, 188, 144, 180, 188, 188, 188, 188, 167], 114) := by decide +kernel
theorem dX2_tell_124 : decode cX2_tell 124 = .ok (.aload_n 0, 1) := by decide +kernel
theorem dX2_tell_125 : decode cX2_tell 125 = .ok (.aload_n 2, 1) := by decide +kernel
theorem dX2_tell_126 : decode cX2_tell 126 = .ok (.invokevirtual 78, 3) := by decide +kernel
theorem dX2_tell_129 : decode cX2_tell 129 = .ok (.goto 69, 3) := by decide +kernel
theorem dX2_tell_132 : decode cX2_tell 132 = .ok (.aload_n 0, 1) := by decide +kernel
theorem dX2_tell_133 : decode cX2_tell 133 = .ok (.iconst 1, 1) := by decide +kernel
theorem dX2_tell_134 : decode cX2_tell 134 = .ok (.iload_n 3, 1) := by decide +kernel
theorem dX2_tell_135 : decode cX2_tell 135 = .ok (.iload 4, 2) := by decide +kernel
theorem dX2_tell_137 : decode cX2_tell 137 = .ok (.invokevirtual 82, 3) := by decide +kernel
theorem dX2_tell_140 : decode cX2_tell 140 = .ok (.goto 58, 3) := by decide +kernel
theorem dX2_tell_143 : decode cX2_tell 143 = .ok (.aload_n 0, 1) := by decide +kernel
theorem dX2_tell_144 : decode cX2_tell 144 = .ok (.iconst 2, 1) := by decide +kernel
theorem dX2_tell_145 : decode cX2_tell 145 = .ok (.iload_n 3, 1) := by decide +kernel
theorem dX2_tell_146 : decode cX2_tell 146 = .ok (.iload 4, 2) := by decide +kernel
theorem dX2_tell_148 : decode cX2_tell 148 = .ok (.invokevirtual 82, 3) := by decide +kernel
theorem dX2_tell_151 : decode cX2_tell 151 = .ok (.goto 47, 3) := by decide +kernel
theorem dX2_tell_154 : decode cX2_tell 154 = .ok (.aload_n 0, 1) := by decide +kernel
theorem dX2_tell_155 : decode cX2_tell 155 = .ok (.iload_n 3, 1) := by decide +kernel
theorem dX2_tell_156 : decode cX2_tell 156 = .ok (.iload 4, 2) := by decide +kernel
theorem dX2_tell_158 : decode cX2_tell 158 = .ok (.invokevirtual 86, 3) := by decide +kernel
theorem dX2_tell_161 : decode cX2_tell 161 = .ok (.goto 37, 3) := by decide +kernel
theorem dX2_tell_164 : decode cX2_tell 164 = .ok (.aload_n 0, 1) := by decide +kernel
theorem dX2_tell_165 : decode cX2_tell 165 = .ok (.iload_n 3, 1) := by decide +kernel
theorem dX2_tell_166 : decode cX2_tell 166 = .ok (.iload 4, 2) := by decide +kernel
theorem dX2_tell_168 : decode cX2_tell 168 = .ok (.aload_n 2, 1) := by decide +kernel
theorem dX2_tell_169 : decode cX2_tell 169 = .ok (.iconst 2, 1) := by decide +kernel
theorem dX2_tell_170 : decode cX2_tell 170 = .ok (.iaload, 1) := by decide +kernel
theorem dX2_tell_171 : decode cX2_tell 171 = .ok (.invokevirtual 90, 3) := by decide +kernel
theorem dX2_tell_174 : decode cX2_tell 174 = .ok (.goto 24, 3) := by decide +kernel
theorem dX2_tell_177 : decode cX2_tell 177 = .ok (.aload_n 0, 1) := by decide +kernel
theorem dX2_tell_178 : decode cX2_tell 178 = .ok (.iload_n 3, 1) := by decide +kernel
theorem dX2_tell_179 : decode cX2_tell 179 = .ok (.iload 4, 2) := by decide +kernel
theorem dX2_tell_181 : decode cX2_tell 181 = .ok (.aload_n 2, 1) := by decide +kernel
theorem dX2_tell_182 : decode cX2_tell 182 = .ok (.iconst 2, 1) := by decide +kernel
theorem dX2_tell_183 : decode cX2_tell 183 = .ok (.iaload, 1) := by decide +kernel
theorem dX2_tell_184 : decode cX2_tell 184 = .ok (.invokevirtual 93, 3) := by decide +kernel
theorem dX2_tell_187 : decode cX2_tell 187 = .ok (.goto 11, 3) := by decide +kernel
theorem dX2_tell_190 : decode cX2_tell 190 = .ok (.aload_n 0, 1) := by decide +kernel
theorem dX2_tell_191 : decode cX2_tell 191 = .ok (.aload_n 2, 1) := by decide +kernel
theorem dX2_tell_192 : decode cX2_tell 192 = .ok (.invokevirtual 96, 3) := by decide +kernel
theorem dX2_tell_195 : decode cX2_tell 195 = .ok (.goto 3, 3) := by decide +kernel
theorem dX2_tell_198 : decode cX2_tell 198 = .ok (.return_, 1) := by decide +kernel
theorem dX2_tellPocket_0 : decode cX2_tellPocket 0 = .ok (.aload_n 0, 1) := by decide +kernel
theorem dX2_tellPocket_1 : decode cX2_tellPocket 1 = .ok (.getfield 9, 3) := by decide +kernel
theorem dX2_tellPocket_4 : decode cX2_tellPocket 4 = .ok (.aload_n 0, 1) := by decide +kernel
theorem dX2_tellPocket_5 : decode cX2_tellPocket 5 = .ok (.getfield 62, 3) := by decide +kernel
theorem dX2_tellPocket_8 : decode cX2_tellPocket 8 = .ok (.aload_n 1, 1) := by decide +kernel
theorem dX2_tellPocket_9 : decode cX2_tellPocket 9 = .ok (.iconst 0, 1) := by decide +kernel
theorem dX2_tellPocket_10 : decode cX2_tellPocket 10 = .ok (.iaload, 1) := by decide +kernel
theorem dX2_tellPocket_11 : decode cX2_tellPocket 11 = .ok (.iastore, 1) := by decide +kernel
theorem dX2_tellPocket_12 : decode cX2_tellPocket 12 = .ok (.aload_n 0, 1) := by decide +kernel
theorem dX2_tellPocket_13 : decode cX2_tellPocket 13 = .ok (.getfield 15, 3) := by decide +kernel
theorem dX2_tellPocket_16 : decode cX2_tellPocket 16 = .ok (.aload_n 0, 1) := by decide +kernel
theorem dX2_tellPocket_17 : decode cX2_tellPocket 17 = .ok (.getfield 62, 3) := by decide +kernel
theorem dX2_tellPocket_20 : decode cX2_tellPocket 20 = .ok (.aload_n 1, 1) := by decide +kernel
theorem dX2_tellPocket_21 : decode cX2_tellPocket 21 = .ok (.iconst 1, 1) := by decide +kernel
theorem dX2_tellPocket_22 : decode cX2_tellPocket 22 = .ok (.iaload, 1) := by decide +kernel
theorem dX2_tellPocket_23 : decode cX2_tellPocket 23 = .ok (.iastore, 1) := by decide +kernel
theorem dX2_tellPocket_24 : decode cX2_tellPocket 24 = .ok (.aload_n 0, 1) := by decide +kernel
theorem dX2_tellPocket_25 : decode cX2_tellPocket 25 = .ok (.getfield 18, 3) := by decide +kernel
theorem dX2_tellPocket_28 : decode cX2_tellPocket 28 = .ok (.aload_n 0, 1) := by decide +kernel
theorem dX2_tellPocket_29 : decode cX2_tellPocket 29 = .ok (.getfield 62, 3) := by decide +kernel
theorem dX2_tellPocket_32 : decode cX2_tellPocket 32 = .ok (.aload_n 1, 1) := by decide +kernel
theorem dX2_tellPocket_33 : decode cX2_tellPocket 33 = .ok (.iconst 2, 1) := by decide +kernel
theorem dX2_tellPocket_34 : decode cX2_tellPocket 34 = .ok (.iaload, 1) := by decide +kernel
theorem dX2_tellPocket_35 : decode cX2_tellPocket 35 = .ok (.iastore, 1) := by decide +kernel
theorem dX2_tellPocket_36 : decode cX2_tellPocket 36 = .ok (.aload_n 0, 1) := by decide +kernel
theorem dX2_tellPocket_37 : decode cX2_tellPocket 37 = .ok (.getfield 21, 3) := by decide +kernel
theorem dX2_tellPocket_40 : decode cX2_tellPocket 40 = .ok (.aload_n 0, 1) := by decide +kernel
theorem dX2_tellPocket_41 : decode cX2_tellPocket 41 = .ok (.getfield 62, 3) := by decide +kernel
theorem dX2_tellPocket_44 : decode cX2_tellPocket 44 = .ok (.aload_n 1, 1) := by decide +kernel
theorem dX2_tellPocket_45 : decode cX2_tellPocket 45 = .ok (.iconst 3, 1) := by decide +kernel
theorem dX2_tellPocket_46 : decode cX2_tellPocket 46 = .ok (.iaload, 1) := by decide +kernel
theorem dX2_tellPocket_47 : decode cX2_tellPocket 47 = .ok (.iastore, 1) := by decide +kernel
theorem dX2_tellPocket_48 : decode cX2_tellPocket 48 = .ok (.aload_n 0, 1) := by decide +kernel
theorem dX2_tellPocket_49 : decode cX2_tellPocket 49 = .ok (.dup, 1) := by decide +kernel
theorem dX2_tellPocket_50 : decode cX2_tellPocket 50 = .ok (.getfield 62, 3) := by decide +kernel
theorem dX2_tellPocket_53 : decode cX2_tellPocket 53 = .ok (.iconst 1, 1) := by decide +kernel
theorem dX2_tellPocket_54 : decode cX2_tellPocket 54 = .ok (.iadd, 1) := by decide +kernel
theorem dX2_tellPocket_55 : decode cX2_tellPocket 55 = .ok (.putfield 62, 3) := by decide +kernel
theorem dX2_tellPocket_58 : decode cX2_tellPocket 58 = .ok (.return_, 1) := by decide +kernel
theorem dX2_tellLaw_0 : decode cX2_tellLaw 0 = .ok (.aload_n 0, 1) := by decide +kernel
theorem dX2_tellLaw_1 : decode cX2_tellLaw 1 = .ok (.getfield 24, 3) := by decide +kernel
theorem dX2_tellLaw_4 : decode cX2_tellLaw 4 = .ok (.iload_n 2, 1) := by decide +kernel
theorem dX2_tellLaw_5 : decode cX2_tellLaw 5 = .ok (.iload_n 1, 1) := by decide +kernel
theorem dX2_tellLaw_6 : decode cX2_tellLaw 6 = .ok (.iastore, 1) := by decide +kernel
theorem dX2_tellLaw_7 : decode cX2_tellLaw 7 = .ok (.aload_n 0, 1) := by decide +kernel
theorem dX2_tellLaw_8 : decode cX2_tellLaw 8 = .ok (.getfield 27, 3) := by decide +kernel
theorem dX2_tellLaw_11 : decode cX2_tellLaw 11 = .ok (.iload_n 2, 1) := by decide +kernel
theorem dX2_tellLaw_12 : decode cX2_tellLaw 12 = .ok (.iload_n 3, 1) := by decide +kernel
theorem dX2_tellLaw_13 : decode cX2_tellLaw 13 = .ok (.iastore, 1) := by decide +kernel
theorem dX2_tellLaw_14 : decode cX2_tellLaw 14 = .ok (.return_, 1) := by decide +kernel
theorem dX2_tellSeam_0 : decode cX2_tellSeam 0 = .ok (.aload_n 0, 1) := by decide +kernel
theorem dX2_tellSeam_1 : decode cX2_tellSeam 1 = .ok (.getfield 30, 3) := by decide +kernel
theorem dX2_tellSeam_4 : decode cX2_tellSeam 4 = .ok (.iload_n 1, 1) := by decide +kernel
theorem dX2_tellSeam_5 : decode cX2_tellSeam 5 = .ok (.dup2, 1) := by decide +kernel
theorem dX2_tellSeam_6 : decode cX2_tellSeam 6 = .ok (.iaload, 1) := by decide +kernel
theorem dX2_tellSeam_7 : decode cX2_tellSeam 7 = .ok (.iconst 1, 1) := by decide +kernel
theorem dX2_tellSeam_8 : decode cX2_tellSeam 8 = .ok (.iload_n 2, 1) := by decide +kernel
theorem dX2_tellSeam_9 : decode cX2_tellSeam 9 = .ok (.ishl, 1) := by decide +kernel
theorem dX2_tellSeam_10 : decode cX2_tellSeam 10 = .ok (.ior, 1) := by decide +kernel
theorem dX2_tellSeam_11 : decode cX2_tellSeam 11 = .ok (.iastore, 1) := by decide +kernel
theorem dX2_tellSeam_12 : decode cX2_tellSeam 12 = .ok (.aload_n 0, 1) := by decide +kernel
theorem dX2_tellSeam_13 : decode cX2_tellSeam 13 = .ok (.getfield 30, 3) := by decide +kernel
theorem dX2_tellSeam_16 : decode cX2_tellSeam 16 = .ok (.iload_n 2, 1) := by decide +kernel
theorem dX2_tellSeam_17 : decode cX2_tellSeam 17 = .ok (.dup2, 1) := by decide +kernel
theorem dX2_tellSeam_18 : decode cX2_tellSeam 18 = .ok (.iaload, 1) := by decide +kernel
theorem dX2_tellSeam_19 : decode cX2_tellSeam 19 = .ok (.iconst 1, 1) := by decide +kernel
theorem dX2_tellSeam_20 : decode cX2_tellSeam 20 = .ok (.iload_n 1, 1) := by decide +kernel
theorem dX2_tellSeam_21 : decode cX2_tellSeam 21 = .ok (.ishl, 1) := by decide +kernel
theorem dX2_tellSeam_22 : decode cX2_tellSeam 22 = .ok (.ior, 1) := by decide +kernel
theorem dX2_tellSeam_23 : decode cX2_tellSeam 23 = .ok (.iastore, 1) := by decide +kernel
theorem dX2_tellSeam_24 : decode cX2_tellSeam 24 = .ok (.return_, 1) := by decide +kernel
theorem dX2_tellHole_0 : decode cX2_tellHole 0 = .ok (.aload_n 0, 1) := by decide +kernel
theorem dX2_tellHole_1 : decode cX2_tellHole 1 = .ok (.getfield 33, 3) := by decide +kernel
theorem dX2_tellHole_4 : decode cX2_tellHole 4 = .ok (.iload_n 1, 1) := by decide +kernel
theorem dX2_tellHole_5 : decode cX2_tellHole 5 = .ok (.iload_n 2, 1) := by decide +kernel
theorem dX2_tellHole_6 : decode cX2_tellHole 6 = .ok (.iastore, 1) := by decide +kernel
theorem dX2_tellHole_7 : decode cX2_tellHole 7 = .ok (.aload_n 0, 1) := by decide +kernel
theorem dX2_tellHole_8 : decode cX2_tellHole 8 = .ok (.getfield 36, 3) := by decide +kernel
theorem dX2_tellHole_11 : decode cX2_tellHole 11 = .ok (.iload_n 1, 1) := by decide +kernel
theorem dX2_tellHole_12 : decode cX2_tellHole 12 = .ok (.iload_n 3, 1) := by decide +kernel
theorem dX2_tellHole_13 : decode cX2_tellHole 13 = .ok (.iastore, 1) := by decide +kernel
theorem dX2_tellHole_14 : decode cX2_tellHole 14 = .ok (.return_, 1) := by decide +kernel
theorem dX2_tellTreaty_0 : decode cX2_tellTreaty 0 = .ok (.aload_n 0, 1) := by decide +kernel
theorem dX2_tellTreaty_1 : decode cX2_tellTreaty 1 = .ok (.getfield 41, 3) := by decide +kernel
theorem dX2_tellTreaty_4 : decode cX2_tellTreaty 4 = .ok (.iload_n 1, 1) := by decide +kernel
theorem dX2_tellTreaty_5 : decode cX2_tellTreaty 5 = .ok (.aaload, 1) := by decide +kernel
theorem dX2_tellTreaty_6 : decode cX2_tellTreaty 6 = .ok (.iload_n 2, 1) := by decide +kernel
theorem dX2_tellTreaty_7 : decode cX2_tellTreaty 7 = .ok (.dup2, 1) := by decide +kernel
theorem dX2_tellTreaty_8 : decode cX2_tellTreaty 8 = .ok (.iaload, 1) := by decide +kernel
theorem dX2_tellTreaty_9 : decode cX2_tellTreaty 9 = .ok (.iconst 1, 1) := by decide +kernel
theorem dX2_tellTreaty_10 : decode cX2_tellTreaty 10 = .ok (.iload_n 3, 1) := by decide +kernel
theorem dX2_tellTreaty_11 : decode cX2_tellTreaty 11 = .ok (.ishl, 1) := by decide +kernel
theorem dX2_tellTreaty_12 : decode cX2_tellTreaty 12 = .ok (.ior, 1) := by decide +kernel
theorem dX2_tellTreaty_13 : decode cX2_tellTreaty 13 = .ok (.iastore, 1) := by decide +kernel
theorem dX2_tellTreaty_14 : decode cX2_tellTreaty 14 = .ok (.aload_n 0, 1) := by decide +kernel
theorem dX2_tellTreaty_15 : decode cX2_tellTreaty 15 = .ok (.getfield 41, 3) := by decide +kernel
theorem dX2_tellTreaty_18 : decode cX2_tellTreaty 18 = .ok (.iload_n 2, 1) := by decide +kernel
theorem dX2_tellTreaty_19 : decode cX2_tellTreaty 19 = .ok (.aaload, 1) := by decide +kernel
theorem dX2_tellTreaty_20 : decode cX2_tellTreaty 20 = .ok (.iload_n 1, 1) := by decide +kernel
theorem dX2_tellTreaty_21 : decode cX2_tellTreaty 21 = .ok (.dup2, 1) := by decide +kernel
theorem dX2_tellTreaty_22 : decode cX2_tellTreaty 22 = .ok (.iaload, 1) := by decide +kernel
theorem dX2_tellTreaty_23 : decode cX2_tellTreaty 23 = .ok (.iconst 1, 1) := by decide +kernel
theorem dX2_tellTreaty_24 : decode cX2_tellTreaty 24 = .ok (.iload_n 3, 1) := by decide +kernel
theorem dX2_tellTreaty_25 : decode cX2_tellTreaty 25 = .ok (.ishl, 1) := by decide +kernel
theorem dX2_tellTreaty_26 : decode cX2_tellTreaty 26 = .ok (.ior, 1) := by decide +kernel
theorem dX2_tellTreaty_27 : decode cX2_tellTreaty 27 = .ok (.iastore, 1) := by decide +kernel
theorem dX2_tellTreaty_28 : decode cX2_tellTreaty 28 = .ok (.aload_n 0, 1) := by decide +kernel
theorem dX2_tellTreaty_29 : decode cX2_tellTreaty 29 = .ok (.dup, 1) := by decide +kernel
theorem dX2_tellTreaty_30 : decode cX2_tellTreaty 30 = .ok (.getfield 69, 3) := by decide +kernel
theorem dX2_tellTreaty_33 : decode cX2_tellTreaty 33 = .ok (.iconst 1, 1) := by decide +kernel
theorem dX2_tellTreaty_34 : decode cX2_tellTreaty 34 = .ok (.iadd, 1) := by decide +kernel
theorem dX2_tellTreaty_35 : decode cX2_tellTreaty 35 = .ok (.putfield 69, 3) := by decide +kernel
theorem dX2_tellTreaty_38 : decode cX2_tellTreaty 38 = .ok (.return_, 1) := by decide +kernel
theorem dX2_tellThing_0 : decode cX2_tellThing 0 = .ok (.aload_n 0, 1) := by decide +kernel
theorem dX2_tellThing_1 : decode cX2_tellThing 1 = .ok (.getfield 44, 3) := by decide +kernel
theorem dX2_tellThing_4 : decode cX2_tellThing 4 = .ok (.aload_n 0, 1) := by decide +kernel
theorem dX2_tellThing_5 : decode cX2_tellThing 5 = .ok (.getfield 66, 3) := by decide +kernel
theorem dX2_tellThing_8 : decode cX2_tellThing 8 = .ok (.aload_n 1, 1) := by decide +kernel
theorem dX2_tellThing_9 : decode cX2_tellThing 9 = .ok (.iconst 0, 1) := by decide +kernel
theorem dX2_tellThing_10 : decode cX2_tellThing 10 = .ok (.iaload, 1) := by decide +kernel
theorem dX2_tellThing_11 : decode cX2_tellThing 11 = .ok (.iastore, 1) := by decide +kernel
theorem dX2_tellThing_12 : decode cX2_tellThing 12 = .ok (.aload_n 0, 1) := by decide +kernel
theorem dX2_tellThing_13 : decode cX2_tellThing 13 = .ok (.getfield 47, 3) := by decide +kernel
theorem dX2_tellThing_16 : decode cX2_tellThing 16 = .ok (.aload_n 0, 1) := by decide +kernel
theorem dX2_tellThing_17 : decode cX2_tellThing 17 = .ok (.getfield 66, 3) := by decide +kernel
theorem dX2_tellThing_20 : decode cX2_tellThing 20 = .ok (.aload_n 1, 1) := by decide +kernel
theorem dX2_tellThing_21 : decode cX2_tellThing 21 = .ok (.iconst 1, 1) := by decide +kernel
theorem dX2_tellThing_22 : decode cX2_tellThing 22 = .ok (.iaload, 1) := by decide +kernel
theorem dX2_tellThing_23 : decode cX2_tellThing 23 = .ok (.iastore, 1) := by decide +kernel
theorem dX2_tellThing_24 : decode cX2_tellThing 24 = .ok (.aload_n 0, 1) := by decide +kernel
theorem dX2_tellThing_25 : decode cX2_tellThing 25 = .ok (.getfield 50, 3) := by decide +kernel
theorem dX2_tellThing_28 : decode cX2_tellThing 28 = .ok (.aload_n 0, 1) := by decide +kernel
theorem dX2_tellThing_29 : decode cX2_tellThing 29 = .ok (.getfield 66, 3) := by decide +kernel
theorem dX2_tellThing_32 : decode cX2_tellThing 32 = .ok (.aload_n 1, 1) := by decide +kernel
theorem dX2_tellThing_33 : decode cX2_tellThing 33 = .ok (.iconst 2, 1) := by decide +kernel
theorem dX2_tellThing_34 : decode cX2_tellThing 34 = .ok (.iaload, 1) := by decide +kernel
theorem dX2_tellThing_35 : decode cX2_tellThing 35 = .ok (.iastore, 1) := by decide +kernel
theorem dX2_tellThing_36 : decode cX2_tellThing 36 = .ok (.aload_n 0, 1) := by decide +kernel
theorem dX2_tellThing_37 : decode cX2_tellThing 37 = .ok (.getfield 53, 3) := by decide +kernel
theorem dX2_tellThing_40 : decode cX2_tellThing 40 = .ok (.aload_n 0, 1) := by decide +kernel
theorem dX2_tellThing_41 : decode cX2_tellThing 41 = .ok (.getfield 66, 3) := by decide +kernel
theorem dX2_tellThing_44 : decode cX2_tellThing 44 = .ok (.aload_n 1, 1) := by decide +kernel
theorem dX2_tellThing_45 : decode cX2_tellThing 45 = .ok (.iconst 3, 1) := by decide +kernel
theorem dX2_tellThing_46 : decode cX2_tellThing 46 = .ok (.iaload, 1) := by decide +kernel
theorem dX2_tellThing_47 : decode cX2_tellThing 47 = .ok (.iastore, 1) := by decide +kernel
theorem dX2_tellThing_48 : decode cX2_tellThing 48 = .ok (.aload_n 0, 1) := by decide +kernel
theorem dX2_tellThing_49 : decode cX2_tellThing 49 = .ok (.dup, 1) := by decide +kernel
theorem dX2_tellThing_50 : decode cX2_tellThing 50 = .ok (.getfield 66, 3) := by decide +kernel
theorem dX2_tellThing_53 : decode cX2_tellThing 53 = .ok (.iconst 1, 1) := by decide +kernel
theorem dX2_tellThing_54 : decode cX2_tellThing 54 = .ok (.iadd, 1) := by decide +kernel
theorem dX2_tellThing_55 : decode cX2_tellThing 55 = .ok (.putfield 66, 3) := by decide +kernel
theorem dX2_tellThing_58 : decode cX2_tellThing 58 = .ok (.return_, 1) := by decide +kernel
theorem dX2_settleLaws_0 : decode cX2_settleLaws 0 = .ok (.aload_n 0, 1) := by decide +kernel
theorem dX2_settleLaws_1 : decode cX2_settleLaws 1 = .ok (.getfield 56, 3) := by decide +kernel
theorem dX2_settleLaws_4 : decode cX2_settleLaws 4 = .ok (.iconst 0, 1) := by decide +kernel
theorem dX2_settleLaws_5 : decode cX2_settleLaws 5 = .ok (.invokestatic 72, 3) := by decide +kernel
theorem dX2_settleLaws_8 : decode cX2_settleLaws 8 = .ok (.iconst 0, 1) := by decide +kernel
theorem dX2_settleLaws_9 : decode cX2_settleLaws 9 = .ok (.istore_n 1, 1) := by decide +kernel
theorem dX2_settleLaws_10 : decode cX2_settleLaws 10 = .ok (.iload_n 1, 1) := by decide +kernel
theorem dX2_settleLaws_11 : decode cX2_settleLaws 11 = .ok (.bipush 6, 2) := by decide +kernel
theorem dX2_settleLaws_13 : decode cX2_settleLaws 13 = .ok (.if_icmp .ge 14, 3) := by decide +kernel
theorem dX2_settleLaws_16 : decode cX2_settleLaws 16 = .ok (.aload_n 0, 1) := by decide +kernel
theorem dX2_settleLaws_17 : decode cX2_settleLaws 17 = .ok (.iload_n 1, 1) := by decide +kernel
theorem dX2_settleLaws_18 : decode cX2_settleLaws 18 = .ok (.invokevirtual 99, 3) := by decide +kernel
theorem dX2_settleLaws_21 : decode cX2_settleLaws 21 = .ok (.iinc 1 1, 3) := by decide +kernel
theorem dX2_settleLaws_24 : decode cX2_settleLaws 24 = .ok (.goto (-14), 3) := by decide +kernel
theorem dX2_settleLaws_27 : decode cX2_settleLaws 27 = .ok (.return_, 1) := by decide +kernel
theorem dX2_settleLawsOf_0 : decode cX2_settleLawsOf 0 = .ok (.iconst 0, 1) := by decide +kernel
theorem dX2_settleLawsOf_1 : decode cX2_settleLawsOf 1 = .ok (.istore_n 2, 1) := by decide +kernel
theorem dX2_settleLawsOf_2 : decode cX2_settleLawsOf 2 = .ok (.iconst 1, 1) := by decide +kernel
theorem dX2_settleLawsOf_3 : decode cX2_settleLawsOf 3 = .ok (.aload_n 0, 1) := by decide +kernel
theorem dX2_settleLawsOf_4 : decode cX2_settleLawsOf 4 = .ok (.getfield 62, 3) := by decide +kernel
theorem dX2_settleLawsOf_7 : decode cX2_settleLawsOf 7 = .ok (.ishl, 1) := by decide +kernel
theorem dX2_settleLawsOf_8 : decode cX2_settleLawsOf 8 = .ok (.iconst 1, 1) := by decide +kernel
theorem dX2_settleLawsOf_9 : decode cX2_settleLawsOf 9 = .ok (.isub, 1) := by decide +kernel
theorem dX2_settleLawsOf_10 : decode cX2_settleLawsOf 10 = .ok (.istore_n 3, 1) := by decide +kernel
theorem dX2_settleLawsOf_11 : decode cX2_settleLawsOf 11 = .ok (.iconst 0, 1) := by decide +kernel
theorem dX2_settleLawsOf_12 : decode cX2_settleLawsOf 12 = .ok (.istore 4, 2) := by decide +kernel
theorem dX2_settleLawsOf_14 : decode cX2_settleLawsOf 14 = .ok (.iload 4, 2) := by decide +kernel
theorem dX2_settleLawsOf_16 : decode cX2_settleLawsOf 16 = .ok (.iconst 1, 1) := by decide +kernel
theorem dX2_settleLawsOf_17 : decode cX2_settleLawsOf 17 = .ok (.aload_n 0, 1) := by decide +kernel
theorem dX2_settleLawsOf_18 : decode cX2_settleLawsOf 18 = .ok (.getfield 62, 3) := by decide +kernel
theorem dX2_settleLawsOf_21 : decode cX2_settleLawsOf 21 = .ok (.ishl, 1) := by decide +kernel
theorem dX2_settleLawsOf_22 : decode cX2_settleLawsOf 22 = .ok (.if_icmp .ge 27, 3) := by decide +kernel
theorem dX2_settleLawsOf_25 : decode cX2_settleLawsOf 25 = .ok (.aload_n 0, 1) := by decide +kernel
theorem dX2_settleLawsOf_26 : decode cX2_settleLawsOf 26 = .ok (.iload 4, 2) := by decide +kernel
theorem dX2_settleLawsOf_28 : decode cX2_settleLawsOf 28 = .ok (.iload_n 1, 1) := by decide +kernel
theorem dX2_settleLawsOf_29 : decode cX2_settleLawsOf 29 = .ok (.invokevirtual 103, 3) := by decide +kernel
theorem dX2_settleLawsOf_32 : decode cX2_settleLawsOf 32 = .ok (.ifCond .eq 11, 3) := by decide +kernel
theorem dX2_settleLawsOf_35 : decode cX2_settleLawsOf 35 = .ok (.iinc 2 1, 3) := by decide +kernel
theorem dX2_settleLawsOf_38 : decode cX2_settleLawsOf 38 = .ok (.iload_n 3, 1) := by decide +kernel
theorem dX2_settleLawsOf_39 : decode cX2_settleLawsOf 39 = .ok (.iload 4, 2) := by decide +kernel
theorem dX2_settleLawsOf_41 : decode cX2_settleLawsOf 41 = .ok (.iand, 1) := by decide +kernel
theorem dX2_settleLawsOf_42 : decode cX2_settleLawsOf 42 = .ok (.istore_n 3, 1) := by decide +kernel
theorem dX2_settleLawsOf_43 : decode cX2_settleLawsOf 43 = .ok (.iinc 4 1, 3) := by decide +kernel
theorem dX2_settleLawsOf_46 : decode cX2_settleLawsOf 46 = .ok (.goto (-32), 3) := by decide +kernel
theorem dX2_settleLawsOf_49 : decode cX2_settleLawsOf 49 = .ok (.aload_n 0, 1) := by decide +kernel
theorem dX2_settleLawsOf_50 : decode cX2_settleLawsOf 50 = .ok (.getfield 59, 3) := by decide +kernel
theorem dX2_settleLawsOf_53 : decode cX2_settleLawsOf 53 = .ok (.iload_n 1, 1) := by decide +kernel
theorem dX2_settleLawsOf_54 : decode cX2_settleLawsOf 54 = .ok (.iload_n 2, 1) := by decide +kernel
theorem dX2_settleLawsOf_55 : decode cX2_settleLawsOf 55 = .ok (.iastore, 1) := by decide +kernel
theorem dX2_settleLawsOf_56 : decode cX2_settleLawsOf 56 = .ok (.iconst 0, 1) := by decide +kernel
theorem dX2_settleLawsOf_57 : decode cX2_settleLawsOf 57 = .ok (.istore 4, 2) := by decide +kernel
theorem dX2_settleLawsOf_59 : decode cX2_settleLawsOf 59 = .ok (.iload 4, 2) := by decide +kernel
theorem dX2_settleLawsOf_61 : decode cX2_settleLawsOf 61 = .ok (.aload_n 0, 1) := by decide +kernel
theorem dX2_settleLawsOf_62 : decode cX2_settleLawsOf 62 = .ok (.getfield 62, 3) := by decide +kernel
theorem dX2_settleLawsOf_65 : decode cX2_settleLawsOf 65 = .ok (.if_icmp .ge 45, 3) := by decide +kernel
theorem dX2_settleLawsOf_68 : decode cX2_settleLawsOf 68 = .ok (.iload_n 2, 1) := by decide +kernel
theorem dX2_settleLawsOf_69 : decode cX2_settleLawsOf 69 = .ok (.ifCond .le 35, 3) := by decide +kernel
theorem dX2_settleLawsOf_72 : decode cX2_settleLawsOf 72 = .ok (.iload_n 3, 1) := by decide +kernel
theorem dX2_settleLawsOf_73 : decode cX2_settleLawsOf 73 = .ok (.iload 4, 2) := by decide +kernel
theorem dX2_settleLawsOf_75 : decode cX2_settleLawsOf 75 = .ok (.invokestatic 107, 3) := by decide +kernel
theorem dX2_settleLawsOf_78 : decode cX2_settleLawsOf 78 = .ok (.ifCond .eq 26, 3) := by decide +kernel
theorem dX2_settleLawsOf_81 : decode cX2_settleLawsOf 81 = .ok (.aload_n 0, 1) := by decide +kernel
theorem dX2_settleLawsOf_82 : decode cX2_settleLawsOf 82 = .ok (.iload 4, 2) := by decide +kernel
theorem dX2_settleLawsOf_84 : decode cX2_settleLawsOf 84 = .ok (.iload_n 1, 1) := by decide +kernel
theorem dX2_settleLawsOf_85 : decode cX2_settleLawsOf 85 = .ok (.invokevirtual 110, 3) := by decide +kernel
theorem dX2_settleLawsOf_88 : decode cX2_settleLawsOf 88 = .ok (.ifCond .eq 16, 3) := by decide +kernel
theorem dX2_settleLawsOf_91 : decode cX2_settleLawsOf 91 = .ok (.aload_n 0, 1) := by decide +kernel
theorem dX2_settleLawsOf_92 : decode cX2_settleLawsOf 92 = .ok (.getfield 56, 3) := by decide +kernel
theorem dX2_settleLawsOf_95 : decode cX2_settleLawsOf 95 = .ok (.iload 4, 2) := by decide +kernel
theorem dX2_settleLawsOf_97 : decode cX2_settleLawsOf 97 = .ok (.dup2, 1) := by decide +kernel
theorem dX2_settleLawsOf_98 : decode cX2_settleLawsOf 98 = .ok (.iaload, 1) := by decide +kernel
theorem dX2_settleLawsOf_99 : decode cX2_settleLawsOf 99 = .ok (.iconst 1, 1) := by decide +kernel
theorem dX2_settleLawsOf_100 : decode cX2_settleLawsOf 100 = .ok (.iload_n 1, 1) := by decide +kernel
theorem dX2_settleLawsOf_101 : decode cX2_settleLawsOf 101 = .ok (.ishl, 1) := by decide +kernel
theorem dX2_settleLawsOf_102 : decode cX2_settleLawsOf 102 = .ok (.ior, 1) := by decide +kernel
theorem dX2_settleLawsOf_103 : decode cX2_settleLawsOf 103 = .ok (.iastore, 1) := by decide +kernel
theorem dX2_settleLawsOf_104 : decode cX2_settleLawsOf 104 = .ok (.iinc 4 1, 3) := by decide +kernel
theorem dX2_settleLawsOf_107 : decode cX2_settleLawsOf 107 = .ok (.goto (-48), 3) := by decide +kernel
theorem dX2_settleLawsOf_110 : decode cX2_settleLawsOf 110 = .ok (.return_, 1) := by decide +kernel
theorem dX2_outerLetsIn_0 : decode cX2_outerLetsIn 0 = .ok (.aload_n 0, 1) := by decide +kernel
theorem dX2_outerLetsIn_1 : decode cX2_outerLetsIn 1 = .ok (.getfield 21, 3) := by decide +kernel
theorem dX2_outerLetsIn_4 : decode cX2_outerLetsIn 4 = .ok (.iload_n 1, 1) := by decide +kernel
theorem dX2_outerLetsIn_5 : decode cX2_outerLetsIn 5 = .ok (.iaload, 1) := by decide +kernel
theorem dX2_outerLetsIn_6 : decode cX2_outerLetsIn 6 = .ok (.bipush 9, 2) := by decide +kernel
theorem dX2_outerLetsIn_8 : decode cX2_outerLetsIn 8 = .ok (.if_icmp .eq 21, 3) := by decide +kernel
theorem dX2_outerLetsIn_11 : decode cX2_outerLetsIn 11 = .ok (.aload_n 0, 1) := by decide +kernel
theorem dX2_outerLetsIn_12 : decode cX2_outerLetsIn 12 = .ok (.getfield 56, 3) := by decide +kernel
theorem dX2_outerLetsIn_15 : decode cX2_outerLetsIn 15 = .ok (.aload_n 0, 1) := by decide +kernel
theorem dX2_outerLetsIn_16 : decode cX2_outerLetsIn 16 = .ok (.getfield 21, 3) := by decide +kernel
theorem dX2_outerLetsIn_19 : decode cX2_outerLetsIn 19 = .ok (.iload_n 1, 1) := by decide +kernel
theorem dX2_outerLetsIn_20 : decode cX2_outerLetsIn 20 = .ok (.iaload, 1) := by decide +kernel
theorem dX2_outerLetsIn_21 : decode cX2_outerLetsIn 21 = .ok (.iaload, 1) := by decide +kernel
theorem dX2_outerLetsIn_22 : decode cX2_outerLetsIn 22 = .ok (.iload_n 2, 1) := by decide +kernel
theorem dX2_outerLetsIn_23 : decode cX2_outerLetsIn 23 = .ok (.invokestatic 107, 3) := by decide +kernel
theorem dX2_outerLetsIn_26 : decode cX2_outerLetsIn 26 = .ok (.ifCond .eq 7, 3) := by decide +kernel
theorem dX2_outerLetsIn_29 : decode cX2_outerLetsIn 29 = .ok (.iconst 1, 1) := by decide +kernel
theorem dX2_outerLetsIn_30 : decode cX2_outerLetsIn 30 = .ok (.goto 4, 3) := by decide +kernel
theorem dX2_outerLetsIn_33 : decode cX2_outerLetsIn 33 = .ok (.iconst 0, 1) := by decide +kernel
theorem dX2_outerLetsIn_34 : decode cX2_outerLetsIn 34 = .ok (.ireturn, 1) := by decide +kernel
theorem dX2_allHold_0 : decode cX2_allHold 0 = .ok (.iconst 0, 1) := by decide +kernel
theorem dX2_allHold_1 : decode cX2_allHold 1 = .ok (.istore_n 3, 1) := by decide +kernel
theorem dX2_allHold_2 : decode cX2_allHold 2 = .ok (.iload_n 3, 1) := by decide +kernel
theorem dX2_allHold_3 : decode cX2_allHold 3 = .ok (.aload_n 0, 1) := by decide +kernel
theorem dX2_allHold_4 : decode cX2_allHold 4 = .ok (.getfield 62, 3) := by decide +kernel
theorem dX2_allHold_7 : decode cX2_allHold 7 = .ok (.if_icmp .ge 26, 3) := by decide +kernel
theorem dX2_allHold_10 : decode cX2_allHold 10 = .ok (.iload_n 1, 1) := by decide +kernel
theorem dX2_allHold_11 : decode cX2_allHold 11 = .ok (.iload_n 3, 1) := by decide +kernel
theorem dX2_allHold_12 : decode cX2_allHold 12 = .ok (.invokestatic 107, 3) := by decide +kernel
theorem dX2_allHold_15 : decode cX2_allHold 15 = .ok (.aload_n 0, 1) := by decide +kernel
theorem dX2_allHold_16 : decode cX2_allHold 16 = .ok (.iload_n 3, 1) := by decide +kernel
theorem dX2_allHold_17 : decode cX2_allHold 17 = .ok (.iload_n 1, 1) := by decide +kernel
theorem dX2_allHold_18 : decode cX2_allHold 18 = .ok (.iload_n 2, 1) := by decide +kernel
theorem dX2_allHold_19 : decode cX2_allHold 19 = .ok (.invokevirtual 113, 3) := by decide +kernel
theorem dX2_allHold_22 : decode cX2_allHold 22 = .ok (.if_icmp .eq 5, 3) := by decide +kernel
theorem dX2_allHold_25 : decode cX2_allHold 25 = .ok (.iconst 0, 1) := by decide +kernel
theorem dX2_allHold_26 : decode cX2_allHold 26 = .ok (.ireturn, 1) := by decide +kernel
theorem dX2_allHold_27 : decode cX2_allHold 27 = .ok (.iinc 3 1, 3) := by decide +kernel
theorem dX2_allHold_30 : decode cX2_allHold 30 = .ok (.goto (-28), 3) := by decide +kernel
theorem dX2_allHold_33 : decode cX2_allHold 33 = .ok (.iconst 1, 1) := by decide +kernel
theorem dX2_allHold_34 : decode cX2_allHold 34 = .ok (.ireturn, 1) := by decide +kernel
theorem dX2_lawSays_0 : decode cX2_lawSays 0 = .ok (.aload_n 0, 1) := by decide +kernel
theorem dX2_lawSays_1 : decode cX2_lawSays 1 = .ok (.getfield 24, 3) := by decide +kernel
theorem dX2_lawSays_4 : decode cX2_lawSays 4 = .ok (.iload_n 1, 1) := by decide +kernel
theorem dX2_lawSays_5 : decode cX2_lawSays 5 = .ok (.iaload, 1) := by decide +kernel
theorem dX2_lawSays_6 : decode cX2_lawSays 6 = .ok (.lookupswitch 56 #[(1, 26), (2, 37)], 26) := by decide +kernel
theorem dX2_lawSays_32 : decode cX2_lawSays 32 = .ok (.iload_n 2, 1) := by decide +kernel
theorem dX2_lawSays_33 : decode cX2_lawSays 33 = .ok (.aload_n 0, 1) := by decide +kernel
theorem dX2_lawSays_34 : decode cX2_lawSays 34 = .ok (.getfield 27, 3) := by decide +kernel
theorem dX2_lawSays_37 : decode cX2_lawSays 37 = .ok (.iload_n 1, 1) := by decide +kernel
theorem dX2_lawSays_38 : decode cX2_lawSays 38 = .ok (.iaload, 1) := by decide +kernel
theorem dX2_lawSays_39 : decode cX2_lawSays 39 = .ok (.invokestatic 107, 3) := by decide +kernel
theorem dX2_lawSays_42 : decode cX2_lawSays 42 = .ok (.ireturn, 1) := by decide +kernel
theorem dX2_lawSays_43 : decode cX2_lawSays 43 = .ok (.iload_n 2, 1) := by decide +kernel
theorem dX2_lawSays_44 : decode cX2_lawSays 44 = .ok (.aload_n 0, 1) := by decide +kernel
theorem dX2_lawSays_45 : decode cX2_lawSays 45 = .ok (.getfield 27, 3) := by decide +kernel
theorem dX2_lawSays_48 : decode cX2_lawSays 48 = .ok (.iload_n 1, 1) := by decide +kernel
theorem dX2_lawSays_49 : decode cX2_lawSays 49 = .ok (.iaload, 1) := by decide +kernel
theorem dX2_lawSays_50 : decode cX2_lawSays 50 = .ok (.invokestatic 107, 3) := by decide +kernel
theorem dX2_lawSays_53 : decode cX2_lawSays 53 = .ok (.ifCond .ne 7, 3) := by decide +kernel
theorem dX2_lawSays_56 : decode cX2_lawSays 56 = .ok (.iconst 1, 1) := by decide +kernel
theorem dX2_lawSays_57 : decode cX2_lawSays 57 = .ok (.goto 4, 3) := by decide +kernel
theorem dX2_lawSays_60 : decode cX2_lawSays 60 = .ok (.iconst 0, 1) := by decide +kernel
theorem dX2_lawSays_61 : decode cX2_lawSays 61 = .ok (.ireturn, 1) := by decide +kernel
theorem dX2_lawSays_62 : decode cX2_lawSays 62 = .ok (.aload_n 0, 1) := by decide +kernel
theorem dX2_lawSays_63 : decode cX2_lawSays 63 = .ok (.getfield 15, 3) := by decide +kernel
theorem dX2_lawSays_66 : decode cX2_lawSays 66 = .ok (.iload_n 1, 1) := by decide +kernel
theorem dX2_lawSays_67 : decode cX2_lawSays 67 = .ok (.iaload, 1) := by decide +kernel
theorem dX2_lawSays_68 : decode cX2_lawSays 68 = .ok (.iload_n 3, 1) := by decide +kernel
theorem dX2_lawSays_69 : decode cX2_lawSays 69 = .ok (.invokestatic 107, 3) := by decide +kernel
theorem dX2_lawSays_72 : decode cX2_lawSays 72 = .ok (.ifCond .ne 7, 3) := by decide +kernel
theorem dX2_lawSays_75 : decode cX2_lawSays 75 = .ok (.iconst 1, 1) := by decide +kernel
theorem dX2_lawSays_76 : decode cX2_lawSays 76 = .ok (.goto 4, 3) := by decide +kernel
theorem dX2_lawSays_79 : decode cX2_lawSays 79 = .ok (.iconst 0, 1) := by decide +kernel
theorem dX2_lawSays_80 : decode cX2_lawSays 80 = .ok (.ireturn, 1) := by decide +kernel
theorem dX2_depth_0 : decode cX2_depth 0 = .ok (.iconst 0, 1) := by decide +kernel
theorem dX2_depth_1 : decode cX2_depth 1 = .ok (.istore_n 2, 1) := by decide +kernel
theorem dX2_depth_2 : decode cX2_depth 2 = .ok (.aload_n 0, 1) := by decide +kernel
theorem dX2_depth_3 : decode cX2_depth 3 = .ok (.getfield 21, 3) := by decide +kernel
theorem dX2_depth_6 : decode cX2_depth 6 = .ok (.iload_n 1, 1) := by decide +kernel
theorem dX2_depth_7 : decode cX2_depth 7 = .ok (.iaload, 1) := by decide +kernel
theorem dX2_depth_8 : decode cX2_depth 8 = .ok (.istore_n 3, 1) := by decide +kernel
theorem dX2_depth_9 : decode cX2_depth 9 = .ok (.iconst 0, 1) := by decide +kernel
theorem dX2_depth_10 : decode cX2_depth 10 = .ok (.istore 4, 2) := by decide +kernel
theorem dX2_depth_12 : decode cX2_depth 12 = .ok (.iload 4, 2) := by decide +kernel
theorem dX2_depth_14 : decode cX2_depth 14 = .ok (.bipush 6, 2) := by decide +kernel
theorem dX2_depth_16 : decode cX2_depth 16 = .ok (.if_icmp .ge 25, 3) := by decide +kernel
theorem dX2_depth_19 : decode cX2_depth 19 = .ok (.iload_n 3, 1) := by decide +kernel
theorem dX2_depth_20 : decode cX2_depth 20 = .ok (.bipush 9, 2) := by decide +kernel
theorem dX2_depth_22 : decode cX2_depth 22 = .ok (.if_icmp .eq 19, 3) := by decide +kernel
theorem dX2_depth_25 : decode cX2_depth 25 = .ok (.iinc 2 1, 3) := by decide +kernel
theorem dX2_depth_28 : decode cX2_depth 28 = .ok (.aload_n 0, 1) := by decide +kernel
theorem dX2_depth_29 : decode cX2_depth 29 = .ok (.getfield 21, 3) := by decide +kernel
theorem dX2_depth_32 : decode cX2_depth 32 = .ok (.iload_n 3, 1) := by decide +kernel
theorem dX2_depth_33 : decode cX2_depth 33 = .ok (.iaload, 1) := by decide +kernel
theorem dX2_depth_34 : decode cX2_depth 34 = .ok (.istore_n 3, 1) := by decide +kernel
theorem dX2_depth_35 : decode cX2_depth 35 = .ok (.iinc 4 1, 3) := by decide +kernel
theorem dX2_depth_38 : decode cX2_depth 38 = .ok (.goto (-26), 3) := by decide +kernel
theorem dX2_depth_41 : decode cX2_depth 41 = .ok (.iload_n 2, 1) := by decide +kernel
theorem dX2_depth_42 : decode cX2_depth 42 = .ok (.ireturn, 1) := by decide +kernel
theorem dX2_parts_0 : decode cX2_parts 0 = .ok (.iconst 0, 1) := by decide +kernel
theorem dX2_parts_1 : decode cX2_parts 1 = .ok (.istore_n 1, 1) := by decide +kernel
theorem dX2_parts_2 : decode cX2_parts 2 = .ok (.iconst 0, 1) := by decide +kernel
theorem dX2_parts_3 : decode cX2_parts 3 = .ok (.istore_n 2, 1) := by decide +kernel
theorem dX2_parts_4 : decode cX2_parts 4 = .ok (.iconst 0, 1) := by decide +kernel
theorem dX2_parts_5 : decode cX2_parts 5 = .ok (.istore_n 3, 1) := by decide +kernel
theorem dX2_parts_6 : decode cX2_parts 6 = .ok (.iload_n 3, 1) := by decide +kernel
theorem dX2_parts_7 : decode cX2_parts 7 = .ok (.aload_n 0, 1) := by decide +kernel
theorem dX2_parts_8 : decode cX2_parts 8 = .ok (.getfield 62, 3) := by decide +kernel
theorem dX2_parts_11 : decode cX2_parts 11 = .ok (.if_icmp .ge 28, 3) := by decide +kernel
theorem dX2_parts_14 : decode cX2_parts 14 = .ok (.iload_n 1, 1) := by decide +kernel
theorem dX2_parts_15 : decode cX2_parts 15 = .ok (.iload_n 3, 1) := by decide +kernel
theorem dX2_parts_16 : decode cX2_parts 16 = .ok (.invokestatic 107, 3) := by decide +kernel
theorem dX2_parts_19 : decode cX2_parts 19 = .ok (.ifCond .ne 14, 3) := by decide +kernel
theorem dX2_parts_22 : decode cX2_parts 22 = .ok (.iinc 2 1, 3) := by decide +kernel
theorem dX2_parts_25 : decode cX2_parts 25 = .ok (.iload_n 1, 1) := by decide +kernel
theorem dX2_parts_26 : decode cX2_parts 26 = .ok (.aload_n 0, 1) := by decide +kernel
theorem dX2_parts_27 : decode cX2_parts 27 = .ok (.iload_n 3, 1) := by decide +kernel
theorem dX2_parts_28 : decode cX2_parts 28 = .ok (.invokevirtual 117, 3) := by decide +kernel
theorem dX2_parts_31 : decode cX2_parts 31 = .ok (.ior, 1) := by decide +kernel
theorem dX2_parts_32 : decode cX2_parts 32 = .ok (.istore_n 1, 1) := by decide +kernel
theorem dX2_parts_33 : decode cX2_parts 33 = .ok (.iinc 3 1, 3) := by decide +kernel
theorem dX2_parts_36 : decode cX2_parts 36 = .ok (.goto (-30), 3) := by decide +kernel
theorem dX2_parts_39 : decode cX2_parts 39 = .ok (.iload_n 2, 1) := by decide +kernel
theorem dX2_parts_40 : decode cX2_parts 40 = .ok (.ireturn, 1) := by decide +kernel
theorem dX2_partOf_0 : decode cX2_partOf 0 = .ok (.iconst 1, 1) := by decide +kernel
theorem dX2_partOf_1 : decode cX2_partOf 1 = .ok (.iload_n 1, 1) := by decide +kernel
theorem dX2_partOf_2 : decode cX2_partOf 2 = .ok (.ishl, 1) := by decide +kernel
theorem dX2_partOf_3 : decode cX2_partOf 3 = .ok (.istore_n 2, 1) := by decide +kernel
theorem dX2_partOf_4 : decode cX2_partOf 4 = .ok (.iconst 1, 1) := by decide +kernel
theorem dX2_partOf_5 : decode cX2_partOf 5 = .ok (.istore_n 3, 1) := by decide +kernel
theorem dX2_partOf_6 : decode cX2_partOf 6 = .ok (.iload_n 3, 1) := by decide +kernel
theorem dX2_partOf_7 : decode cX2_partOf 7 = .ok (.aload_n 0, 1) := by decide +kernel
theorem dX2_partOf_8 : decode cX2_partOf 8 = .ok (.getfield 62, 3) := by decide +kernel
theorem dX2_partOf_11 : decode cX2_partOf 11 = .ok (.if_icmp .ge 46, 3) := by decide +kernel
theorem dX2_partOf_14 : decode cX2_partOf 14 = .ok (.iconst 0, 1) := by decide +kernel
theorem dX2_partOf_15 : decode cX2_partOf 15 = .ok (.istore 4, 2) := by decide +kernel
theorem dX2_partOf_17 : decode cX2_partOf 17 = .ok (.iload 4, 2) := by decide +kernel
theorem dX2_partOf_19 : decode cX2_partOf 19 = .ok (.aload_n 0, 1) := by decide +kernel
theorem dX2_partOf_20 : decode cX2_partOf 20 = .ok (.getfield 62, 3) := by decide +kernel
theorem dX2_partOf_23 : decode cX2_partOf 23 = .ok (.if_icmp .ge 28, 3) := by decide +kernel
theorem dX2_partOf_26 : decode cX2_partOf 26 = .ok (.iload_n 2, 1) := by decide +kernel
theorem dX2_partOf_27 : decode cX2_partOf 27 = .ok (.iload 4, 2) := by decide +kernel
theorem dX2_partOf_29 : decode cX2_partOf 29 = .ok (.invokestatic 107, 3) := by decide +kernel
theorem dX2_partOf_32 : decode cX2_partOf 32 = .ok (.ifCond .eq 13, 3) := by decide +kernel
theorem dX2_partOf_35 : decode cX2_partOf 35 = .ok (.iload_n 2, 1) := by decide +kernel
theorem dX2_partOf_36 : decode cX2_partOf 36 = .ok (.aload_n 0, 1) := by decide +kernel
theorem dX2_partOf_37 : decode cX2_partOf 37 = .ok (.getfield 30, 3) := by decide +kernel
theorem dX2_partOf_40 : decode cX2_partOf 40 = .ok (.iload 4, 2) := by decide +kernel
theorem dX2_partOf_42 : decode cX2_partOf 42 = .ok (.iaload, 1) := by decide +kernel
theorem dX2_partOf_43 : decode cX2_partOf 43 = .ok (.ior, 1) := by decide +kernel
theorem dX2_partOf_44 : decode cX2_partOf 44 = .ok (.istore_n 2, 1) := by decide +kernel
theorem dX2_partOf_45 : decode cX2_partOf 45 = .ok (.iinc 4 1, 3) := by decide +kernel
theorem dX2_partOf_48 : decode cX2_partOf 48 = .ok (.goto (-31), 3) := by decide +kernel
theorem dX2_partOf_51 : decode cX2_partOf 51 = .ok (.iinc 3 1, 3) := by decide +kernel
theorem dX2_partOf_54 : decode cX2_partOf 54 = .ok (.goto (-48), 3) := by decide +kernel
theorem dX2_partOf_57 : decode cX2_partOf 57 = .ok (.iload_n 2, 1) := by decide +kernel
theorem dX2_partOf_58 : decode cX2_partOf 58 = .ok (.ireturn, 1) := by decide +kernel
theorem dX2_opens_0 : decode cX2_opens 0 = .ok (.aload_n 0, 1) := by decide +kernel
theorem dX2_opens_1 : decode cX2_opens 1 = .ok (.getfield 30, 3) := by decide +kernel
theorem dX2_opens_4 : decode cX2_opens 4 = .ok (.iload_n 1, 1) := by decide +kernel
theorem dX2_opens_5 : decode cX2_opens 5 = .ok (.iaload, 1) := by decide +kernel
theorem dX2_opens_6 : decode cX2_opens 6 = .ok (.iload_n 2, 1) := by decide +kernel
theorem dX2_opens_7 : decode cX2_opens 7 = .ok (.invokestatic 107, 3) := by decide +kernel
theorem dX2_opens_10 : decode cX2_opens 10 = .ok (.ifCond .eq 20, 3) := by decide +kernel
theorem dX2_opens_13 : decode cX2_opens 13 = .ok (.aload_n 0, 1) := by decide +kernel
theorem dX2_opens_14 : decode cX2_opens 14 = .ok (.getfield 56, 3) := by decide +kernel
theorem dX2_opens_17 : decode cX2_opens 17 = .ok (.iload_n 2, 1) := by decide +kernel
theorem dX2_opens_18 : decode cX2_opens 18 = .ok (.iaload, 1) := by decide +kernel
theorem dX2_opens_19 : decode cX2_opens 19 = .ok (.iload_n 3, 1) := by decide +kernel
theorem dX2_opens_20 : decode cX2_opens 20 = .ok (.invokestatic 107, 3) := by decide +kernel
theorem dX2_opens_23 : decode cX2_opens 23 = .ok (.ifCond .eq 7, 3) := by decide +kernel
theorem dX2_opens_26 : decode cX2_opens 26 = .ok (.iconst 1, 1) := by decide +kernel
theorem dX2_opens_27 : decode cX2_opens 27 = .ok (.goto 4, 3) := by decide +kernel
theorem dX2_opens_30 : decode cX2_opens 30 = .ok (.iconst 0, 1) := by decide +kernel
theorem dX2_opens_31 : decode cX2_opens 31 = .ok (.ireturn, 1) := by decide +kernel
theorem dX2_price_0 : decode cX2_price 0 = .ok (.aload_n 0, 1) := by decide +kernel
theorem dX2_price_1 : decode cX2_price 1 = .ok (.getfield 41, 3) := by decide +kernel
theorem dX2_price_4 : decode cX2_price 4 = .ok (.iload_n 1, 1) := by decide +kernel
theorem dX2_price_5 : decode cX2_price 5 = .ok (.aaload, 1) := by decide +kernel
theorem dX2_price_6 : decode cX2_price 6 = .ok (.iload_n 2, 1) := by decide +kernel
theorem dX2_price_7 : decode cX2_price 7 = .ok (.iaload, 1) := by decide +kernel
theorem dX2_price_8 : decode cX2_price 8 = .ok (.iload_n 3, 1) := by decide +kernel
theorem dX2_price_9 : decode cX2_price 9 = .ok (.invokestatic 107, 3) := by decide +kernel
theorem dX2_price_12 : decode cX2_price 12 = .ok (.ifCond .eq 7, 3) := by decide +kernel
theorem dX2_price_15 : decode cX2_price 15 = .ok (.iconst 0, 1) := by decide +kernel
theorem dX2_price_16 : decode cX2_price 16 = .ok (.goto 9, 3) := by decide +kernel
theorem dX2_price_19 : decode cX2_price 19 = .ok (.aload_n 0, 1) := by decide +kernel
theorem dX2_price_20 : decode cX2_price 20 = .ok (.getfield 18, 3) := by decide +kernel
theorem dX2_price_23 : decode cX2_price 23 = .ok (.iload_n 2, 1) := by decide +kernel
theorem dX2_price_24 : decode cX2_price 24 = .ok (.iaload, 1) := by decide +kernel
theorem dX2_price_25 : decode cX2_price 25 = .ok (.ireturn, 1) := by decide +kernel
theorem dX2_worthOf_0 : decode cX2_worthOf 0 = .ok (.iconst 0, 1) := by decide +kernel
theorem dX2_worthOf_1 : decode cX2_worthOf 1 = .ok (.istore_n 3, 1) := by decide +kernel
theorem dX2_worthOf_2 : decode cX2_worthOf 2 = .ok (.iconst 0, 1) := by decide +kernel
theorem dX2_worthOf_3 : decode cX2_worthOf 3 = .ok (.istore 4, 2) := by decide +kernel
theorem dX2_worthOf_5 : decode cX2_worthOf 5 = .ok (.iconst 0, 1) := by decide +kernel
theorem dX2_worthOf_6 : decode cX2_worthOf 6 = .ok (.istore 5, 2) := by decide +kernel
theorem dX2_worthOf_8 : decode cX2_worthOf 8 = .ok (.iload 5, 2) := by decide +kernel
theorem dX2_worthOf_10 : decode cX2_worthOf 10 = .ok (.aload_n 0, 1) := by decide +kernel
theorem dX2_worthOf_11 : decode cX2_worthOf 11 = .ok (.getfield 66, 3) := by decide +kernel
theorem dX2_worthOf_14 : decode cX2_worthOf 14 = .ok (.if_icmp .ge 61, 3) := by decide +kernel
theorem dX2_worthOf_17 : decode cX2_worthOf 17 = .ok (.iload_n 1, 1) := by decide +kernel
theorem dX2_worthOf_18 : decode cX2_worthOf 18 = .ok (.iload 5, 2) := by decide +kernel
theorem dX2_worthOf_20 : decode cX2_worthOf 20 = .ok (.invokestatic 107, 3) := by decide +kernel
theorem dX2_worthOf_23 : decode cX2_worthOf 23 = .ok (.ifCond .eq 46, 3) := by decide +kernel
theorem dX2_worthOf_26 : decode cX2_worthOf 26 = .ok (.aload_n 0, 1) := by decide +kernel
theorem dX2_worthOf_27 : decode cX2_worthOf 27 = .ok (.getfield 56, 3) := by decide +kernel
theorem dX2_worthOf_30 : decode cX2_worthOf 30 = .ok (.iload_n 2, 1) := by decide +kernel
theorem dX2_worthOf_31 : decode cX2_worthOf 31 = .ok (.iaload, 1) := by decide +kernel
theorem dX2_worthOf_32 : decode cX2_worthOf 32 = .ok (.aload_n 0, 1) := by decide +kernel
theorem dX2_worthOf_33 : decode cX2_worthOf 33 = .ok (.getfield 44, 3) := by decide +kernel
theorem dX2_worthOf_36 : decode cX2_worthOf 36 = .ok (.iload 5, 2) := by decide +kernel
theorem dX2_worthOf_38 : decode cX2_worthOf 38 = .ok (.iaload, 1) := by decide +kernel
theorem dX2_worthOf_39 : decode cX2_worthOf 39 = .ok (.invokestatic 107, 3) := by decide +kernel
theorem dX2_worthOf_42 : decode cX2_worthOf 42 = .ok (.ifCond .ne 5, 3) := by decide +kernel
theorem dX2_worthOf_45 : decode cX2_worthOf 45 = .ok (.iconst (-1), 1) := by decide +kernel
theorem dX2_worthOf_46 : decode cX2_worthOf 46 = .ok (.ireturn, 1) := by decide +kernel
theorem dX2_worthOf_47 : decode cX2_worthOf 47 = .ok (.iload_n 3, 1) := by decide +kernel
theorem dX2_worthOf_48 : decode cX2_worthOf 48 = .ok (.aload_n 0, 1) := by decide +kernel
theorem dX2_worthOf_49 : decode cX2_worthOf 49 = .ok (.getfield 50, 3) := by decide +kernel
theorem dX2_worthOf_52 : decode cX2_worthOf 52 = .ok (.iload 5, 2) := by decide +kernel
theorem dX2_worthOf_54 : decode cX2_worthOf 54 = .ok (.iaload, 1) := by decide +kernel
theorem dX2_worthOf_55 : decode cX2_worthOf 55 = .ok (.iadd, 1) := by decide +kernel
theorem dX2_worthOf_56 : decode cX2_worthOf 56 = .ok (.istore_n 3, 1) := by decide +kernel
theorem dX2_worthOf_57 : decode cX2_worthOf 57 = .ok (.iload 4, 2) := by decide +kernel
theorem dX2_worthOf_59 : decode cX2_worthOf 59 = .ok (.aload_n 0, 1) := by decide +kernel
theorem dX2_worthOf_60 : decode cX2_worthOf 60 = .ok (.getfield 47, 3) := by decide +kernel
theorem dX2_worthOf_63 : decode cX2_worthOf 63 = .ok (.iload 5, 2) := by decide +kernel
theorem dX2_worthOf_65 : decode cX2_worthOf 65 = .ok (.iaload, 1) := by decide +kernel
theorem dX2_worthOf_66 : decode cX2_worthOf 66 = .ok (.iadd, 1) := by decide +kernel
theorem dX2_worthOf_67 : decode cX2_worthOf 67 = .ok (.istore 4, 2) := by decide +kernel
theorem dX2_worthOf_69 : decode cX2_worthOf 69 = .ok (.iinc 5 1, 3) := by decide +kernel
theorem dX2_worthOf_72 : decode cX2_worthOf 72 = .ok (.goto (-64), 3) := by decide +kernel
theorem dX2_worthOf_75 : decode cX2_worthOf 75 = .ok (.iload 4, 2) := by decide +kernel
theorem dX2_worthOf_77 : decode cX2_worthOf 77 = .ok (.aload_n 0, 1) := by decide +kernel
theorem dX2_worthOf_78 : decode cX2_worthOf 78 = .ok (.getfield 9, 3) := by decide +kernel
theorem dX2_worthOf_81 : decode cX2_worthOf 81 = .ok (.iload_n 2, 1) := by decide +kernel
theorem dX2_worthOf_82 : decode cX2_worthOf 82 = .ok (.iaload, 1) := by decide +kernel
theorem dX2_worthOf_83 : decode cX2_worthOf 83 = .ok (.if_icmp .gt 7, 3) := by decide +kernel
theorem dX2_worthOf_86 : decode cX2_worthOf 86 = .ok (.iload_n 3, 1) := by decide +kernel
theorem dX2_worthOf_87 : decode cX2_worthOf 87 = .ok (.goto 4, 3) := by decide +kernel
theorem dX2_worthOf_90 : decode cX2_worthOf 90 = .ok (.iconst (-1), 1) := by decide +kernel
theorem dX2_worthOf_91 : decode cX2_worthOf 91 = .ok (.ireturn, 1) := by decide +kernel
theorem dX2_behindNight_0 : decode cX2_behindNight 0 = .ok (.aload_n 0, 1) := by decide +kernel
theorem dX2_behindNight_1 : decode cX2_behindNight 1 = .ok (.getfield 33, 3) := by decide +kernel
theorem dX2_behindNight_4 : decode cX2_behindNight 4 = .ok (.iload_n 1, 1) := by decide +kernel
theorem dX2_behindNight_5 : decode cX2_behindNight 5 = .ok (.iaload, 1) := by decide +kernel
theorem dX2_behindNight_6 : decode cX2_behindNight 6 = .ok (.istore_n 3, 1) := by decide +kernel
theorem dX2_behindNight_7 : decode cX2_behindNight 7 = .ok (.iload_n 3, 1) := by decide +kernel
theorem dX2_behindNight_8 : decode cX2_behindNight 8 = .ok (.bipush (-9), 2) := by decide +kernel
theorem dX2_behindNight_10 : decode cX2_behindNight 10 = .ok (.if_icmp .eq 27, 3) := by decide +kernel
theorem dX2_behindNight_13 : decode cX2_behindNight 13 = .ok (.iload_n 2, 1) := by decide +kernel
theorem dX2_behindNight_14 : decode cX2_behindNight 14 = .ok (.aload_n 0, 1) := by decide +kernel
theorem dX2_behindNight_15 : decode cX2_behindNight 15 = .ok (.getfield 36, 3) := by decide +kernel
theorem dX2_behindNight_18 : decode cX2_behindNight 18 = .ok (.iload_n 1, 1) := by decide +kernel
theorem dX2_behindNight_19 : decode cX2_behindNight 19 = .ok (.iaload, 1) := by decide +kernel
theorem dX2_behindNight_20 : decode cX2_behindNight 20 = .ok (.if_icmp .gt 17, 3) := by decide +kernel
theorem dX2_behindNight_23 : decode cX2_behindNight 23 = .ok (.iload_n 2, 1) := by decide +kernel
theorem dX2_behindNight_24 : decode cX2_behindNight 24 = .ok (.aload_n 0, 1) := by decide +kernel
theorem dX2_behindNight_25 : decode cX2_behindNight 25 = .ok (.getfield 9, 3) := by decide +kernel
theorem dX2_behindNight_28 : decode cX2_behindNight 28 = .ok (.iload_n 3, 1) := by decide +kernel
theorem dX2_behindNight_29 : decode cX2_behindNight 29 = .ok (.iaload, 1) := by decide +kernel
theorem dX2_behindNight_30 : decode cX2_behindNight 30 = .ok (.if_icmp .gt 7, 3) := by decide +kernel
theorem dX2_behindNight_33 : decode cX2_behindNight 33 = .ok (.iload_n 3, 1) := by decide +kernel
theorem dX2_behindNight_34 : decode cX2_behindNight 34 = .ok (.goto 4, 3) := by decide +kernel
theorem dX2_behindNight_37 : decode cX2_behindNight 37 = .ok (.iload_n 1, 1) := by decide +kernel
theorem dX2_behindNight_38 : decode cX2_behindNight 38 = .ok (.ireturn, 1) := by decide +kernel
theorem dX2_behindNights_0 : decode cX2_behindNights 0 = .ok (.iload_n 1, 1) := by decide +kernel
theorem dX2_behindNights_1 : decode cX2_behindNights 1 = .ok (.istore 4, 2) := by decide +kernel
theorem dX2_behindNights_3 : decode cX2_behindNights 3 = .ok (.iconst 0, 1) := by decide +kernel
theorem dX2_behindNights_4 : decode cX2_behindNights 4 = .ok (.istore 5, 2) := by decide +kernel
theorem dX2_behindNights_6 : decode cX2_behindNights 6 = .ok (.iload 5, 2) := by decide +kernel
theorem dX2_behindNights_8 : decode cX2_behindNights 8 = .ok (.iload_n 3, 1) := by decide +kernel
theorem dX2_behindNights_9 : decode cX2_behindNights 9 = .ok (.if_icmp .ge 18, 3) := by decide +kernel
theorem dX2_behindNights_12 : decode cX2_behindNights 12 = .ok (.aload_n 0, 1) := by decide +kernel
theorem dX2_behindNights_13 : decode cX2_behindNights 13 = .ok (.iload 4, 2) := by decide +kernel
theorem dX2_behindNights_15 : decode cX2_behindNights 15 = .ok (.iload_n 2, 1) := by decide +kernel
theorem dX2_behindNights_16 : decode cX2_behindNights 16 = .ok (.invokevirtual 121, 3) := by decide +kernel
theorem dX2_behindNights_19 : decode cX2_behindNights 19 = .ok (.istore 4, 2) := by decide +kernel
theorem dX2_behindNights_21 : decode cX2_behindNights 21 = .ok (.iinc 5 1, 3) := by decide +kernel
theorem dX2_behindNights_24 : decode cX2_behindNights 24 = .ok (.goto (-18), 3) := by decide +kernel
theorem dX2_behindNights_27 : decode cX2_behindNights 27 = .ok (.iload 4, 2) := by decide +kernel
theorem dX2_behindNights_29 : decode cX2_behindNights 29 = .ok (.ireturn, 1) := by decide +kernel
theorem dX2_dropsAsFarAs_0 : decode cX2_dropsAsFarAs 0 = .ok (.iload_n 1, 1) := by decide +kernel
theorem dX2_dropsAsFarAs_1 : decode cX2_dropsAsFarAs 1 = .ok (.istore 4, 2) := by decide +kernel
theorem dX2_dropsAsFarAs_3 : decode cX2_dropsAsFarAs 3 = .ok (.iconst 0, 1) := by decide +kernel
theorem dX2_dropsAsFarAs_4 : decode cX2_dropsAsFarAs 4 = .ok (.istore 5, 2) := by decide +kernel
theorem dX2_dropsAsFarAs_6 : decode cX2_dropsAsFarAs 6 = .ok (.iload 5, 2) := by decide +kernel
theorem dX2_dropsAsFarAs_8 : decode cX2_dropsAsFarAs 8 = .ok (.aload_n 0, 1) := by decide +kernel
theorem dX2_dropsAsFarAs_9 : decode cX2_dropsAsFarAs 9 = .ok (.getfield 62, 3) := by decide +kernel
theorem dX2_dropsAsFarAs_12 : decode cX2_dropsAsFarAs 12 = .ok (.if_icmp .ge 35, 3) := by decide +kernel
theorem dX2_dropsAsFarAs_15 : decode cX2_dropsAsFarAs 15 = .ok (.iload 4, 2) := by decide +kernel
theorem dX2_dropsAsFarAs_17 : decode cX2_dropsAsFarAs 17 = .ok (.iload_n 2, 1) := by decide +kernel
theorem dX2_dropsAsFarAs_18 : decode cX2_dropsAsFarAs 18 = .ok (.if_icmp .eq 29, 3) := by decide +kernel
theorem dX2_dropsAsFarAs_21 : decode cX2_dropsAsFarAs 21 = .ok (.iload 4, 2) := by decide +kernel
theorem dX2_dropsAsFarAs_23 : decode cX2_dropsAsFarAs 23 = .ok (.iload_n 3, 1) := by decide +kernel
theorem dX2_dropsAsFarAs_24 : decode cX2_dropsAsFarAs 24 = .ok (.if_icmp .ne 8, 3) := by decide +kernel
theorem dX2_dropsAsFarAs_27 : decode cX2_dropsAsFarAs 27 = .ok (.iload 4, 2) := by decide +kernel
theorem dX2_dropsAsFarAs_29 : decode cX2_dropsAsFarAs 29 = .ok (.goto 10, 3) := by decide +kernel
theorem dX2_dropsAsFarAs_32 : decode cX2_dropsAsFarAs 32 = .ok (.aload_n 0, 1) := by decide +kernel
theorem dX2_dropsAsFarAs_33 : decode cX2_dropsAsFarAs 33 = .ok (.iload 4, 2) := by decide +kernel
theorem dX2_dropsAsFarAs_35 : decode cX2_dropsAsFarAs 35 = .ok (.iconst 1, 1) := by decide +kernel
theorem dX2_dropsAsFarAs_36 : decode cX2_dropsAsFarAs 36 = .ok (.invokevirtual 121, 3) := by decide +kernel
theorem dX2_dropsAsFarAs_39 : decode cX2_dropsAsFarAs 39 = .ok (.istore 4, 2) := by decide +kernel
theorem dX2_dropsAsFarAs_41 : decode cX2_dropsAsFarAs 41 = .ok (.iinc 5 1, 3) := by decide +kernel
theorem dX2_dropsAsFarAs_44 : decode cX2_dropsAsFarAs 44 = .ok (.goto (-38), 3) := by decide +kernel
theorem dX2_dropsAsFarAs_47 : decode cX2_dropsAsFarAs 47 = .ok (.iload 4, 2) := by decide +kernel
theorem dX2_dropsAsFarAs_49 : decode cX2_dropsAsFarAs 49 = .ok (.iload_n 2, 1) := by decide +kernel
theorem dX2_dropsAsFarAs_50 : decode cX2_dropsAsFarAs 50 = .ok (.if_icmp .ne 7, 3) := by decide +kernel
theorem dX2_dropsAsFarAs_53 : decode cX2_dropsAsFarAs 53 = .ok (.iconst 1, 1) := by decide +kernel
theorem dX2_dropsAsFarAs_54 : decode cX2_dropsAsFarAs 54 = .ok (.goto 4, 3) := by decide +kernel
theorem dX2_dropsAsFarAs_57 : decode cX2_dropsAsFarAs 57 = .ok (.iconst 0, 1) := by decide +kernel
theorem dX2_dropsAsFarAs_58 : decode cX2_dropsAsFarAs 58 = .ok (.ireturn, 1) := by decide +kernel
theorem dX2_firstStitch_0 : decode cX2_firstStitch 0 = .ok (.iconst 0, 1) := by decide +kernel
theorem dX2_firstStitch_1 : decode cX2_firstStitch 1 = .ok (.istore_n 3, 1) := by decide +kernel
theorem dX2_firstStitch_2 : decode cX2_firstStitch 2 = .ok (.iload_n 3, 1) := by decide +kernel
theorem dX2_firstStitch_3 : decode cX2_firstStitch 3 = .ok (.aload_n 0, 1) := by decide +kernel
theorem dX2_firstStitch_4 : decode cX2_firstStitch 4 = .ok (.getfield 62, 3) := by decide +kernel
theorem dX2_firstStitch_7 : decode cX2_firstStitch 7 = .ok (.if_icmp .ge 21, 3) := by decide +kernel
theorem dX2_firstStitch_10 : decode cX2_firstStitch 10 = .ok (.aload_n 0, 1) := by decide +kernel
theorem dX2_firstStitch_11 : decode cX2_firstStitch 11 = .ok (.iload_n 1, 1) := by decide +kernel
theorem dX2_firstStitch_12 : decode cX2_firstStitch 12 = .ok (.iload_n 2, 1) := by decide +kernel
theorem dX2_firstStitch_13 : decode cX2_firstStitch 13 = .ok (.iload_n 3, 1) := by decide +kernel
theorem dX2_firstStitch_14 : decode cX2_firstStitch 14 = .ok (.invokevirtual 125, 3) := by decide +kernel
theorem dX2_firstStitch_17 : decode cX2_firstStitch 17 = .ok (.ifCond .ne 5, 3) := by decide +kernel
theorem dX2_firstStitch_20 : decode cX2_firstStitch 20 = .ok (.iload_n 3, 1) := by decide +kernel
theorem dX2_firstStitch_21 : decode cX2_firstStitch 21 = .ok (.ireturn, 1) := by decide +kernel
theorem dX2_firstStitch_22 : decode cX2_firstStitch 22 = .ok (.iinc 3 1, 3) := by decide +kernel
theorem dX2_firstStitch_25 : decode cX2_firstStitch 25 = .ok (.goto (-23), 3) := by decide +kernel
theorem dX2_firstStitch_28 : decode cX2_firstStitch 28 = .ok (.bipush (-9), 2) := by decide +kernel
theorem dX2_firstStitch_30 : decode cX2_firstStitch 30 = .ok (.ireturn, 1) := by decide +kernel
theorem dX3_init_0 : decode cX3_init 0 = .ok (.aload_n 0, 1) := by decide +kernel
theorem dX3_init_1 : decode cX3_init 1 = .ok (.invokespecial 3, 3) := by decide +kernel
theorem dX3_init_4 : decode cX3_init 4 = .ok (.aload_n 0, 1) := by decide +kernel
theorem dX3_init_5 : decode cX3_init 5 = .ok (.bipush 6, 2) := by decide +kernel
theorem dX3_init_7 : decode cX3_init 7 = .ok (.newarray .int, 2) := by decide +kernel
theorem dX3_init_9 : decode cX3_init 9 = .ok (.putfield 9, 3) := by decide +kernel
theorem dX3_init_12 : decode cX3_init 12 = .ok (.aload_n 0, 1) := by decide +kernel
theorem dX3_init_13 : decode cX3_init 13 = .ok (.bipush 6, 2) := by decide +kernel
theorem dX3_init_15 : decode cX3_init 15 = .ok (.newarray .int, 2) := by decide +kernel
theorem dX3_init_17 : decode cX3_init 17 = .ok (.putfield 15, 3) := by decide +kernel
theorem dX3_init_20 : decode cX3_init 20 = .ok (.return_, 1) := by decide +kernel
theorem dX3_fewestMoved_0 : decode cX3_fewestMoved 0 = .ok (.aload_n 1, 1) := by decide +kernel
theorem dX3_fewestMoved_1 : decode cX3_fewestMoved 1 = .ok (.invokestatic 18, 3) := by decide +kernel
theorem dX3_fewestMoved_4 : decode cX3_fewestMoved 4 = .ok (.ifCond .ne 6, 3) := by decide +kernel
theorem dX3_fewestMoved_7 : decode cX3_fewestMoved 7 = .ok (.bipush (-9), 2) := by decide +kernel
theorem dX3_fewestMoved_9 : decode cX3_fewestMoved 9 = .ok (.ireturn, 1) := by decide +kernel
theorem dX3_fewestMoved_10 : decode cX3_fewestMoved 10 = .ok (.iconst 0, 1) := by decide +kernel
theorem dX3_fewestMoved_11 : decode cX3_fewestMoved 11 = .ok (.istore_n 3, 1) := by decide +kernel
theorem dX3_fewestMoved_12 : decode cX3_fewestMoved 12 = .ok (.iload_n 3, 1) := by decide +kernel
theorem dX3_fewestMoved_13 : decode cX3_fewestMoved 13 = .ok (.aload_n 1, 1) := by decide +kernel
theorem dX3_fewestMoved_14 : decode cX3_fewestMoved 14 = .ok (.getfield 22, 3) := by decide +kernel
theorem dX3_fewestMoved_17 : decode cX3_fewestMoved 17 = .ok (.if_icmp .gt 30, 3) := by decide +kernel
theorem dX3_fewestMoved_20 : decode cX3_fewestMoved 20 = .ok (.aload_n 0, 1) := by decide +kernel
theorem dX3_fewestMoved_21 : decode cX3_fewestMoved 21 = .ok (.getfield 15, 3) := by decide +kernel
theorem dX3_fewestMoved_24 : decode cX3_fewestMoved 24 = .ok (.iconst 0, 1) := by decide +kernel
theorem dX3_fewestMoved_25 : decode cX3_fewestMoved 25 = .ok (.invokestatic 28, 3) := by decide +kernel
theorem dX3_fewestMoved_28 : decode cX3_fewestMoved 28 = .ok (.aload_n 0, 1) := by decide +kernel
theorem dX3_fewestMoved_29 : decode cX3_fewestMoved 29 = .ok (.aload_n 1, 1) := by decide +kernel
theorem dX3_fewestMoved_30 : decode cX3_fewestMoved 30 = .ok (.aload_n 2, 1) := by decide +kernel
theorem dX3_fewestMoved_31 : decode cX3_fewestMoved 31 = .ok (.iconst 0, 1) := by decide +kernel
theorem dX3_fewestMoved_32 : decode cX3_fewestMoved 32 = .ok (.iload_n 3, 1) := by decide +kernel
theorem dX3_fewestMoved_33 : decode cX3_fewestMoved 33 = .ok (.invokestatic 34, 3) := by decide +kernel
theorem dX3_fewestMoved_36 : decode cX3_fewestMoved 36 = .ok (.ifCond .eq 5, 3) := by decide +kernel
theorem dX3_fewestMoved_39 : decode cX3_fewestMoved 39 = .ok (.iload_n 3, 1) := by decide +kernel
theorem dX3_fewestMoved_40 : decode cX3_fewestMoved 40 = .ok (.ireturn, 1) := by decide +kernel
theorem dX3_fewestMoved_41 : decode cX3_fewestMoved 41 = .ok (.iinc 3 1, 3) := by decide +kernel
theorem dX3_fewestMoved_44 : decode cX3_fewestMoved 44 = .ok (.goto (-32), 3) := by decide +kernel
theorem dX3_fewestMoved_47 : decode cX3_fewestMoved 47 = .ok (.bipush (-9), 2) := by decide +kernel
theorem dX3_fewestMoved_49 : decode cX3_fewestMoved 49 = .ok (.ireturn, 1) := by decide +kernel
theorem dX3_eachHasAPlace_0 : decode cX3_eachHasAPlace 0 = .ok (.iconst 0, 1) := by decide +kernel
theorem dX3_eachHasAPlace_1 : decode cX3_eachHasAPlace 1 = .ok (.istore_n 1, 1) := by decide +kernel
theorem dX3_eachHasAPlace_2 : decode cX3_eachHasAPlace 2 = .ok (.iload_n 1, 1) := by decide +kernel
theorem dX3_eachHasAPlace_3 : decode cX3_eachHasAPlace 3 = .ok (.aload_n 0, 1) := by decide +kernel
theorem dX3_eachHasAPlace_4 : decode cX3_eachHasAPlace 4 = .ok (.getfield 22, 3) := by decide +kernel
theorem dX3_eachHasAPlace_7 : decode cX3_eachHasAPlace 7 = .ok (.if_icmp .ge 69, 3) := by decide +kernel
theorem dX3_eachHasAPlace_10 : decode cX3_eachHasAPlace 10 = .ok (.iconst 0, 1) := by decide +kernel
theorem dX3_eachHasAPlace_11 : decode cX3_eachHasAPlace 11 = .ok (.istore_n 2, 1) := by decide +kernel
theorem dX3_eachHasAPlace_12 : decode cX3_eachHasAPlace 12 = .ok (.iconst 0, 1) := by decide +kernel
theorem dX3_eachHasAPlace_13 : decode cX3_eachHasAPlace 13 = .ok (.istore_n 3, 1) := by decide +kernel
theorem dX3_eachHasAPlace_14 : decode cX3_eachHasAPlace 14 = .ok (.iload_n 3, 1) := by decide +kernel
theorem dX3_eachHasAPlace_15 : decode cX3_eachHasAPlace 15 = .ok (.aload_n 0, 1) := by decide +kernel
theorem dX3_eachHasAPlace_16 : decode cX3_eachHasAPlace 16 = .ok (.getfield 38, 3) := by decide +kernel
theorem dX3_eachHasAPlace_19 : decode cX3_eachHasAPlace 19 = .ok (.if_icmp .ge 45, 3) := by decide +kernel
theorem dX3_eachHasAPlace_22 : decode cX3_eachHasAPlace 22 = .ok (.aload_n 0, 1) := by decide +kernel
theorem dX3_eachHasAPlace_23 : decode cX3_eachHasAPlace 23 = .ok (.getfield 41, 3) := by decide +kernel
theorem dX3_eachHasAPlace_26 : decode cX3_eachHasAPlace 26 = .ok (.iload_n 3, 1) := by decide +kernel
theorem dX3_eachHasAPlace_27 : decode cX3_eachHasAPlace 27 = .ok (.iaload, 1) := by decide +kernel
theorem dX3_eachHasAPlace_28 : decode cX3_eachHasAPlace 28 = .ok (.aload_n 0, 1) := by decide +kernel
theorem dX3_eachHasAPlace_29 : decode cX3_eachHasAPlace 29 = .ok (.getfield 44, 3) := by decide +kernel
theorem dX3_eachHasAPlace_32 : decode cX3_eachHasAPlace 32 = .ok (.iload_n 1, 1) := by decide +kernel
theorem dX3_eachHasAPlace_33 : decode cX3_eachHasAPlace 33 = .ok (.iaload, 1) := by decide +kernel
theorem dX3_eachHasAPlace_34 : decode cX3_eachHasAPlace 34 = .ok (.invokestatic 47, 3) := by decide +kernel
theorem dX3_eachHasAPlace_37 : decode cX3_eachHasAPlace 37 = .ok (.ifCond .eq 21, 3) := by decide +kernel
theorem dX3_eachHasAPlace_40 : decode cX3_eachHasAPlace 40 = .ok (.aload_n 0, 1) := by decide +kernel
theorem dX3_eachHasAPlace_41 : decode cX3_eachHasAPlace 41 = .ok (.getfield 51, 3) := by decide +kernel
theorem dX3_eachHasAPlace_44 : decode cX3_eachHasAPlace 44 = .ok (.iload_n 1, 1) := by decide +kernel
theorem dX3_eachHasAPlace_45 : decode cX3_eachHasAPlace 45 = .ok (.iaload, 1) := by decide +kernel
theorem dX3_eachHasAPlace_46 : decode cX3_eachHasAPlace 46 = .ok (.aload_n 0, 1) := by decide +kernel
theorem dX3_eachHasAPlace_47 : decode cX3_eachHasAPlace 47 = .ok (.getfield 54, 3) := by decide +kernel
theorem dX3_eachHasAPlace_50 : decode cX3_eachHasAPlace 50 = .ok (.iload_n 3, 1) := by decide +kernel
theorem dX3_eachHasAPlace_51 : decode cX3_eachHasAPlace 51 = .ok (.iaload, 1) := by decide +kernel
theorem dX3_eachHasAPlace_52 : decode cX3_eachHasAPlace 52 = .ok (.if_icmp .gt 6, 3) := by decide +kernel
theorem dX3_eachHasAPlace_55 : decode cX3_eachHasAPlace 55 = .ok (.iinc 2 1, 3) := by decide +kernel
theorem dX3_eachHasAPlace_58 : decode cX3_eachHasAPlace 58 = .ok (.iinc 3 1, 3) := by decide +kernel
theorem dX3_eachHasAPlace_61 : decode cX3_eachHasAPlace 61 = .ok (.goto (-47), 3) := by decide +kernel
theorem dX3_eachHasAPlace_64 : decode cX3_eachHasAPlace 64 = .ok (.iload_n 2, 1) := by decide +kernel
theorem dX3_eachHasAPlace_65 : decode cX3_eachHasAPlace 65 = .ok (.ifCond .ne 5, 3) := by decide +kernel
theorem dX3_eachHasAPlace_68 : decode cX3_eachHasAPlace 68 = .ok (.iconst 0, 1) := by decide +kernel
theorem dX3_eachHasAPlace_69 : decode cX3_eachHasAPlace 69 = .ok (.ireturn, 1) := by decide +kernel
theorem dX3_eachHasAPlace_70 : decode cX3_eachHasAPlace 70 = .ok (.iinc 1 1, 3) := by decide +kernel
theorem dX3_eachHasAPlace_73 : decode cX3_eachHasAPlace 73 = .ok (.goto (-71), 3) := by decide +kernel
theorem dX3_eachHasAPlace_76 : decode cX3_eachHasAPlace 76 = .ok (.iconst 1, 1) := by decide +kernel
theorem dX3_eachHasAPlace_77 : decode cX3_eachHasAPlace 77 = .ok (.ireturn, 1) := by decide +kernel
theorem dX3_putFrom_0 : decode cX3_putFrom 0 = .ok (.iload_n 3, 1) := by decide +kernel
theorem dX3_putFrom_1 : decode cX3_putFrom 1 = .ok (.aload_n 1, 1) := by decide +kernel
theorem dX3_putFrom_2 : decode cX3_putFrom 2 = .ok (.getfield 22, 3) := by decide +kernel
theorem dX3_putFrom_5 : decode cX3_putFrom 5 = .ok (.if_icmp .lt 5, 3) := by decide +kernel
theorem dX3_putFrom_8 : decode cX3_putFrom 8 = .ok (.iconst 1, 1) := by decide +kernel
theorem dX3_putFrom_9 : decode cX3_putFrom 9 = .ok (.ireturn, 1) := by decide +kernel
theorem dX3_putFrom_10 : decode cX3_putFrom 10 = .ok (.aload_n 1, 1) := by decide +kernel
theorem dX3_putFrom_11 : decode cX3_putFrom 11 = .ok (.getfield 51, 3) := by decide +kernel
theorem dX3_putFrom_14 : decode cX3_putFrom 14 = .ok (.iload_n 3, 1) := by decide +kernel
theorem dX3_putFrom_15 : decode cX3_putFrom 15 = .ok (.iaload, 1) := by decide +kernel
theorem dX3_putFrom_16 : decode cX3_putFrom 16 = .ok (.istore 5, 2) := by decide +kernel
theorem dX3_putFrom_18 : decode cX3_putFrom 18 = .ok (.iconst 0, 1) := by decide +kernel
theorem dX3_putFrom_19 : decode cX3_putFrom 19 = .ok (.istore 6, 2) := by decide +kernel
theorem dX3_putFrom_21 : decode cX3_putFrom 21 = .ok (.iload 6, 2) := by decide +kernel
theorem dX3_putFrom_23 : decode cX3_putFrom 23 = .ok (.aload_n 1, 1) := by decide +kernel
theorem dX3_putFrom_24 : decode cX3_putFrom 24 = .ok (.getfield 38, 3) := by decide +kernel
theorem dX3_putFrom_27 : decode cX3_putFrom 27 = .ok (.if_icmp .ge 123, 3) := by decide +kernel
theorem dX3_putFrom_30 : decode cX3_putFrom 30 = .ok (.iload 6, 2) := by decide +kernel
theorem dX3_putFrom_32 : decode cX3_putFrom 32 = .ok (.aload_n 2, 1) := by decide +kernel
theorem dX3_putFrom_33 : decode cX3_putFrom 33 = .ok (.getfield 57, 3) := by decide +kernel
theorem dX3_putFrom_36 : decode cX3_putFrom 36 = .ok (.iload_n 3, 1) := by decide +kernel
theorem dX3_putFrom_37 : decode cX3_putFrom 37 = .ok (.iaload, 1) := by decide +kernel
theorem dX3_putFrom_38 : decode cX3_putFrom 38 = .ok (.if_icmp .ne 8, 3) := by decide +kernel
theorem dX3_putFrom_41 : decode cX3_putFrom 41 = .ok (.iload 4, 2) := by decide +kernel
theorem dX3_putFrom_43 : decode cX3_putFrom 43 = .ok (.goto 7, 3) := by decide +kernel
theorem dX3_putFrom_46 : decode cX3_putFrom 46 = .ok (.iload 4, 2) := by decide +kernel
theorem dX3_putFrom_48 : decode cX3_putFrom 48 = .ok (.iconst 1, 1) := by decide +kernel
theorem dX3_putFrom_49 : decode cX3_putFrom 49 = .ok (.isub, 1) := by decide +kernel
theorem dX3_putFrom_50 : decode cX3_putFrom 50 = .ok (.istore 7, 2) := by decide +kernel
theorem dX3_putFrom_52 : decode cX3_putFrom 52 = .ok (.iload 7, 2) := by decide +kernel
theorem dX3_putFrom_54 : decode cX3_putFrom 54 = .ok (.ifCond .lt 90, 3) := by decide +kernel
theorem dX3_putFrom_57 : decode cX3_putFrom 57 = .ok (.aload_n 1, 1) := by decide +kernel
theorem dX3_putFrom_58 : decode cX3_putFrom 58 = .ok (.getfield 41, 3) := by decide +kernel
theorem dX3_putFrom_61 : decode cX3_putFrom 61 = .ok (.iload 6, 2) := by decide +kernel
theorem dX3_putFrom_63 : decode cX3_putFrom 63 = .ok (.iaload, 1) := by decide +kernel
theorem dX3_putFrom_64 : decode cX3_putFrom 64 = .ok (.aload_n 1, 1) := by decide +kernel
theorem dX3_putFrom_65 : decode cX3_putFrom 65 = .ok (.getfield 44, 3) := by decide +kernel
theorem dX3_putFrom_68 : decode cX3_putFrom 68 = .ok (.iload_n 3, 1) := by decide +kernel
theorem dX3_putFrom_69 : decode cX3_putFrom 69 = .ok (.iaload, 1) := by decide +kernel
theorem dX3_putFrom_70 : decode cX3_putFrom 70 = .ok (.invokestatic 47, 3) := by decide +kernel
theorem dX3_putFrom_73 : decode cX3_putFrom 73 = .ok (.ifCond .eq 71, 3) := by decide +kernel
theorem dX3_putFrom_76 : decode cX3_putFrom 76 = .ok (.aload_n 0, 1) := by decide +kernel
theorem dX3_putFrom_77 : decode cX3_putFrom 77 = .ok (.getfield 15, 3) := by decide +kernel
theorem dX3_putFrom_80 : decode cX3_putFrom 80 = .ok (.iload 6, 2) := by decide +kernel
theorem dX3_putFrom_82 : decode cX3_putFrom 82 = .ok (.iaload, 1) := by decide +kernel
theorem dX3_putFrom_83 : decode cX3_putFrom 83 = .ok (.iload 5, 2) := by decide +kernel
theorem dX3_putFrom_85 : decode cX3_putFrom 85 = .ok (.iadd, 1) := by decide +kernel
theorem dX3_putFrom_86 : decode cX3_putFrom 86 = .ok (.aload_n 1, 1) := by decide +kernel
theorem dX3_putFrom_87 : decode cX3_putFrom 87 = .ok (.getfield 54, 3) := by decide +kernel
theorem dX3_putFrom_90 : decode cX3_putFrom 90 = .ok (.iload 6, 2) := by decide +kernel
theorem dX3_putFrom_92 : decode cX3_putFrom 92 = .ok (.iaload, 1) := by decide +kernel
theorem dX3_putFrom_93 : decode cX3_putFrom 93 = .ok (.if_icmp .gt 51, 3) := by decide +kernel
theorem dX3_putFrom_96 : decode cX3_putFrom 96 = .ok (.aload_n 0, 1) := by decide +kernel
theorem dX3_putFrom_97 : decode cX3_putFrom 97 = .ok (.getfield 9, 3) := by decide +kernel
theorem dX3_putFrom_100 : decode cX3_putFrom 100 = .ok (.iload_n 3, 1) := by decide +kernel
theorem dX3_putFrom_101 : decode cX3_putFrom 101 = .ok (.iload 6, 2) := by decide +kernel
theorem dX3_putFrom_103 : decode cX3_putFrom 103 = .ok (.iastore, 1) := by decide +kernel
theorem dX3_putFrom_104 : decode cX3_putFrom 104 = .ok (.aload_n 0, 1) := by decide +kernel
theorem dX3_putFrom_105 : decode cX3_putFrom 105 = .ok (.getfield 15, 3) := by decide +kernel
theorem dX3_putFrom_108 : decode cX3_putFrom 108 = .ok (.iload 6, 2) := by decide +kernel
theorem dX3_putFrom_110 : decode cX3_putFrom 110 = .ok (.dup2, 1) := by decide +kernel
theorem dX3_putFrom_111 : decode cX3_putFrom 111 = .ok (.iaload, 1) := by decide +kernel
theorem dX3_putFrom_112 : decode cX3_putFrom 112 = .ok (.iload 5, 2) := by decide +kernel
theorem dX3_putFrom_114 : decode cX3_putFrom 114 = .ok (.iadd, 1) := by decide +kernel
theorem dX3_putFrom_115 : decode cX3_putFrom 115 = .ok (.iastore, 1) := by decide +kernel
theorem dX3_putFrom_116 : decode cX3_putFrom 116 = .ok (.aload_n 0, 1) := by decide +kernel
theorem dX3_putFrom_117 : decode cX3_putFrom 117 = .ok (.aload_n 1, 1) := by decide +kernel
theorem dX3_putFrom_118 : decode cX3_putFrom 118 = .ok (.aload_n 2, 1) := by decide +kernel
theorem dX3_putFrom_119 : decode cX3_putFrom 119 = .ok (.iload_n 3, 1) := by decide +kernel
theorem dX3_putFrom_120 : decode cX3_putFrom 120 = .ok (.iconst 1, 1) := by decide +kernel
theorem dX3_putFrom_121 : decode cX3_putFrom 121 = .ok (.iadd, 1) := by decide +kernel
theorem dX3_putFrom_122 : decode cX3_putFrom 122 = .ok (.iload 7, 2) := by decide +kernel
theorem dX3_putFrom_124 : decode cX3_putFrom 124 = .ok (.invokestatic 34, 3) := by decide +kernel
theorem dX3_putFrom_127 : decode cX3_putFrom 127 = .ok (.ifCond .eq 5, 3) := by decide +kernel
theorem dX3_putFrom_130 : decode cX3_putFrom 130 = .ok (.iconst 1, 1) := by decide +kernel
theorem dX3_putFrom_131 : decode cX3_putFrom 131 = .ok (.ireturn, 1) := by decide +kernel
theorem dX3_putFrom_132 : decode cX3_putFrom 132 = .ok (.aload_n 0, 1) := by decide +kernel
theorem dX3_putFrom_133 : decode cX3_putFrom 133 = .ok (.getfield 15, 3) := by decide +kernel
theorem dX3_putFrom_136 : decode cX3_putFrom 136 = .ok (.iload 6, 2) := by decide +kernel
theorem dX3_putFrom_138 : decode cX3_putFrom 138 = .ok (.dup2, 1) := by decide +kernel
theorem dX3_putFrom_139 : decode cX3_putFrom 139 = .ok (.iaload, 1) := by decide +kernel
theorem dX3_putFrom_140 : decode cX3_putFrom 140 = .ok (.iload 5, 2) := by decide +kernel
theorem dX3_putFrom_142 : decode cX3_putFrom 142 = .ok (.isub, 1) := by decide +kernel
theorem dX3_putFrom_143 : decode cX3_putFrom 143 = .ok (.iastore, 1) := by decide +kernel
theorem dX3_putFrom_144 : decode cX3_putFrom 144 = .ok (.iinc 6 1, 3) := by decide +kernel
theorem dX3_putFrom_147 : decode cX3_putFrom 147 = .ok (.goto (-126), 3) := by decide +kernel
theorem dX3_putFrom_150 : decode cX3_putFrom 150 = .ok (.iconst 0, 1) := by decide +kernel
theorem dX3_putFrom_151 : decode cX3_putFrom 151 = .ok (.ireturn, 1) := by decide +kernel
theorem dX4_init_0 : decode cX4_init 0 = .ok (.aload_n 0, 1) := by decide +kernel
theorem dX4_init_1 : decode cX4_init 1 = .ok (.invokespecial 3, 3) := by decide +kernel
theorem dX4_init_4 : decode cX4_init 4 = .ok (.aload_n 0, 1) := by decide +kernel
theorem dX4_init_5 : decode cX4_init 5 = .ok (.sipush 200, 3) := by decide +kernel
theorem dX4_init_8 : decode cX4_init 8 = .ok (.newarray .int, 2) := by decide +kernel
theorem dX4_init_10 : decode cX4_init 10 = .ok (.putfield 9, 3) := by decide +kernel
theorem dX4_init_13 : decode cX4_init 13 = .ok (.aload_n 0, 1) := by decide +kernel
theorem dX4_init_14 : decode cX4_init 14 = .ok (.iconst 4, 1) := by decide +kernel
theorem dX4_init_15 : decode cX4_init 15 = .ok (.newarray .int, 2) := by decide +kernel
theorem dX4_init_17 : decode cX4_init 17 = .ok (.putfield 15, 3) := by decide +kernel
theorem dX4_init_20 : decode cX4_init 20 = .ok (.return_, 1) := by decide +kernel
theorem dX4_readInto_0 : decode cX4_readInto 0 = .ok (.aload_n 1, 1) := by decide +kernel
theorem dX4_readInto_1 : decode cX4_readInto 1 = .ok (.invokevirtual 18, 3) := by decide +kernel
theorem dX4_readInto_4 : decode cX4_readInto 4 = .ok (.aload_n 0, 1) := by decide +kernel
theorem dX4_readInto_5 : decode cX4_readInto 5 = .ok (.iconst 0, 1) := by decide +kernel
theorem dX4_readInto_6 : decode cX4_readInto 6 = .ok (.putfield 23, 3) := by decide +kernel
theorem dX4_readInto_9 : decode cX4_readInto 9 = .ok (.iconst 0, 1) := by decide +kernel
theorem dX4_readInto_10 : decode cX4_readInto 10 = .ok (.istore_n 2, 1) := by decide +kernel
theorem dX4_readInto_11 : decode cX4_readInto 11 = .ok (.aload_n 0, 1) := by decide +kernel
theorem dX4_readInto_12 : decode cX4_readInto 12 = .ok (.invokevirtual 27, 3) := by decide +kernel
theorem dX4_readInto_15 : decode cX4_readInto 15 = .ok (.iconst 0, 1) := by decide +kernel
theorem dX4_readInto_16 : decode cX4_readInto 16 = .ok (.istore_n 3, 1) := by decide +kernel
theorem dX4_readInto_17 : decode cX4_readInto 17 = .ok (.iload_n 3, 1) := by decide +kernel
theorem dX4_readInto_18 : decode cX4_readInto 18 = .ok (.sipush 200, 3) := by decide +kernel
theorem dX4_readInto_21 : decode cX4_readInto 21 = .ok (.if_icmp .ge 42, 3) := by decide +kernel
theorem dX4_readInto_24 : decode cX4_readInto 24 = .ok (.aload_n 0, 1) := by decide +kernel
theorem dX4_readInto_25 : decode cX4_readInto 25 = .ok (.getfield 30, 3) := by decide +kernel
theorem dX4_readInto_28 : decode cX4_readInto 28 = .ok (.sipush 257, 3) := by decide +kernel
theorem dX4_readInto_31 : decode cX4_readInto 31 = .ok (.if_icmp .eq 32, 3) := by decide +kernel
theorem dX4_readInto_34 : decode cX4_readInto 34 = .ok (.aload_n 0, 1) := by decide +kernel
theorem dX4_readInto_35 : decode cX4_readInto 35 = .ok (.aload_n 1, 1) := by decide +kernel
theorem dX4_readInto_36 : decode cX4_readInto 36 = .ok (.invokevirtual 33, 3) := by decide +kernel
theorem dX4_readInto_39 : decode cX4_readInto 39 = .ok (.ifCond .ne 11, 3) := by decide +kernel
theorem dX4_readInto_42 : decode cX4_readInto 42 = .ok (.bipush (-10), 2) := by decide +kernel
theorem dX4_readInto_44 : decode cX4_readInto 44 = .ok (.aload_n 0, 1) := by decide +kernel
theorem dX4_readInto_45 : decode cX4_readInto 45 = .ok (.getfield 37, 3) := by decide +kernel
theorem dX4_readInto_48 : decode cX4_readInto 48 = .ok (.isub, 1) := by decide +kernel
theorem dX4_readInto_49 : decode cX4_readInto 49 = .ok (.ireturn, 1) := by decide +kernel
theorem dX4_readInto_50 : decode cX4_readInto 50 = .ok (.iinc 2 1, 3) := by decide +kernel
theorem dX4_readInto_53 : decode cX4_readInto 53 = .ok (.aload_n 0, 1) := by decide +kernel
theorem dX4_readInto_54 : decode cX4_readInto 54 = .ok (.invokevirtual 27, 3) := by decide +kernel
theorem dX4_readInto_57 : decode cX4_readInto 57 = .ok (.iinc 3 1, 3) := by decide +kernel
theorem dX4_readInto_60 : decode cX4_readInto 60 = .ok (.goto (-43), 3) := by decide +kernel
theorem dX4_readInto_63 : decode cX4_readInto 63 = .ok (.iload_n 2, 1) := by decide +kernel
theorem dX4_readInto_64 : decode cX4_readInto 64 = .ok (.ireturn, 1) := by decide +kernel
theorem dX4_readItem_0 : decode cX4_readItem 0 = .ok (.aload_n 0, 1) := by decide +kernel
theorem dX4_readItem_1 : decode cX4_readItem 1 = .ok (.getfield 30, 3) := by decide +kernel
theorem dX4_readItem_4 : decode cX4_readItem 4 = .ok (.istore_n 2, 1) := by decide +kernel
theorem dX4_readItem_5 : decode cX4_readItem 5 = .ok (.iload_n 2, 1) := by decide +kernel
theorem dX4_readItem_6 : decode cX4_readItem 6 = .ok (.invokestatic 40, 3) := by decide +kernel
theorem dX4_readItem_9 : decode cX4_readItem 9 = .ok (.astore_n 3, 1) := by decide +kernel
theorem dX4_readItem_10 : decode cX4_readItem 10 = .ok (.aload_n 3, 1) := by decide +kernel
theorem dX4_readItem_11 : decode cX4_readItem 11 = .ok (.arraylength, 1) := by decide +kernel
theorem dX4_readItem_12 : decode cX4_readItem 12 = .ok (.ifCond .eq 11, 3) := by decide +kernel
theorem dX4_readItem_15 : decode cX4_readItem 15 = .ok (.aload_n 1, 1) := by decide +kernel
theorem dX4_readItem_16 : decode cX4_readItem 16 = .ok (.iload_n 2, 1) := by decide +kernel
theorem dX4_readItem_17 : decode cX4_readItem 17 = .ok (.invokevirtual 44, 3) := by decide +kernel
theorem dX4_readItem_20 : decode cX4_readItem 20 = .ok (.ifCond .ne 5, 3) := by decide +kernel
theorem dX4_readItem_23 : decode cX4_readItem 23 = .ok (.iconst 0, 1) := by decide +kernel
theorem dX4_readItem_24 : decode cX4_readItem 24 = .ok (.ireturn, 1) := by decide +kernel
theorem dX4_readItem_25 : decode cX4_readItem 25 = .ok (.iconst 0, 1) := by decide +kernel
theorem dX4_readItem_26 : decode cX4_readItem 26 = .ok (.istore 4, 2) := by decide +kernel
theorem dX4_readItem_28 : decode cX4_readItem 28 = .ok (.iload 4, 2) := by decide +kernel
theorem dX4_readItem_30 : decode cX4_readItem 30 = .ok (.aload_n 3, 1) := by decide +kernel
theorem dX4_readItem_31 : decode cX4_readItem 31 = .ok (.arraylength, 1) := by decide +kernel
theorem dX4_readItem_32 : decode cX4_readItem 32 = .ok (.if_icmp .ge 61, 3) := by decide +kernel
theorem dX4_readItem_35 : decode cX4_readItem 35 = .ok (.iload 4, 2) := by decide +kernel
theorem dX4_readItem_37 : decode cX4_readItem 37 = .ok (.aload_n 0, 1) := by decide +kernel
theorem dX4_readItem_38 : decode cX4_readItem 38 = .ok (.getfield 15, 3) := by decide +kernel
theorem dX4_readItem_41 : decode cX4_readItem 41 = .ok (.arraylength, 1) := by decide +kernel
theorem dX4_readItem_42 : decode cX4_readItem 42 = .ok (.if_icmp .ge 51, 3) := by decide +kernel
theorem dX4_readItem_45 : decode cX4_readItem 45 = .ok (.aload_n 0, 1) := by decide +kernel
theorem dX4_readItem_46 : decode cX4_readItem 46 = .ok (.invokevirtual 27, 3) := by decide +kernel
theorem dX4_readItem_49 : decode cX4_readItem 49 = .ok (.aload_n 0, 1) := by decide +kernel
theorem dX4_readItem_50 : decode cX4_readItem 50 = .ok (.getfield 30, 3) := by decide +kernel
theorem dX4_readItem_53 : decode cX4_readItem 53 = .ok (.sipush 256, 3) := by decide +kernel
theorem dX4_readItem_56 : decode cX4_readItem 56 = .ok (.if_icmp .ne 18, 3) := by decide +kernel
theorem dX4_readItem_59 : decode cX4_readItem 59 = .ok (.aload_n 0, 1) := by decide +kernel
theorem dX4_readItem_60 : decode cX4_readItem 60 = .ok (.aload_n 3, 1) := by decide +kernel
theorem dX4_readItem_61 : decode cX4_readItem 61 = .ok (.iload 4, 2) := by decide +kernel
theorem dX4_readItem_63 : decode cX4_readItem 63 = .ok (.iaload, 1) := by decide +kernel
theorem dX4_readItem_64 : decode cX4_readItem 64 = .ok (.aload_n 1, 1) := by decide +kernel
theorem dX4_readItem_65 : decode cX4_readItem 65 = .ok (.getfield 48, 3) := by decide +kernel
theorem dX4_readItem_68 : decode cX4_readItem 68 = .ok (.invokevirtual 51, 3) := by decide +kernel
theorem dX4_readItem_71 : decode cX4_readItem 71 = .ok (.ifCond .ne 5, 3) := by decide +kernel
theorem dX4_readItem_74 : decode cX4_readItem 74 = .ok (.iconst 0, 1) := by decide +kernel
theorem dX4_readItem_75 : decode cX4_readItem 75 = .ok (.ireturn, 1) := by decide +kernel
theorem dX4_readItem_76 : decode cX4_readItem 76 = .ok (.aload_n 0, 1) := by decide +kernel
theorem dX4_readItem_77 : decode cX4_readItem 77 = .ok (.getfield 15, 3) := by decide +kernel
theorem dX4_readItem_80 : decode cX4_readItem 80 = .ok (.iload 4, 2) := by decide +kernel
theorem dX4_readItem_82 : decode cX4_readItem 82 = .ok (.aload_n 0, 1) := by decide +kernel
theorem dX4_readItem_83 : decode cX4_readItem 83 = .ok (.getfield 55, 3) := by decide +kernel
theorem dX4_readItem_86 : decode cX4_readItem 86 = .ok (.iastore, 1) := by decide +kernel
theorem dX4_readItem_87 : decode cX4_readItem 87 = .ok (.iinc 4 1, 3) := by decide +kernel
theorem dX4_readItem_90 : decode cX4_readItem 90 = .ok (.goto (-62), 3) := by decide +kernel
theorem dX4_readItem_93 : decode cX4_readItem 93 = .ok (.aload_n 0, 1) := by decide +kernel
theorem dX4_readItem_94 : decode cX4_readItem 94 = .ok (.invokevirtual 27, 3) := by decide +kernel
theorem dX4_readItem_97 : decode cX4_readItem 97 = .ok (.aload_n 0, 1) := by decide +kernel
theorem dX4_readItem_98 : decode cX4_readItem 98 = .ok (.getfield 30, 3) := by decide +kernel
theorem dX4_readItem_101 : decode cX4_readItem 101 = .ok (.bipush 59, 2) := by decide +kernel
theorem dX4_readItem_103 : decode cX4_readItem 103 = .ok (.if_icmp .eq 5, 3) := by decide +kernel
theorem dX4_readItem_106 : decode cX4_readItem 106 = .ok (.iconst 0, 1) := by decide +kernel
theorem dX4_readItem_107 : decode cX4_readItem 107 = .ok (.ireturn, 1) := by decide +kernel
theorem dX4_readItem_108 : decode cX4_readItem 108 = .ok (.aload_n 1, 1) := by decide +kernel
theorem dX4_readItem_109 : decode cX4_readItem 109 = .ok (.iload_n 2, 1) := by decide +kernel
theorem dX4_readItem_110 : decode cX4_readItem 110 = .ok (.aload_n 0, 1) := by decide +kernel
theorem dX4_readItem_111 : decode cX4_readItem 111 = .ok (.getfield 15, 3) := by decide +kernel
theorem dX4_readItem_114 : decode cX4_readItem 114 = .ok (.invokevirtual 58, 3) := by decide +kernel
theorem dX4_readItem_117 : decode cX4_readItem 117 = .ok (.iconst 1, 1) := by decide +kernel
theorem dX4_readItem_118 : decode cX4_readItem 118 = .ok (.ireturn, 1) := by decide +kernel
theorem dX4_formOf_0 : decode cX4_formOf 0 = .ok (.iload_n 0, 1) := by decide +kernel
theorem dX4_formOf_1 : decode cX4_formOf 1 = .ok (.tableswitch 143 97 121 #[119, 143, 143, 143, 143, 143, 143, 131, 143, 143, 115, 143, 143, 123, 143, 143, 143, 143, 127, 139, 143, 143, 143, 143, 135], 115) := by decide +kernel
theorem dX4_formOf_116 : decode cX4_formOf 116 = .ok (.getstatic 62, 3) := by decide +kernel
theorem dX4_formOf_119 : decode cX4_formOf 119 = .ok (.areturn, 1) := by decide +kernel
theorem dX4_formOf_120 : decode cX4_formOf 120 = .ok (.getstatic 65, 3) := by decide +kernel
theorem dX4_formOf_123 : decode cX4_formOf 123 = .ok (.areturn, 1) := by decide +kernel
theorem dX4_formOf_124 : decode cX4_formOf 124 = .ok (.getstatic 65, 3) := by decide +kernel
theorem dX4_formOf_127 : decode cX4_formOf 127 = .ok (.areturn, 1) := by decide +kernel
theorem dX4_formOf_128 : decode cX4_formOf 128 = .ok (.getstatic 65, 3) := by decide +kernel
theorem dX4_formOf_131 : decode cX4_formOf 131 = .ok (.areturn, 1) := by decide +kernel
theorem dX4_formOf_132 : decode cX4_formOf 132 = .ok (.getstatic 68, 3) := by decide +kernel
theorem dX4_formOf_135 : decode cX4_formOf 135 = .ok (.areturn, 1) := by decide +kernel
theorem dX4_formOf_136 : decode cX4_formOf 136 = .ok (.getstatic 71, 3) := by decide +kernel
theorem dX4_formOf_139 : decode cX4_formOf 139 = .ok (.areturn, 1) := by decide +kernel
theorem dX4_formOf_140 : decode cX4_formOf 140 = .ok (.getstatic 74, 3) := by decide +kernel
theorem dX4_formOf_143 : decode cX4_formOf 143 = .ok (.areturn, 1) := by decide +kernel
theorem dX4_formOf_144 : decode cX4_formOf 144 = .ok (.getstatic 77, 3) := by decide +kernel
theorem dX4_formOf_147 : decode cX4_formOf 147 = .ok (.areturn, 1) := by decide +kernel
theorem dX4_mayBe_0 : decode cX4_mayBe 0 = .ok (.iload_n 1, 1) := by decide +kernel
theorem dX4_mayBe_1 : decode cX4_mayBe 1 = .ok (.tableswitch 91 5 7 #[27, 50, 64], 27) := by decide +kernel
theorem dX4_mayBe_28 : decode cX4_mayBe 28 = .ok (.aload_n 0, 1) := by decide +kernel
theorem dX4_mayBe_29 : decode cX4_mayBe 29 = .ok (.getfield 55, 3) := by decide +kernel
theorem dX4_mayBe_32 : decode cX4_mayBe 32 = .ok (.iload_n 2, 1) := by decide +kernel
theorem dX4_mayBe_33 : decode cX4_mayBe 33 = .ok (.if_icmp .lt 12, 3) := by decide +kernel
theorem dX4_mayBe_36 : decode cX4_mayBe 36 = .ok (.aload_n 0, 1) := by decide +kernel
theorem dX4_mayBe_37 : decode cX4_mayBe 37 = .ok (.getfield 55, 3) := by decide +kernel
theorem dX4_mayBe_40 : decode cX4_mayBe 40 = .ok (.bipush 9, 2) := by decide +kernel
theorem dX4_mayBe_42 : decode cX4_mayBe 42 = .ok (.if_icmp .ne 7, 3) := by decide +kernel
theorem dX4_mayBe_45 : decode cX4_mayBe 45 = .ok (.iconst 1, 1) := by decide +kernel
theorem dX4_mayBe_46 : decode cX4_mayBe 46 = .ok (.goto 4, 3) := by decide +kernel
theorem dX4_mayBe_49 : decode cX4_mayBe 49 = .ok (.iconst 0, 1) := by decide +kernel
theorem dX4_mayBe_50 : decode cX4_mayBe 50 = .ok (.ireturn, 1) := by decide +kernel
theorem dX4_mayBe_51 : decode cX4_mayBe 51 = .ok (.aload_n 0, 1) := by decide +kernel
theorem dX4_mayBe_52 : decode cX4_mayBe 52 = .ok (.getfield 55, 3) := by decide +kernel
theorem dX4_mayBe_55 : decode cX4_mayBe 55 = .ok (.iload_n 2, 1) := by decide +kernel
theorem dX4_mayBe_56 : decode cX4_mayBe 56 = .ok (.if_icmp .ge 7, 3) := by decide +kernel
theorem dX4_mayBe_59 : decode cX4_mayBe 59 = .ok (.iconst 1, 1) := by decide +kernel
theorem dX4_mayBe_60 : decode cX4_mayBe 60 = .ok (.goto 4, 3) := by decide +kernel
theorem dX4_mayBe_63 : decode cX4_mayBe 63 = .ok (.iconst 0, 1) := by decide +kernel
theorem dX4_mayBe_64 : decode cX4_mayBe 64 = .ok (.ireturn, 1) := by decide +kernel
theorem dX4_mayBe_65 : decode cX4_mayBe 65 = .ok (.aload_n 0, 1) := by decide +kernel
theorem dX4_mayBe_66 : decode cX4_mayBe 66 = .ok (.getfield 55, 3) := by decide +kernel
theorem dX4_mayBe_69 : decode cX4_mayBe 69 = .ok (.iload_n 2, 1) := by decide +kernel
theorem dX4_mayBe_70 : decode cX4_mayBe 70 = .ok (.if_icmp .ge 20, 3) := by decide +kernel
theorem dX4_mayBe_73 : decode cX4_mayBe 73 = .ok (.aload_n 0, 1) := by decide +kernel
theorem dX4_mayBe_74 : decode cX4_mayBe 74 = .ok (.getfield 55, 3) := by decide +kernel
theorem dX4_mayBe_77 : decode cX4_mayBe 77 = .ok (.aload_n 0, 1) := by decide +kernel
theorem dX4_mayBe_78 : decode cX4_mayBe 78 = .ok (.getfield 15, 3) := by decide +kernel
theorem dX4_mayBe_81 : decode cX4_mayBe 81 = .ok (.iconst 0, 1) := by decide +kernel
theorem dX4_mayBe_82 : decode cX4_mayBe 82 = .ok (.iaload, 1) := by decide +kernel
theorem dX4_mayBe_83 : decode cX4_mayBe 83 = .ok (.if_icmp .eq 7, 3) := by decide +kernel
theorem dX4_mayBe_86 : decode cX4_mayBe 86 = .ok (.iconst 1, 1) := by decide +kernel
theorem dX4_mayBe_87 : decode cX4_mayBe 87 = .ok (.goto 4, 3) := by decide +kernel
theorem dX4_mayBe_90 : decode cX4_mayBe 90 = .ok (.iconst 0, 1) := by decide +kernel
theorem dX4_mayBe_91 : decode cX4_mayBe 91 = .ok (.ireturn, 1) := by decide +kernel
theorem dX4_mayBe_92 : decode cX4_mayBe 92 = .ok (.aload_n 0, 1) := by decide +kernel
theorem dX4_mayBe_93 : decode cX4_mayBe 93 = .ok (.getfield 55, 3) := by decide +kernel
theorem dX4_mayBe_96 : decode cX4_mayBe 96 = .ok (.getstatic 80, 3) := by decide +kernel
theorem dX4_mayBe_99 : decode cX4_mayBe 99 = .ok (.iload_n 1, 1) := by decide +kernel
theorem dX4_mayBe_100 : decode cX4_mayBe 100 = .ok (.iaload, 1) := by decide +kernel
theorem dX4_mayBe_101 : decode cX4_mayBe 101 = .ok (.getstatic 83, 3) := by decide +kernel
theorem dX4_mayBe_104 : decode cX4_mayBe 104 = .ok (.iload_n 1, 1) := by decide +kernel
theorem dX4_mayBe_105 : decode cX4_mayBe 105 = .ok (.iaload, 1) := by decide +kernel
theorem dX4_mayBe_106 : decode cX4_mayBe 106 = .ok (.invokestatic 86, 3) := by decide +kernel
theorem dX4_mayBe_109 : decode cX4_mayBe 109 = .ok (.ireturn, 1) := by decide +kernel
theorem dX4_readToken_0 : decode cX4_readToken 0 = .ok (.aload_n 0, 1) := by decide +kernel
theorem dX4_readToken_1 : decode cX4_readToken 1 = .ok (.getfield 23, 3) := by decide +kernel
theorem dX4_readToken_4 : decode cX4_readToken 4 = .ok (.aload_n 0, 1) := by decide +kernel
theorem dX4_readToken_5 : decode cX4_readToken 5 = .ok (.getfield 90, 3) := by decide +kernel
theorem dX4_readToken_8 : decode cX4_readToken 8 = .ok (.if_icmp .ge 30, 3) := by decide +kernel
theorem dX4_readToken_11 : decode cX4_readToken 11 = .ok (.aload_n 0, 1) := by decide +kernel
theorem dX4_readToken_12 : decode cX4_readToken 12 = .ok (.getfield 9, 3) := by decide +kernel
theorem dX4_readToken_15 : decode cX4_readToken 15 = .ok (.aload_n 0, 1) := by decide +kernel
theorem dX4_readToken_16 : decode cX4_readToken 16 = .ok (.getfield 23, 3) := by decide +kernel
theorem dX4_readToken_19 : decode cX4_readToken 19 = .ok (.iaload, 1) := by decide +kernel
theorem dX4_readToken_20 : decode cX4_readToken 20 = .ok (.bipush 32, 2) := by decide +kernel
theorem dX4_readToken_22 : decode cX4_readToken 22 = .ok (.if_icmp .ne 16, 3) := by decide +kernel
theorem dX4_readToken_25 : decode cX4_readToken 25 = .ok (.aload_n 0, 1) := by decide +kernel
theorem dX4_readToken_26 : decode cX4_readToken 26 = .ok (.dup, 1) := by decide +kernel
theorem dX4_readToken_27 : decode cX4_readToken 27 = .ok (.getfield 23, 3) := by decide +kernel
theorem dX4_readToken_30 : decode cX4_readToken 30 = .ok (.iconst 1, 1) := by decide +kernel
theorem dX4_readToken_31 : decode cX4_readToken 31 = .ok (.iadd, 1) := by decide +kernel
theorem dX4_readToken_32 : decode cX4_readToken 32 = .ok (.putfield 23, 3) := by decide +kernel
theorem dX4_readToken_35 : decode cX4_readToken 35 = .ok (.goto (-35), 3) := by decide +kernel
theorem dX4_readToken_38 : decode cX4_readToken 38 = .ok (.aload_n 0, 1) := by decide +kernel
theorem dX4_readToken_39 : decode cX4_readToken 39 = .ok (.aload_n 0, 1) := by decide +kernel
theorem dX4_readToken_40 : decode cX4_readToken 40 = .ok (.getfield 23, 3) := by decide +kernel
theorem dX4_readToken_43 : decode cX4_readToken 43 = .ok (.putfield 37, 3) := by decide +kernel
theorem dX4_readToken_46 : decode cX4_readToken 46 = .ok (.aload_n 0, 1) := by decide +kernel
theorem dX4_readToken_47 : decode cX4_readToken 47 = .ok (.getfield 23, 3) := by decide +kernel
theorem dX4_readToken_50 : decode cX4_readToken 50 = .ok (.aload_n 0, 1) := by decide +kernel
theorem dX4_readToken_51 : decode cX4_readToken 51 = .ok (.getfield 90, 3) := by decide +kernel
theorem dX4_readToken_54 : decode cX4_readToken 54 = .ok (.if_icmp .lt 13, 3) := by decide +kernel
theorem dX4_readToken_57 : decode cX4_readToken 57 = .ok (.aload_n 0, 1) := by decide +kernel
theorem dX4_readToken_58 : decode cX4_readToken 58 = .ok (.sipush 257, 3) := by decide +kernel
theorem dX4_readToken_61 : decode cX4_readToken 61 = .ok (.putfield 30, 3) := by decide +kernel
theorem dX4_readToken_64 : decode cX4_readToken 64 = .ok (.goto 48, 3) := by decide +kernel
theorem dX4_readToken_67 : decode cX4_readToken 67 = .ok (.aload_n 0, 1) := by decide +kernel
theorem dX4_readToken_68 : decode cX4_readToken 68 = .ok (.getfield 9, 3) := by decide +kernel
theorem dX4_readToken_71 : decode cX4_readToken 71 = .ok (.aload_n 0, 1) := by decide +kernel
theorem dX4_readToken_72 : decode cX4_readToken 72 = .ok (.getfield 23, 3) := by decide +kernel
theorem dX4_readToken_75 : decode cX4_readToken 75 = .ok (.iaload, 1) := by decide +kernel
theorem dX4_readToken_76 : decode cX4_readToken 76 = .ok (.invokestatic 93, 3) := by decide +kernel
theorem dX4_readToken_79 : decode cX4_readToken 79 = .ok (.ifCond .eq 10, 3) := by decide +kernel
theorem dX4_readToken_82 : decode cX4_readToken 82 = .ok (.aload_n 0, 1) := by decide +kernel
theorem dX4_readToken_83 : decode cX4_readToken 83 = .ok (.invokevirtual 96, 3) := by decide +kernel
theorem dX4_readToken_86 : decode cX4_readToken 86 = .ok (.goto 26, 3) := by decide +kernel
theorem dX4_readToken_89 : decode cX4_readToken 89 = .ok (.aload_n 0, 1) := by decide +kernel
theorem dX4_readToken_90 : decode cX4_readToken 90 = .ok (.aload_n 0, 1) := by decide +kernel
theorem dX4_readToken_91 : decode cX4_readToken 91 = .ok (.getfield 9, 3) := by decide +kernel
theorem dX4_readToken_94 : decode cX4_readToken 94 = .ok (.aload_n 0, 1) := by decide +kernel
theorem dX4_readToken_95 : decode cX4_readToken 95 = .ok (.getfield 23, 3) := by decide +kernel
theorem dX4_readToken_98 : decode cX4_readToken 98 = .ok (.iaload, 1) := by decide +kernel
theorem dX4_readToken_99 : decode cX4_readToken 99 = .ok (.putfield 30, 3) := by decide +kernel
theorem dX4_readToken_102 : decode cX4_readToken 102 = .ok (.aload_n 0, 1) := by decide +kernel
theorem dX4_readToken_103 : decode cX4_readToken 103 = .ok (.dup, 1) := by decide +kernel
theorem dX4_readToken_104 : decode cX4_readToken 104 = .ok (.getfield 23, 3) := by decide +kernel
theorem dX4_readToken_107 : decode cX4_readToken 107 = .ok (.iconst 1, 1) := by decide +kernel
theorem dX4_readToken_108 : decode cX4_readToken 108 = .ok (.iadd, 1) := by decide +kernel
theorem dX4_readToken_109 : decode cX4_readToken 109 = .ok (.putfield 23, 3) := by decide +kernel
theorem dX4_readToken_112 : decode cX4_readToken 112 = .ok (.return_, 1) := by decide +kernel
theorem dX4_readNumber_0 : decode cX4_readNumber 0 = .ok (.aload_n 0, 1) := by decide +kernel
theorem dX4_readNumber_1 : decode cX4_readNumber 1 = .ok (.iconst 0, 1) := by decide +kernel
theorem dX4_readNumber_2 : decode cX4_readNumber 2 = .ok (.putfield 55, 3) := by decide +kernel
theorem dX4_readNumber_5 : decode cX4_readNumber 5 = .ok (.aload_n 0, 1) := by decide +kernel
theorem dX4_readNumber_6 : decode cX4_readNumber 6 = .ok (.getfield 23, 3) := by decide +kernel
theorem dX4_readNumber_9 : decode cX4_readNumber 9 = .ok (.aload_n 0, 1) := by decide +kernel
theorem dX4_readNumber_10 : decode cX4_readNumber 10 = .ok (.getfield 90, 3) := by decide +kernel
theorem dX4_readNumber_13 : decode cX4_readNumber 13 = .ok (.if_icmp .ge 60, 3) := by decide +kernel
theorem dX4_readNumber_16 : decode cX4_readNumber 16 = .ok (.aload_n 0, 1) := by decide +kernel
theorem dX4_readNumber_17 : decode cX4_readNumber 17 = .ok (.getfield 9, 3) := by decide +kernel
theorem dX4_readNumber_20 : decode cX4_readNumber 20 = .ok (.aload_n 0, 1) := by decide +kernel
theorem dX4_readNumber_21 : decode cX4_readNumber 21 = .ok (.getfield 23, 3) := by decide +kernel
theorem dX4_readNumber_24 : decode cX4_readNumber 24 = .ok (.iaload, 1) := by decide +kernel
theorem dX4_readNumber_25 : decode cX4_readNumber 25 = .ok (.invokestatic 93, 3) := by decide +kernel
theorem dX4_readNumber_28 : decode cX4_readNumber 28 = .ok (.ifCond .eq 45, 3) := by decide +kernel
theorem dX4_readNumber_31 : decode cX4_readNumber 31 = .ok (.aload_n 0, 1) := by decide +kernel
theorem dX4_readNumber_32 : decode cX4_readNumber 32 = .ok (.bipush 100, 2) := by decide +kernel
theorem dX4_readNumber_34 : decode cX4_readNumber 34 = .ok (.aload_n 0, 1) := by decide +kernel
theorem dX4_readNumber_35 : decode cX4_readNumber 35 = .ok (.getfield 55, 3) := by decide +kernel
theorem dX4_readNumber_38 : decode cX4_readNumber 38 = .ok (.bipush 10, 2) := by decide +kernel
theorem dX4_readNumber_40 : decode cX4_readNumber 40 = .ok (.imul, 1) := by decide +kernel
theorem dX4_readNumber_41 : decode cX4_readNumber 41 = .ok (.aload_n 0, 1) := by decide +kernel
theorem dX4_readNumber_42 : decode cX4_readNumber 42 = .ok (.getfield 9, 3) := by decide +kernel
theorem dX4_readNumber_45 : decode cX4_readNumber 45 = .ok (.aload_n 0, 1) := by decide +kernel
theorem dX4_readNumber_46 : decode cX4_readNumber 46 = .ok (.getfield 23, 3) := by decide +kernel
theorem dX4_readNumber_49 : decode cX4_readNumber 49 = .ok (.iaload, 1) := by decide +kernel
theorem dX4_readNumber_50 : decode cX4_readNumber 50 = .ok (.iadd, 1) := by decide +kernel
theorem dX4_readNumber_51 : decode cX4_readNumber 51 = .ok (.bipush 48, 2) := by decide +kernel
theorem dX4_readNumber_53 : decode cX4_readNumber 53 = .ok (.isub, 1) := by decide +kernel
theorem dX4_readNumber_54 : decode cX4_readNumber 54 = .ok (.invokestatic 99, 3) := by decide +kernel
theorem dX4_readNumber_57 : decode cX4_readNumber 57 = .ok (.putfield 55, 3) := by decide +kernel
theorem dX4_readNumber_60 : decode cX4_readNumber 60 = .ok (.aload_n 0, 1) := by decide +kernel
theorem dX4_readNumber_61 : decode cX4_readNumber 61 = .ok (.dup, 1) := by decide +kernel
theorem dX4_readNumber_62 : decode cX4_readNumber 62 = .ok (.getfield 23, 3) := by decide +kernel
theorem dX4_readNumber_65 : decode cX4_readNumber 65 = .ok (.iconst 1, 1) := by decide +kernel
theorem dX4_readNumber_66 : decode cX4_readNumber 66 = .ok (.iadd, 1) := by decide +kernel
theorem dX4_readNumber_67 : decode cX4_readNumber 67 = .ok (.putfield 23, 3) := by decide +kernel
theorem dX4_readNumber_70 : decode cX4_readNumber 70 = .ok (.goto (-65), 3) := by decide +kernel
theorem dX4_readNumber_73 : decode cX4_readNumber 73 = .ok (.aload_n 0, 1) := by decide +kernel
theorem dX4_readNumber_74 : decode cX4_readNumber 74 = .ok (.getfield 23, 3) := by decide +kernel
theorem dX4_readNumber_77 : decode cX4_readNumber 77 = .ok (.aload_n 0, 1) := by decide +kernel
theorem dX4_readNumber_78 : decode cX4_readNumber 78 = .ok (.getfield 37, 3) := by decide +kernel
theorem dX4_readNumber_81 : decode cX4_readNumber 81 = .ok (.isub, 1) := by decide +kernel
theorem dX4_readNumber_82 : decode cX4_readNumber 82 = .ok (.istore_n 1, 1) := by decide +kernel
theorem dX4_readNumber_83 : decode cX4_readNumber 83 = .ok (.iload_n 1, 1) := by decide +kernel
theorem dX4_readNumber_84 : decode cX4_readNumber 84 = .ok (.iconst 1, 1) := by decide +kernel
theorem dX4_readNumber_85 : decode cX4_readNumber 85 = .ok (.if_icmp .le 21, 3) := by decide +kernel
theorem dX4_readNumber_88 : decode cX4_readNumber 88 = .ok (.aload_n 0, 1) := by decide +kernel
theorem dX4_readNumber_89 : decode cX4_readNumber 89 = .ok (.getfield 9, 3) := by decide +kernel
theorem dX4_readNumber_92 : decode cX4_readNumber 92 = .ok (.aload_n 0, 1) := by decide +kernel
theorem dX4_readNumber_93 : decode cX4_readNumber 93 = .ok (.getfield 37, 3) := by decide +kernel
theorem dX4_readNumber_96 : decode cX4_readNumber 96 = .ok (.iaload, 1) := by decide +kernel
theorem dX4_readNumber_97 : decode cX4_readNumber 97 = .ok (.bipush 48, 2) := by decide +kernel
theorem dX4_readNumber_99 : decode cX4_readNumber 99 = .ok (.if_icmp .ne 7, 3) := by decide +kernel
theorem dX4_readNumber_102 : decode cX4_readNumber 102 = .ok (.iconst 1, 1) := by decide +kernel
theorem dX4_readNumber_103 : decode cX4_readNumber 103 = .ok (.goto 4, 3) := by decide +kernel
theorem dX4_readNumber_106 : decode cX4_readNumber 106 = .ok (.iconst 0, 1) := by decide +kernel
theorem dX4_readNumber_107 : decode cX4_readNumber 107 = .ok (.istore_n 2, 1) := by decide +kernel
theorem dX4_readNumber_108 : decode cX4_readNumber 108 = .ok (.aload_n 0, 1) := by decide +kernel
theorem dX4_readNumber_109 : decode cX4_readNumber 109 = .ok (.aload_n 0, 1) := by decide +kernel
theorem dX4_readNumber_110 : decode cX4_readNumber 110 = .ok (.getfield 55, 3) := by decide +kernel
theorem dX4_readNumber_113 : decode cX4_readNumber 113 = .ok (.bipush 99, 2) := by decide +kernel
theorem dX4_readNumber_115 : decode cX4_readNumber 115 = .ok (.if_icmp .gt 7, 3) := by decide +kernel
theorem dX4_readNumber_118 : decode cX4_readNumber 118 = .ok (.iload_n 2, 1) := by decide +kernel
theorem dX4_readNumber_119 : decode cX4_readNumber 119 = .ok (.ifCond .eq 9, 3) := by decide +kernel
theorem dX4_readNumber_122 : decode cX4_readNumber 122 = .ok (.sipush 258, 3) := by decide +kernel
theorem dX4_readNumber_125 : decode cX4_readNumber 125 = .ok (.goto 6, 3) := by decide +kernel
theorem dX4_readNumber_128 : decode cX4_readNumber 128 = .ok (.sipush 256, 3) := by decide +kernel
theorem dX4_readNumber_131 : decode cX4_readNumber 131 = .ok (.putfield 30, 3) := by decide +kernel
theorem dX4_readNumber_134 : decode cX4_readNumber 134 = .ok (.return_, 1) := by decide +kernel
theorem dX4_isDigit_0 : decode cX4_isDigit 0 = .ok (.iload_n 0, 1) := by decide +kernel
theorem dX4_isDigit_1 : decode cX4_isDigit 1 = .ok (.bipush 48, 2) := by decide +kernel
theorem dX4_isDigit_3 : decode cX4_isDigit 3 = .ok (.bipush 57, 2) := by decide +kernel
theorem dX4_isDigit_5 : decode cX4_isDigit 5 = .ok (.invokestatic 86, 3) := by decide +kernel
theorem dX4_isDigit_8 : decode cX4_isDigit 8 = .ok (.ireturn, 1) := by decide +kernel
theorem dX5_init_0 : decode cX5_init 0 = .ok (.aload_n 0, 1) := by decide +kernel
theorem dX5_init_1 : decode cX5_init 1 = .ok (.invokespecial 1, 3) := by decide +kernel
theorem dX5_init_4 : decode cX5_init 4 = .ok (.aload_n 0, 1) := by decide +kernel
theorem dX5_init_5 : decode cX5_init 5 = .ok (.new 7, 3) := by decide +kernel
theorem dX5_init_8 : decode cX5_init 8 = .ok (.dup, 1) := by decide +kernel
theorem dX5_init_9 : decode cX5_init 9 = .ok (.invokespecial 9, 3) := by decide +kernel
theorem dX5_init_12 : decode cX5_init 12 = .ok (.putfield 10, 3) := by decide +kernel
theorem dX5_init_15 : decode cX5_init 15 = .ok (.aload_n 0, 1) := by decide +kernel
theorem dX5_init_16 : decode cX5_init 16 = .ok (.new 16, 3) := by decide +kernel
theorem dX5_init_19 : decode cX5_init 19 = .ok (.dup, 1) := by decide +kernel
theorem dX5_init_20 : decode cX5_init 20 = .ok (.invokespecial 18, 3) := by decide +kernel
theorem dX5_init_23 : decode cX5_init 23 = .ok (.putfield 19, 3) := by decide +kernel
theorem dX5_init_26 : decode cX5_init 26 = .ok (.aload_n 0, 1) := by decide +kernel
theorem dX5_init_27 : decode cX5_init 27 = .ok (.new 23, 3) := by decide +kernel
theorem dX5_init_30 : decode cX5_init 30 = .ok (.dup, 1) := by decide +kernel
theorem dX5_init_31 : decode cX5_init 31 = .ok (.invokespecial 25, 3) := by decide +kernel
theorem dX5_init_34 : decode cX5_init 34 = .ok (.putfield 26, 3) := by decide +kernel
theorem dX5_init_37 : decode cX5_init 37 = .ok (.aload_n 0, 1) := by decide +kernel
theorem dX5_init_38 : decode cX5_init 38 = .ok (.iconst 2, 1) := by decide +kernel
theorem dX5_init_39 : decode cX5_init 39 = .ok (.anewarray 16, 3) := by decide +kernel
theorem dX5_init_42 : decode cX5_init 42 = .ok (.putfield 30, 3) := by decide +kernel
theorem dX5_init_45 : decode cX5_init 45 = .ok (.iconst 0, 1) := by decide +kernel
theorem dX5_init_46 : decode cX5_init 46 = .ok (.istore_n 1, 1) := by decide +kernel
theorem dX5_init_47 : decode cX5_init 47 = .ok (.iload_n 1, 1) := by decide +kernel
theorem dX5_init_48 : decode cX5_init 48 = .ok (.iconst 2, 1) := by decide +kernel
theorem dX5_init_49 : decode cX5_init 49 = .ok (.if_icmp .ge 22, 3) := by decide +kernel
theorem dX5_init_52 : decode cX5_init 52 = .ok (.aload_n 0, 1) := by decide +kernel
theorem dX5_init_53 : decode cX5_init 53 = .ok (.getfield 30, 3) := by decide +kernel
theorem dX5_init_56 : decode cX5_init 56 = .ok (.iload_n 1, 1) := by decide +kernel
theorem dX5_init_57 : decode cX5_init 57 = .ok (.new 16, 3) := by decide +kernel
theorem dX5_init_60 : decode cX5_init 60 = .ok (.dup, 1) := by decide +kernel
theorem dX5_init_61 : decode cX5_init 61 = .ok (.invokespecial 18, 3) := by decide +kernel
theorem dX5_init_64 : decode cX5_init 64 = .ok (.aastore, 1) := by decide +kernel
theorem dX5_init_65 : decode cX5_init 65 = .ok (.iinc 1 1, 3) := by decide +kernel
theorem dX5_init_68 : decode cX5_init 68 = .ok (.goto (-21), 3) := by decide +kernel
theorem dX5_init_71 : decode cX5_init 71 = .ok (.aload_n 0, 1) := by decide +kernel
theorem dX5_init_72 : decode cX5_init 72 = .ok (.iconst 2, 1) := by decide +kernel
theorem dX5_init_73 : decode cX5_init 73 = .ok (.newarray .boolean, 2) := by decide +kernel
theorem dX5_init_75 : decode cX5_init 75 = .ok (.putfield 34, 3) := by decide +kernel
theorem dX5_init_78 : decode cX5_init 78 = .ok (.aload_n 0, 1) := by decide +kernel
theorem dX5_init_79 : decode cX5_init 79 = .ok (.new 38, 3) := by decide +kernel
theorem dX5_init_82 : decode cX5_init 82 = .ok (.dup, 1) := by decide +kernel
theorem dX5_init_83 : decode cX5_init 83 = .ok (.invokespecial 40, 3) := by decide +kernel
theorem dX5_init_86 : decode cX5_init 86 = .ok (.putfield 41, 3) := by decide +kernel
theorem dX5_init_89 : decode cX5_init 89 = .ok (.aload_n 0, 1) := by decide +kernel
theorem dX5_init_90 : decode cX5_init 90 = .ok (.bipush 6, 2) := by decide +kernel
theorem dX5_init_92 : decode cX5_init 92 = .ok (.newarray .int, 2) := by decide +kernel
theorem dX5_init_94 : decode cX5_init 94 = .ok (.putfield 45, 3) := by decide +kernel
theorem dX5_init_97 : decode cX5_init 97 = .ok (.aload_n 0, 1) := by decide +kernel
theorem dX5_init_98 : decode cX5_init 98 = .ok (.bipush 6, 2) := by decide +kernel
theorem dX5_init_100 : decode cX5_init 100 = .ok (.newarray .int, 2) := by decide +kernel
theorem dX5_init_102 : decode cX5_init 102 = .ok (.putfield 49, 3) := by decide +kernel
theorem dX5_init_105 : decode cX5_init 105 = .ok (.aload_n 0, 1) := by decide +kernel
theorem dX5_init_106 : decode cX5_init 106 = .ok (.bipush 6, 2) := by decide +kernel
theorem dX5_init_108 : decode cX5_init 108 = .ok (.newarray .int, 2) := by decide +kernel
theorem dX5_init_110 : decode cX5_init 110 = .ok (.putfield 52, 3) := by decide +kernel
theorem dX5_init_113 : decode cX5_init 113 = .ok (.aload_n 0, 1) := by decide +kernel
theorem dX5_init_114 : decode cX5_init 114 = .ok (.new 55, 3) := by decide +kernel
theorem dX5_init_117 : decode cX5_init 117 = .ok (.dup, 1) := by decide +kernel
theorem dX5_init_118 : decode cX5_init 118 = .ok (.invokespecial 57, 3) := by decide +kernel
theorem dX5_init_121 : decode cX5_init 121 = .ok (.putfield 58, 3) := by decide +kernel
theorem dX5_init_124 : decode cX5_init 124 = .ok (.aload_n 0, 1) := by decide +kernel
theorem dX5_init_125 : decode cX5_init 125 = .ok (.new 55, 3) := by decide +kernel
theorem dX5_init_128 : decode cX5_init 128 = .ok (.dup, 1) := by decide +kernel
theorem dX5_init_129 : decode cX5_init 129 = .ok (.invokespecial 57, 3) := by decide +kernel
theorem dX5_init_132 : decode cX5_init 132 = .ok (.putfield 62, 3) := by decide +kernel
theorem dX5_init_135 : decode cX5_init 135 = .ok (.aload_n 0, 1) := by decide +kernel
theorem dX5_init_136 : decode cX5_init 136 = .ok (.getfield 58, 3) := by decide +kernel
theorem dX5_init_139 : decode cX5_init 139 = .ok (.invokevirtual 65, 3) := by decide +kernel
theorem dX5_init_142 : decode cX5_init 142 = .ok (.aload_n 0, 1) := by decide +kernel
theorem dX5_init_143 : decode cX5_init 143 = .ok (.getfield 58, 3) := by decide +kernel
theorem dX5_init_146 : decode cX5_init 146 = .ok (.invokevirtual 68, 3) := by decide +kernel
theorem dX5_init_149 : decode cX5_init 149 = .ok (.return_, 1) := by decide +kernel
theorem dX5_type_0 : decode cX5_type 0 = .ok (.iload_n 1, 1) := by decide +kernel
theorem dX5_type_1 : decode cX5_type 1 = .ok (.iconst 0, 1) := by decide +kernel
theorem dX5_type_2 : decode cX5_type 2 = .ok (.sipush 255, 3) := by decide +kernel
theorem dX5_type_5 : decode cX5_type 5 = .ok (.invokestatic 71, 3) := by decide +kernel
theorem dX5_type_8 : decode cX5_type 8 = .ok (.ifCond .ne 5, 3) := by decide +kernel
theorem dX5_type_11 : decode cX5_type 11 = .ok (.iconst (-1), 1) := by decide +kernel
theorem dX5_type_12 : decode cX5_type 12 = .ok (.ireturn, 1) := by decide +kernel
theorem dX5_type_13 : decode cX5_type 13 = .ok (.aload_n 0, 1) := by decide +kernel
theorem dX5_type_14 : decode cX5_type 14 = .ok (.getfield 10, 3) := by decide +kernel
theorem dX5_type_17 : decode cX5_type 17 = .ok (.getfield 75, 3) := by decide +kernel
theorem dX5_type_20 : decode cX5_type 20 = .ok (.sipush 200, 3) := by decide +kernel
theorem dX5_type_23 : decode cX5_type 23 = .ok (.if_icmp .lt 6, 3) := by decide +kernel
theorem dX5_type_26 : decode cX5_type 26 = .ok (.bipush (-3), 2) := by decide +kernel
theorem dX5_type_28 : decode cX5_type 28 = .ok (.ireturn, 1) := by decide +kernel
theorem dX5_type_29 : decode cX5_type 29 = .ok (.aload_n 0, 1) := by decide +kernel
theorem dX5_type_30 : decode cX5_type 30 = .ok (.getfield 10, 3) := by decide +kernel
theorem dX5_type_33 : decode cX5_type 33 = .ok (.getfield 79, 3) := by decide +kernel
theorem dX5_type_36 : decode cX5_type 36 = .ok (.aload_n 0, 1) := by decide +kernel
theorem dX5_type_37 : decode cX5_type 37 = .ok (.getfield 10, 3) := by decide +kernel
theorem dX5_type_40 : decode cX5_type 40 = .ok (.getfield 75, 3) := by decide +kernel
theorem dX5_type_43 : decode cX5_type 43 = .ok (.iload_n 1, 1) := by decide +kernel
theorem dX5_type_44 : decode cX5_type 44 = .ok (.iastore, 1) := by decide +kernel
theorem dX5_type_45 : decode cX5_type 45 = .ok (.aload_n 0, 1) := by decide +kernel
theorem dX5_type_46 : decode cX5_type 46 = .ok (.getfield 10, 3) := by decide +kernel
theorem dX5_type_49 : decode cX5_type 49 = .ok (.dup, 1) := by decide +kernel
theorem dX5_type_50 : decode cX5_type 50 = .ok (.getfield 75, 3) := by decide +kernel
theorem dX5_type_53 : decode cX5_type 53 = .ok (.iconst 1, 1) := by decide +kernel
theorem dX5_type_54 : decode cX5_type 54 = .ok (.iadd, 1) := by decide +kernel
theorem dX5_type_55 : decode cX5_type 55 = .ok (.putfield 75, 3) := by decide +kernel
theorem dX5_type_58 : decode cX5_type 58 = .ok (.aload_n 0, 1) := by decide +kernel
theorem dX5_type_59 : decode cX5_type 59 = .ok (.getfield 10, 3) := by decide +kernel
theorem dX5_type_62 : decode cX5_type 62 = .ok (.getfield 75, 3) := by decide +kernel
theorem dX5_type_65 : decode cX5_type 65 = .ok (.ireturn, 1) := by decide +kernel
theorem dX5_clear_0 : decode cX5_clear 0 = .ok (.aload_n 0, 1) := by decide +kernel
theorem dX5_clear_1 : decode cX5_clear 1 = .ok (.getfield 10, 3) := by decide +kernel
theorem dX5_clear_4 : decode cX5_clear 4 = .ok (.getfield 75, 3) := by decide +kernel
theorem dX5_clear_7 : decode cX5_clear 7 = .ok (.istore_n 1, 1) := by decide +kernel
theorem dX5_clear_8 : decode cX5_clear 8 = .ok (.aload_n 0, 1) := by decide +kernel
theorem dX5_clear_9 : decode cX5_clear 9 = .ok (.getfield 10, 3) := by decide +kernel
theorem dX5_clear_12 : decode cX5_clear 12 = .ok (.iconst 0, 1) := by decide +kernel
theorem dX5_clear_13 : decode cX5_clear 13 = .ok (.putfield 75, 3) := by decide +kernel
theorem dX5_clear_16 : decode cX5_clear 16 = .ok (.iload_n 1, 1) := by decide +kernel
theorem dX5_clear_17 : decode cX5_clear 17 = .ok (.ireturn, 1) := by decide +kernel
theorem dX5_realm_0 : decode cX5_realm 0 = .ok (.aload_n 0, 1) := by decide +kernel
theorem dX5_realm_1 : decode cX5_realm 1 = .ok (.getfield 10, 3) := by decide +kernel
theorem dX5_realm_4 : decode cX5_realm 4 = .ok (.aload_n 0, 1) := by decide +kernel
theorem dX5_realm_5 : decode cX5_realm 5 = .ok (.getfield 62, 3) := by decide +kernel
theorem dX5_realm_8 : decode cX5_realm 8 = .ok (.invokevirtual 82, 3) := by decide +kernel
theorem dX5_realm_11 : decode cX5_realm 11 = .ok (.istore_n 1, 1) := by decide +kernel
theorem dX5_realm_12 : decode cX5_realm 12 = .ok (.iload_n 1, 1) := by decide +kernel
theorem dX5_realm_13 : decode cX5_realm 13 = .ok (.ifCond .ge 5, 3) := by decide +kernel
theorem dX5_realm_16 : decode cX5_realm 16 = .ok (.iload_n 1, 1) := by decide +kernel
theorem dX5_realm_17 : decode cX5_realm 17 = .ok (.ireturn, 1) := by decide +kernel
theorem dX5_realm_18 : decode cX5_realm 18 = .ok (.aload_n 0, 1) := by decide +kernel
theorem dX5_realm_19 : decode cX5_realm 19 = .ok (.getfield 58, 3) := by decide +kernel
theorem dX5_realm_22 : decode cX5_realm 22 = .ok (.astore_n 2, 1) := by decide +kernel
theorem dX5_realm_23 : decode cX5_realm 23 = .ok (.aload_n 0, 1) := by decide +kernel
theorem dX5_realm_24 : decode cX5_realm 24 = .ok (.aload_n 0, 1) := by decide +kernel
theorem dX5_realm_25 : decode cX5_realm 25 = .ok (.getfield 62, 3) := by decide +kernel
theorem dX5_realm_28 : decode cX5_realm 28 = .ok (.putfield 58, 3) := by decide +kernel
theorem dX5_realm_31 : decode cX5_realm 31 = .ok (.aload_n 0, 1) := by decide +kernel
theorem dX5_realm_32 : decode cX5_realm 32 = .ok (.aload_n 2, 1) := by decide +kernel
theorem dX5_realm_33 : decode cX5_realm 33 = .ok (.putfield 62, 3) := by decide +kernel
theorem dX5_realm_36 : decode cX5_realm 36 = .ok (.aload_n 0, 1) := by decide +kernel
theorem dX5_realm_37 : decode cX5_realm 37 = .ok (.getfield 58, 3) := by decide +kernel
theorem dX5_realm_40 : decode cX5_realm 40 = .ok (.invokevirtual 68, 3) := by decide +kernel
theorem dX5_realm_43 : decode cX5_realm 43 = .ok (.aload_n 0, 1) := by decide +kernel
theorem dX5_realm_44 : decode cX5_realm 44 = .ok (.getfield 19, 3) := by decide +kernel
theorem dX5_realm_47 : decode cX5_realm 47 = .ok (.aload_n 0, 1) := by decide +kernel
theorem dX5_realm_48 : decode cX5_realm 48 = .ok (.getfield 58, 3) := by decide +kernel
theorem dX5_realm_51 : decode cX5_realm 51 = .ok (.invokevirtual 86, 3) := by decide +kernel
theorem dX5_realm_54 : decode cX5_realm 54 = .ok (.aload_n 0, 1) := by decide +kernel
theorem dX5_realm_55 : decode cX5_realm 55 = .ok (.getfield 26, 3) := by decide +kernel
theorem dX5_realm_58 : decode cX5_realm 58 = .ok (.iconst 0, 1) := by decide +kernel
theorem dX5_realm_59 : decode cX5_realm 59 = .ok (.putfield 90, 3) := by decide +kernel
theorem dX5_realm_62 : decode cX5_realm 62 = .ok (.iconst 0, 1) := by decide +kernel
theorem dX5_realm_63 : decode cX5_realm 63 = .ok (.istore_n 3, 1) := by decide +kernel
theorem dX5_realm_64 : decode cX5_realm 64 = .ok (.iload_n 3, 1) := by decide +kernel
theorem dX5_realm_65 : decode cX5_realm 65 = .ok (.iconst 2, 1) := by decide +kernel
theorem dX5_realm_66 : decode cX5_realm 66 = .ok (.if_icmp .ge 16, 3) := by decide +kernel
theorem dX5_realm_69 : decode cX5_realm 69 = .ok (.aload_n 0, 1) := by decide +kernel
theorem dX5_realm_70 : decode cX5_realm 70 = .ok (.getfield 34, 3) := by decide +kernel
theorem dX5_realm_73 : decode cX5_realm 73 = .ok (.iload_n 3, 1) := by decide +kernel
theorem dX5_realm_74 : decode cX5_realm 74 = .ok (.iconst 0, 1) := by decide +kernel
theorem dX5_realm_75 : decode cX5_realm 75 = .ok (.bastore, 1) := by decide +kernel
theorem dX5_realm_76 : decode cX5_realm 76 = .ok (.iinc 3 1, 3) := by decide +kernel
theorem dX5_realm_79 : decode cX5_realm 79 = .ok (.goto (-15), 3) := by decide +kernel
theorem dX5_realm_82 : decode cX5_realm 82 = .ok (.aload_n 0, 1) := by decide +kernel
theorem dX5_realm_83 : decode cX5_realm 83 = .ok (.getfield 10, 3) := by decide +kernel
theorem dX5_realm_86 : decode cX5_realm 86 = .ok (.iconst 0, 1) := by decide +kernel
theorem dX5_realm_87 : decode cX5_realm 87 = .ok (.putfield 75, 3) := by decide +kernel
theorem dX5_realm_90 : decode cX5_realm 90 = .ok (.iload_n 1, 1) := by decide +kernel
theorem dX5_realm_91 : decode cX5_realm 91 = .ok (.ireturn, 1) := by decide +kernel
theorem dX5_pocket_0 : decode cX5_pocket 0 = .ok (.aload_n 0, 1) := by decide +kernel
theorem dX5_pocket_1 : decode cX5_pocket 1 = .ok (.iload_n 1, 1) := by decide +kernel
theorem dX5_pocket_2 : decode cX5_pocket 2 = .ok (.invokevirtual 93, 3) := by decide +kernel
theorem dX5_pocket_5 : decode cX5_pocket 5 = .ok (.ifCond .ne 5, 3) := by decide +kernel
theorem dX5_pocket_8 : decode cX5_pocket 8 = .ok (.iconst (-1), 1) := by decide +kernel
theorem dX5_pocket_9 : decode cX5_pocket 9 = .ok (.ireturn, 1) := by decide +kernel
theorem dX5_pocket_10 : decode cX5_pocket 10 = .ok (.iload_n 2, 1) := by decide +kernel
theorem dX5_pocket_11 : decode cX5_pocket 11 = .ok (.tableswitch 120 0 7 #[45, 55, 65, 75, 85, 91, 100, 110], 45) := by decide +kernel
theorem dX5_pocket_56 : decode cX5_pocket 56 = .ok (.aload_n 0, 1) := by decide +kernel
theorem dX5_pocket_57 : decode cX5_pocket 57 = .ok (.getfield 58, 3) := by decide +kernel
theorem dX5_pocket_60 : decode cX5_pocket 60 = .ok (.getfield 97, 3) := by decide +kernel
theorem dX5_pocket_63 : decode cX5_pocket 63 = .ok (.iload_n 1, 1) := by decide +kernel
theorem dX5_pocket_64 : decode cX5_pocket 64 = .ok (.iaload, 1) := by decide +kernel
theorem dX5_pocket_65 : decode cX5_pocket 65 = .ok (.ireturn, 1) := by decide +kernel
theorem dX5_pocket_66 : decode cX5_pocket 66 = .ok (.aload_n 0, 1) := by decide +kernel
theorem dX5_pocket_67 : decode cX5_pocket 67 = .ok (.getfield 58, 3) := by decide +kernel
theorem dX5_pocket_70 : decode cX5_pocket 70 = .ok (.getfield 100, 3) := by decide +kernel
theorem dX5_pocket_73 : decode cX5_pocket 73 = .ok (.iload_n 1, 1) := by decide +kernel
theorem dX5_pocket_74 : decode cX5_pocket 74 = .ok (.iaload, 1) := by decide +kernel
theorem dX5_pocket_75 : decode cX5_pocket 75 = .ok (.ireturn, 1) := by decide +kernel
theorem dX5_pocket_76 : decode cX5_pocket 76 = .ok (.aload_n 0, 1) := by decide +kernel
theorem dX5_pocket_77 : decode cX5_pocket 77 = .ok (.getfield 58, 3) := by decide +kernel
theorem dX5_pocket_80 : decode cX5_pocket 80 = .ok (.getfield 103, 3) := by decide +kernel
theorem dX5_pocket_83 : decode cX5_pocket 83 = .ok (.iload_n 1, 1) := by decide +kernel
theorem dX5_pocket_84 : decode cX5_pocket 84 = .ok (.iaload, 1) := by decide +kernel
theorem dX5_pocket_85 : decode cX5_pocket 85 = .ok (.ireturn, 1) := by decide +kernel
theorem dX5_pocket_86 : decode cX5_pocket 86 = .ok (.aload_n 0, 1) := by decide +kernel
theorem dX5_pocket_87 : decode cX5_pocket 87 = .ok (.getfield 58, 3) := by decide +kernel
theorem dX5_pocket_90 : decode cX5_pocket 90 = .ok (.getfield 106, 3) := by decide +kernel
theorem dX5_pocket_93 : decode cX5_pocket 93 = .ok (.iload_n 1, 1) := by decide +kernel
theorem dX5_pocket_94 : decode cX5_pocket 94 = .ok (.iaload, 1) := by decide +kernel
theorem dX5_pocket_95 : decode cX5_pocket 95 = .ok (.ireturn, 1) := by decide +kernel
theorem dX5_pocket_96 : decode cX5_pocket 96 = .ok (.aload_n 0, 1) := by decide +kernel
theorem dX5_pocket_97 : decode cX5_pocket 97 = .ok (.iload_n 1, 1) := by decide +kernel
theorem dX5_pocket_98 : decode cX5_pocket 98 = .ok (.invokevirtual 109, 3) := by decide +kernel
theorem dX5_pocket_101 : decode cX5_pocket 101 = .ok (.ireturn, 1) := by decide +kernel
theorem dX5_pocket_102 : decode cX5_pocket 102 = .ok (.aload_n 0, 1) := by decide +kernel
theorem dX5_pocket_103 : decode cX5_pocket 103 = .ok (.getfield 58, 3) := by decide +kernel
theorem dX5_pocket_106 : decode cX5_pocket 106 = .ok (.iload_n 1, 1) := by decide +kernel
theorem dX5_pocket_107 : decode cX5_pocket 107 = .ok (.invokevirtual 113, 3) := by decide +kernel
theorem dX5_pocket_110 : decode cX5_pocket 110 = .ok (.ireturn, 1) := by decide +kernel
theorem dX5_pocket_111 : decode cX5_pocket 111 = .ok (.aload_n 0, 1) := by decide +kernel
theorem dX5_pocket_112 : decode cX5_pocket 112 = .ok (.getfield 58, 3) := by decide +kernel
theorem dX5_pocket_115 : decode cX5_pocket 115 = .ok (.getfield 116, 3) := by decide +kernel
theorem dX5_pocket_118 : decode cX5_pocket 118 = .ok (.iload_n 1, 1) := by decide +kernel
theorem dX5_pocket_119 : decode cX5_pocket 119 = .ok (.iaload, 1) := by decide +kernel
theorem dX5_pocket_120 : decode cX5_pocket 120 = .ok (.ireturn, 1) := by decide +kernel
theorem dX5_pocket_121 : decode cX5_pocket 121 = .ok (.aload_n 0, 1) := by decide +kernel
theorem dX5_pocket_122 : decode cX5_pocket 122 = .ok (.getfield 58, 3) := by decide +kernel
theorem dX5_pocket_125 : decode cX5_pocket 125 = .ok (.getfield 119, 3) := by decide +kernel
theorem dX5_pocket_128 : decode cX5_pocket 128 = .ok (.iload_n 1, 1) := by decide +kernel
theorem dX5_pocket_129 : decode cX5_pocket 129 = .ok (.iaload, 1) := by decide +kernel
theorem dX5_pocket_130 : decode cX5_pocket 130 = .ok (.ireturn, 1) := by decide +kernel
theorem dX5_pocket_131 : decode cX5_pocket 131 = .ok (.iconst (-1), 1) := by decide +kernel
theorem dX5_pocket_132 : decode cX5_pocket 132 = .ok (.ireturn, 1) := by decide +kernel
theorem dX5_thing_0 : decode cX5_thing 0 = .ok (.aload_n 0, 1) := by decide +kernel
theorem dX5_thing_1 : decode cX5_thing 1 = .ok (.iload_n 1, 1) := by decide +kernel
theorem dX5_thing_2 : decode cX5_thing 2 = .ok (.invokevirtual 122, 3) := by decide +kernel
theorem dX5_thing_5 : decode cX5_thing 5 = .ok (.ifCond .ne 5, 3) := by decide +kernel
theorem dX5_thing_8 : decode cX5_thing 8 = .ok (.iconst (-1), 1) := by decide +kernel
theorem dX5_thing_9 : decode cX5_thing 9 = .ok (.ireturn, 1) := by decide +kernel
theorem dX5_thing_10 : decode cX5_thing 10 = .ok (.iload_n 2, 1) := by decide +kernel
theorem dX5_thing_11 : decode cX5_thing 11 = .ok (.tableswitch 87 0 4 #[33, 43, 53, 63, 73], 33) := by decide +kernel
theorem dX5_thing_44 : decode cX5_thing 44 = .ok (.aload_n 0, 1) := by decide +kernel
theorem dX5_thing_45 : decode cX5_thing 45 = .ok (.getfield 58, 3) := by decide +kernel
theorem dX5_thing_48 : decode cX5_thing 48 = .ok (.getfield 125, 3) := by decide +kernel
theorem dX5_thing_51 : decode cX5_thing 51 = .ok (.iload_n 1, 1) := by decide +kernel
theorem dX5_thing_52 : decode cX5_thing 52 = .ok (.iaload, 1) := by decide +kernel
theorem dX5_thing_53 : decode cX5_thing 53 = .ok (.ireturn, 1) := by decide +kernel
theorem dX5_thing_54 : decode cX5_thing 54 = .ok (.aload_n 0, 1) := by decide +kernel
theorem dX5_thing_55 : decode cX5_thing 55 = .ok (.getfield 58, 3) := by decide +kernel
theorem dX5_thing_58 : decode cX5_thing 58 = .ok (.getfield 128, 3) := by decide +kernel
theorem dX5_thing_61 : decode cX5_thing 61 = .ok (.iload_n 1, 1) := by decide +kernel
theorem dX5_thing_62 : decode cX5_thing 62 = .ok (.iaload, 1) := by decide +kernel
theorem dX5_thing_63 : decode cX5_thing 63 = .ok (.ireturn, 1) := by decide +kernel
theorem dX5_thing_64 : decode cX5_thing 64 = .ok (.aload_n 0, 1) := by decide +kernel
theorem dX5_thing_65 : decode cX5_thing 65 = .ok (.getfield 58, 3) := by decide +kernel
theorem dX5_thing_68 : decode cX5_thing 68 = .ok (.getfield 131, 3) := by decide +kernel
theorem dX5_thing_71 : decode cX5_thing 71 = .ok (.iload_n 1, 1) := by decide +kernel
theorem dX5_thing_72 : decode cX5_thing 72 = .ok (.iaload, 1) := by decide +kernel
theorem dX5_thing_73 : decode cX5_thing 73 = .ok (.ireturn, 1) := by decide +kernel
theorem dX5_thing_74 : decode cX5_thing 74 = .ok (.aload_n 0, 1) := by decide +kernel
theorem dX5_thing_75 : decode cX5_thing 75 = .ok (.getfield 19, 3) := by decide +kernel
theorem dX5_thing_78 : decode cX5_thing 78 = .ok (.getfield 134, 3) := by decide +kernel
theorem dX5_thing_81 : decode cX5_thing 81 = .ok (.iload_n 1, 1) := by decide +kernel
theorem dX5_thing_82 : decode cX5_thing 82 = .ok (.iaload, 1) := by decide +kernel
theorem dX5_thing_83 : decode cX5_thing 83 = .ok (.ireturn, 1) := by decide +kernel
theorem dX5_thing_84 : decode cX5_thing 84 = .ok (.aload_n 0, 1) := by decide +kernel
theorem dX5_thing_85 : decode cX5_thing 85 = .ok (.iload_n 1, 1) := by decide +kernel
theorem dX5_thing_86 : decode cX5_thing 86 = .ok (.invokevirtual 137, 3) := by decide +kernel
theorem dX5_thing_89 : decode cX5_thing 89 = .ok (.ifCond .eq 7, 3) := by decide +kernel
theorem dX5_thing_92 : decode cX5_thing 92 = .ok (.iconst 1, 1) := by decide +kernel
theorem dX5_thing_93 : decode cX5_thing 93 = .ok (.goto 4, 3) := by decide +kernel
theorem dX5_thing_96 : decode cX5_thing 96 = .ok (.iconst 0, 1) := by decide +kernel
theorem dX5_thing_97 : decode cX5_thing 97 = .ok (.ireturn, 1) := by decide +kernel
theorem dX5_thing_98 : decode cX5_thing 98 = .ok (.iconst (-1), 1) := by decide +kernel
