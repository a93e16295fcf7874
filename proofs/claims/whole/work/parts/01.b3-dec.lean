theorem dX6_elsewhere_126 : decode cX6_elsewhere 126 = .ok (.if_icmp .le 5, 3) := by decide +kernel
theorem dX6_elsewhere_129 : decode cX6_elsewhere 129 = .ok (.iconst (-1), 1) := by decide +kernel
theorem dX6_elsewhere_130 : decode cX6_elsewhere 130 = .ok (.ireturn, 1) := by decide +kernel
theorem dX6_elsewhere_131 : decode cX6_elsewhere 131 = .ok (.iinc 2 1, 3) := by decide +kernel
theorem dX6_elsewhere_134 : decode cX6_elsewhere 134 = .ok (.goto (-71), 3) := by decide +kernel
theorem dX6_elsewhere_137 : decode cX6_elsewhere 137 = .ok (.iload_n 1, 1) := by decide +kernel
theorem dX6_elsewhere_138 : decode cX6_elsewhere 138 = .ok (.ireturn, 1) := by decide +kernel
theorem dX6_stow_0 : decode cX6_stow 0 = .ok (.iload_n 1, 1) := by decide +kernel
theorem dX6_stow_1 : decode cX6_stow 1 = .ok (.i2l, 1) := by decide +kernel
theorem dX6_stow_2 : decode cX6_stow 2 = .ok (.ldc2_w 227, 3) := by decide +kernel
theorem dX6_stow_5 : decode cX6_stow 5 = .ok (.aload_n 0, 1) := by decide +kernel
theorem dX6_stow_6 : decode cX6_stow 6 = .ok (.getfield 86, 3) := by decide +kernel
theorem dX6_stow_9 : decode cX6_stow 9 = .ok (.iconst 1, 1) := by decide +kernel
theorem dX6_stow_10 : decode cX6_stow 10 = .ok (.isub, 1) := by decide +kernel
theorem dX6_stow_11 : decode cX6_stow 11 = .ok (.i2l, 1) := by decide +kernel
theorem dX6_stow_12 : decode cX6_stow 12 = .ok (.invokestatic 82, 3) := by decide +kernel
theorem dX6_stow_15 : decode cX6_stow 15 = .ok (.ifCond .ne 5, 3) := by decide +kernel
theorem dX6_stow_18 : decode cX6_stow 18 = .ok (.iconst (-1), 1) := by decide +kernel
theorem dX6_stow_19 : decode cX6_stow 19 = .ok (.ireturn, 1) := by decide +kernel
theorem dX6_stow_20 : decode cX6_stow 20 = .ok (.iconst 1, 1) := by decide +kernel
theorem dX6_stow_21 : decode cX6_stow 21 = .ok (.istore_n 2, 1) := by decide +kernel
theorem dX6_stow_22 : decode cX6_stow 22 = .ok (.iconst 0, 1) := by decide +kernel
theorem dX6_stow_23 : decode cX6_stow 23 = .ok (.istore_n 3, 1) := by decide +kernel
theorem dX6_stow_24 : decode cX6_stow 24 = .ok (.iload_n 3, 1) := by decide +kernel
theorem dX6_stow_25 : decode cX6_stow 25 = .ok (.aload_n 0, 1) := by decide +kernel
theorem dX6_stow_26 : decode cX6_stow 26 = .ok (.getfield 86, 3) := by decide +kernel
theorem dX6_stow_29 : decode cX6_stow 29 = .ok (.if_icmp .ge 32, 3) := by decide +kernel
theorem dX6_stow_32 : decode cX6_stow 32 = .ok (.iload_n 2, 1) := by decide +kernel
theorem dX6_stow_33 : decode cX6_stow 33 = .ok (.aload_n 0, 1) := by decide +kernel
theorem dX6_stow_34 : decode cX6_stow 34 = .ok (.getfield 78, 3) := by decide +kernel
theorem dX6_stow_37 : decode cX6_stow 37 = .ok (.imul, 1) := by decide +kernel
theorem dX6_stow_38 : decode cX6_stow 38 = .ok (.istore_n 2, 1) := by decide +kernel
theorem dX6_stow_39 : decode cX6_stow 39 = .ok (.aload_n 0, 1) := by decide +kernel
theorem dX6_stow_40 : decode cX6_stow 40 = .ok (.getfield 62, 3) := by decide +kernel
theorem dX6_stow_43 : decode cX6_stow 43 = .ok (.iload_n 3, 1) := by decide +kernel
theorem dX6_stow_44 : decode cX6_stow 44 = .ok (.aload_n 0, 1) := by decide +kernel
theorem dX6_stow_45 : decode cX6_stow 45 = .ok (.aload_n 0, 1) := by decide +kernel
theorem dX6_stow_46 : decode cX6_stow 46 = .ok (.getfield 23, 3) := by decide +kernel
theorem dX6_stow_49 : decode cX6_stow 49 = .ok (.iload_n 3, 1) := by decide +kernel
theorem dX6_stow_50 : decode cX6_stow 50 = .ok (.iaload, 1) := by decide +kernel
theorem dX6_stow_51 : decode cX6_stow 51 = .ok (.invokevirtual 190, 3) := by decide +kernel
theorem dX6_stow_54 : decode cX6_stow 54 = .ok (.iastore, 1) := by decide +kernel
theorem dX6_stow_55 : decode cX6_stow 55 = .ok (.iinc 3 1, 3) := by decide +kernel
theorem dX6_stow_58 : decode cX6_stow 58 = .ok (.goto (-34), 3) := by decide +kernel
theorem dX6_stow_61 : decode cX6_stow 61 = .ok (.ldc 222, 2) := by decide +kernel
theorem dX6_stow_63 : decode cX6_stow 63 = .ok (.istore_n 3, 1) := by decide +kernel
theorem dX6_stow_64 : decode cX6_stow 64 = .ok (.iconst 0, 1) := by decide +kernel
theorem dX6_stow_65 : decode cX6_stow 65 = .ok (.istore 4, 2) := by decide +kernel
theorem dX6_stow_67 : decode cX6_stow 67 = .ok (.iload 4, 2) := by decide +kernel
theorem dX6_stow_69 : decode cX6_stow 69 = .ok (.iload_n 2, 1) := by decide +kernel
theorem dX6_stow_70 : decode cX6_stow 70 = .ok (.if_icmp .ge 107, 3) := by decide +kernel
theorem dX6_stow_73 : decode cX6_stow 73 = .ok (.iload 4, 2) := by decide +kernel
theorem dX6_stow_75 : decode cX6_stow 75 = .ok (.istore 5, 2) := by decide +kernel
theorem dX6_stow_77 : decode cX6_stow 77 = .ok (.aload_n 0, 1) := by decide +kernel
theorem dX6_stow_78 : decode cX6_stow 78 = .ok (.getfield 86, 3) := by decide +kernel
theorem dX6_stow_81 : decode cX6_stow 81 = .ok (.iconst 1, 1) := by decide +kernel
theorem dX6_stow_82 : decode cX6_stow 82 = .ok (.isub, 1) := by decide +kernel
theorem dX6_stow_83 : decode cX6_stow 83 = .ok (.istore 6, 2) := by decide +kernel
theorem dX6_stow_85 : decode cX6_stow 85 = .ok (.iload 6, 2) := by decide +kernel
theorem dX6_stow_87 : decode cX6_stow 87 = .ok (.ifCond .lt 32, 3) := by decide +kernel
theorem dX6_stow_90 : decode cX6_stow 90 = .ok (.aload_n 0, 1) := by decide +kernel
theorem dX6_stow_91 : decode cX6_stow 91 = .ok (.getfield 56, 3) := by decide +kernel
theorem dX6_stow_94 : decode cX6_stow 94 = .ok (.iload 6, 2) := by decide +kernel
theorem dX6_stow_96 : decode cX6_stow 96 = .ok (.iload 5, 2) := by decide +kernel
theorem dX6_stow_98 : decode cX6_stow 98 = .ok (.aload_n 0, 1) := by decide +kernel
theorem dX6_stow_99 : decode cX6_stow 99 = .ok (.getfield 78, 3) := by decide +kernel
theorem dX6_stow_102 : decode cX6_stow 102 = .ok (.irem, 1) := by decide +kernel
theorem dX6_stow_103 : decode cX6_stow 103 = .ok (.iastore, 1) := by decide +kernel
theorem dX6_stow_104 : decode cX6_stow 104 = .ok (.iload 5, 2) := by decide +kernel
theorem dX6_stow_106 : decode cX6_stow 106 = .ok (.aload_n 0, 1) := by decide +kernel
theorem dX6_stow_107 : decode cX6_stow 107 = .ok (.getfield 78, 3) := by decide +kernel
theorem dX6_stow_110 : decode cX6_stow 110 = .ok (.idiv, 1) := by decide +kernel
theorem dX6_stow_111 : decode cX6_stow 111 = .ok (.istore 5, 2) := by decide +kernel
theorem dX6_stow_113 : decode cX6_stow 113 = .ok (.iinc 6 (-1), 3) := by decide +kernel
theorem dX6_stow_116 : decode cX6_stow 116 = .ok (.goto (-31), 3) := by decide +kernel
theorem dX6_stow_119 : decode cX6_stow 119 = .ok (.aload_n 0, 1) := by decide +kernel
theorem dX6_stow_120 : decode cX6_stow 120 = .ok (.invokevirtual 229, 3) := by decide +kernel
theorem dX6_stow_123 : decode cX6_stow 123 = .ok (.istore 6, 2) := by decide +kernel
theorem dX6_stow_125 : decode cX6_stow 125 = .ok (.iload 6, 2) := by decide +kernel
theorem dX6_stow_127 : decode cX6_stow 127 = .ok (.ifCond .lt 44, 3) := by decide +kernel
theorem dX6_stow_130 : decode cX6_stow 130 = .ok (.iload 6, 2) := by decide +kernel
theorem dX6_stow_132 : decode cX6_stow 132 = .ok (.iload_n 3, 1) := by decide +kernel
theorem dX6_stow_133 : decode cX6_stow 133 = .ok (.if_icmp .ge 38, 3) := by decide +kernel
theorem dX6_stow_136 : decode cX6_stow 136 = .ok (.iload 6, 2) := by decide +kernel
theorem dX6_stow_138 : decode cX6_stow 138 = .ok (.istore_n 3, 1) := by decide +kernel
theorem dX6_stow_139 : decode cX6_stow 139 = .ok (.iconst 0, 1) := by decide +kernel
theorem dX6_stow_140 : decode cX6_stow 140 = .ok (.istore 7, 2) := by decide +kernel
theorem dX6_stow_142 : decode cX6_stow 142 = .ok (.iload 7, 2) := by decide +kernel
theorem dX6_stow_144 : decode cX6_stow 144 = .ok (.aload_n 0, 1) := by decide +kernel
theorem dX6_stow_145 : decode cX6_stow 145 = .ok (.getfield 86, 3) := by decide +kernel
theorem dX6_stow_148 : decode cX6_stow 148 = .ok (.if_icmp .ge 23, 3) := by decide +kernel
theorem dX6_stow_151 : decode cX6_stow 151 = .ok (.aload_n 0, 1) := by decide +kernel
theorem dX6_stow_152 : decode cX6_stow 152 = .ok (.getfield 59, 3) := by decide +kernel
theorem dX6_stow_155 : decode cX6_stow 155 = .ok (.iload 7, 2) := by decide +kernel
theorem dX6_stow_157 : decode cX6_stow 157 = .ok (.aload_n 0, 1) := by decide +kernel
theorem dX6_stow_158 : decode cX6_stow 158 = .ok (.getfield 56, 3) := by decide +kernel
theorem dX6_stow_161 : decode cX6_stow 161 = .ok (.iload 7, 2) := by decide +kernel
theorem dX6_stow_163 : decode cX6_stow 163 = .ok (.iaload, 1) := by decide +kernel
theorem dX6_stow_164 : decode cX6_stow 164 = .ok (.iastore, 1) := by decide +kernel
theorem dX6_stow_165 : decode cX6_stow 165 = .ok (.iinc 7 1, 3) := by decide +kernel
theorem dX6_stow_168 : decode cX6_stow 168 = .ok (.goto (-26), 3) := by decide +kernel
theorem dX6_stow_171 : decode cX6_stow 171 = .ok (.iinc 4 1, 3) := by decide +kernel
theorem dX6_stow_174 : decode cX6_stow 174 = .ok (.goto (-107), 3) := by decide +kernel
theorem dX6_stow_177 : decode cX6_stow 177 = .ok (.iload_n 3, 1) := by decide +kernel
theorem dX6_stow_178 : decode cX6_stow 178 = .ok (.ldc 222, 2) := by decide +kernel
theorem dX6_stow_180 : decode cX6_stow 180 = .ok (.if_icmp .ne 8, 3) := by decide +kernel
theorem dX6_stow_183 : decode cX6_stow 183 = .ok (.bipush (-9), 2) := by decide +kernel
theorem dX6_stow_185 : decode cX6_stow 185 = .ok (.goto 17, 3) := by decide +kernel
theorem dX6_stow_188 : decode cX6_stow 188 = .ok (.iload_n 1, 1) := by decide +kernel
theorem dX6_stow_189 : decode cX6_stow 189 = .ok (.ifCond .ge 7, 3) := by decide +kernel
theorem dX6_stow_192 : decode cX6_stow 192 = .ok (.iload_n 3, 1) := by decide +kernel
theorem dX6_stow_193 : decode cX6_stow 193 = .ok (.goto 9, 3) := by decide +kernel
theorem dX6_stow_196 : decode cX6_stow 196 = .ok (.aload_n 0, 1) := by decide +kernel
theorem dX6_stow_197 : decode cX6_stow 197 = .ok (.getfield 59, 3) := by decide +kernel
theorem dX6_stow_200 : decode cX6_stow 200 = .ok (.iload_n 1, 1) := by decide +kernel
theorem dX6_stow_201 : decode cX6_stow 201 = .ok (.iaload, 1) := by decide +kernel
theorem dX6_stow_202 : decode cX6_stow 202 = .ok (.ireturn, 1) := by decide +kernel
theorem dX6_hoard_0 : decode cX6_hoard 0 = .ok (.aload_n 0, 1) := by decide +kernel
theorem dX6_hoard_1 : decode cX6_hoard 1 = .ok (.iload_n 1, 1) := by decide +kernel
theorem dX6_hoard_2 : decode cX6_hoard 2 = .ok (.invokevirtual 178, 3) := by decide +kernel
theorem dX6_hoard_5 : decode cX6_hoard 5 = .ok (.ifCond .ne 5, 3) := by decide +kernel
theorem dX6_hoard_8 : decode cX6_hoard 8 = .ok (.iconst (-1), 1) := by decide +kernel
theorem dX6_hoard_9 : decode cX6_hoard 9 = .ok (.ireturn, 1) := by decide +kernel
theorem dX6_hoard_10 : decode cX6_hoard 10 = .ok (.iconst 0, 1) := by decide +kernel
theorem dX6_hoard_11 : decode cX6_hoard 11 = .ok (.istore_n 2, 1) := by decide +kernel
theorem dX6_hoard_12 : decode cX6_hoard 12 = .ok (.iconst 0, 1) := by decide +kernel
theorem dX6_hoard_13 : decode cX6_hoard 13 = .ok (.istore_n 3, 1) := by decide +kernel
theorem dX6_hoard_14 : decode cX6_hoard 14 = .ok (.iload_n 3, 1) := by decide +kernel
theorem dX6_hoard_15 : decode cX6_hoard 15 = .ok (.iconst 1, 1) := by decide +kernel
theorem dX6_hoard_16 : decode cX6_hoard 16 = .ok (.aload_n 0, 1) := by decide +kernel
theorem dX6_hoard_17 : decode cX6_hoard 17 = .ok (.getfield 86, 3) := by decide +kernel
theorem dX6_hoard_20 : decode cX6_hoard 20 = .ok (.ishl, 1) := by decide +kernel
theorem dX6_hoard_21 : decode cX6_hoard 21 = .ok (.if_icmp .ge 134, 3) := by decide +kernel
theorem dX6_hoard_24 : decode cX6_hoard 24 = .ok (.iconst 0, 1) := by decide +kernel
theorem dX6_hoard_25 : decode cX6_hoard 25 = .ok (.istore 4, 2) := by decide +kernel
theorem dX6_hoard_27 : decode cX6_hoard 27 = .ok (.iconst 0, 1) := by decide +kernel
theorem dX6_hoard_28 : decode cX6_hoard 28 = .ok (.istore 5, 2) := by decide +kernel
theorem dX6_hoard_30 : decode cX6_hoard 30 = .ok (.iconst 0, 1) := by decide +kernel
theorem dX6_hoard_31 : decode cX6_hoard 31 = .ok (.istore 6, 2) := by decide +kernel
theorem dX6_hoard_33 : decode cX6_hoard 33 = .ok (.iload 6, 2) := by decide +kernel
theorem dX6_hoard_35 : decode cX6_hoard 35 = .ok (.aload_n 0, 1) := by decide +kernel
theorem dX6_hoard_36 : decode cX6_hoard 36 = .ok (.getfield 86, 3) := by decide +kernel
theorem dX6_hoard_39 : decode cX6_hoard 39 = .ok (.if_icmp .ge 83, 3) := by decide +kernel
theorem dX6_hoard_42 : decode cX6_hoard 42 = .ok (.iload_n 3, 1) := by decide +kernel
theorem dX6_hoard_43 : decode cX6_hoard 43 = .ok (.iload 6, 2) := by decide +kernel
theorem dX6_hoard_45 : decode cX6_hoard 45 = .ok (.invokestatic 165, 3) := by decide +kernel
theorem dX6_hoard_48 : decode cX6_hoard 48 = .ok (.istore 7, 2) := by decide +kernel
theorem dX6_hoard_50 : decode cX6_hoard 50 = .ok (.iload 4, 2) := by decide +kernel
theorem dX6_hoard_52 : decode cX6_hoard 52 = .ok (.iload 7, 2) := by decide +kernel
theorem dX6_hoard_54 : decode cX6_hoard 54 = .ok (.ifCond .ne 7, 3) := by decide +kernel
theorem dX6_hoard_57 : decode cX6_hoard 57 = .ok (.iconst 0, 1) := by decide +kernel
theorem dX6_hoard_58 : decode cX6_hoard 58 = .ok (.goto 34, 3) := by decide +kernel
theorem dX6_hoard_61 : decode cX6_hoard 61 = .ok (.aload_n 0, 1) := by decide +kernel
theorem dX6_hoard_62 : decode cX6_hoard 62 = .ok (.aload_n 0, 1) := by decide +kernel
theorem dX6_hoard_63 : decode cX6_hoard 63 = .ok (.getfield 23, 3) := by decide +kernel
theorem dX6_hoard_66 : decode cX6_hoard 66 = .ok (.iload 6, 2) := by decide +kernel
theorem dX6_hoard_68 : decode cX6_hoard 68 = .ok (.iaload, 1) := by decide +kernel
theorem dX6_hoard_69 : decode cX6_hoard 69 = .ok (.invokevirtual 190, 3) := by decide +kernel
theorem dX6_hoard_72 : decode cX6_hoard 72 = .ok (.iload_n 1, 1) := by decide +kernel
theorem dX6_hoard_73 : decode cX6_hoard 73 = .ok (.invokestatic 165, 3) := by decide +kernel
theorem dX6_hoard_76 : decode cX6_hoard 76 = .ok (.ifCond .eq 13, 3) := by decide +kernel
theorem dX6_hoard_79 : decode cX6_hoard 79 = .ok (.aload_n 0, 1) := by decide +kernel
theorem dX6_hoard_80 : decode cX6_hoard 80 = .ok (.getfield 26, 3) := by decide +kernel
theorem dX6_hoard_83 : decode cX6_hoard 83 = .ok (.iload 6, 2) := by decide +kernel
theorem dX6_hoard_85 : decode cX6_hoard 85 = .ok (.iaload, 1) := by decide +kernel
theorem dX6_hoard_86 : decode cX6_hoard 86 = .ok (.goto 6, 3) := by decide +kernel
theorem dX6_hoard_89 : decode cX6_hoard 89 = .ok (.sipush 200, 3) := by decide +kernel
theorem dX6_hoard_92 : decode cX6_hoard 92 = .ok (.iadd, 1) := by decide +kernel
theorem dX6_hoard_93 : decode cX6_hoard 93 = .ok (.istore 4, 2) := by decide +kernel
theorem dX6_hoard_95 : decode cX6_hoard 95 = .ok (.iload 5, 2) := by decide +kernel
theorem dX6_hoard_97 : decode cX6_hoard 97 = .ok (.iload 7, 2) := by decide +kernel
theorem dX6_hoard_99 : decode cX6_hoard 99 = .ok (.ifCond .eq 13, 3) := by decide +kernel
theorem dX6_hoard_102 : decode cX6_hoard 102 = .ok (.aload_n 0, 1) := by decide +kernel
theorem dX6_hoard_103 : decode cX6_hoard 103 = .ok (.getfield 29, 3) := by decide +kernel
theorem dX6_hoard_106 : decode cX6_hoard 106 = .ok (.iload 6, 2) := by decide +kernel
theorem dX6_hoard_108 : decode cX6_hoard 108 = .ok (.iaload, 1) := by decide +kernel
theorem dX6_hoard_109 : decode cX6_hoard 109 = .ok (.goto 4, 3) := by decide +kernel
theorem dX6_hoard_112 : decode cX6_hoard 112 = .ok (.iconst 0, 1) := by decide +kernel
theorem dX6_hoard_113 : decode cX6_hoard 113 = .ok (.iadd, 1) := by decide +kernel
theorem dX6_hoard_114 : decode cX6_hoard 114 = .ok (.istore 5, 2) := by decide +kernel
theorem dX6_hoard_116 : decode cX6_hoard 116 = .ok (.iinc 6 1, 3) := by decide +kernel
theorem dX6_hoard_119 : decode cX6_hoard 119 = .ok (.goto (-86), 3) := by decide +kernel
theorem dX6_hoard_122 : decode cX6_hoard 122 = .ok (.iload 4, 2) := by decide +kernel
theorem dX6_hoard_124 : decode cX6_hoard 124 = .ok (.aload_n 0, 1) := by decide +kernel
theorem dX6_hoard_125 : decode cX6_hoard 125 = .ok (.getfield 13, 3) := by decide +kernel
theorem dX6_hoard_128 : decode cX6_hoard 128 = .ok (.bipush 8, 2) := by decide +kernel
theorem dX6_hoard_130 : decode cX6_hoard 130 = .ok (.iload_n 1, 1) := by decide +kernel
theorem dX6_hoard_131 : decode cX6_hoard 131 = .ok (.imul, 1) := by decide +kernel
theorem dX6_hoard_132 : decode cX6_hoard 132 = .ok (.iaload, 1) := by decide +kernel
theorem dX6_hoard_133 : decode cX6_hoard 133 = .ok (.if_icmp .gt 14, 3) := by decide +kernel
theorem dX6_hoard_136 : decode cX6_hoard 136 = .ok (.iload 5, 2) := by decide +kernel
theorem dX6_hoard_138 : decode cX6_hoard 138 = .ok (.iload_n 2, 1) := by decide +kernel
theorem dX6_hoard_139 : decode cX6_hoard 139 = .ok (.if_icmp .le 8, 3) := by decide +kernel
theorem dX6_hoard_142 : decode cX6_hoard 142 = .ok (.iload 5, 2) := by decide +kernel
theorem dX6_hoard_144 : decode cX6_hoard 144 = .ok (.goto 4, 3) := by decide +kernel
theorem dX6_hoard_147 : decode cX6_hoard 147 = .ok (.iload_n 2, 1) := by decide +kernel
theorem dX6_hoard_148 : decode cX6_hoard 148 = .ok (.istore_n 2, 1) := by decide +kernel
theorem dX6_hoard_149 : decode cX6_hoard 149 = .ok (.iinc 3 1, 3) := by decide +kernel
theorem dX6_hoard_152 : decode cX6_hoard 152 = .ok (.goto (-138), 3) := by decide +kernel
theorem dX6_hoard_155 : decode cX6_hoard 155 = .ok (.iload_n 2, 1) := by decide +kernel
theorem dX6_hoard_156 : decode cX6_hoard 156 = .ok (.ireturn, 1) := by decide +kernel
theorem dX6_dropsFrom_0 : decode cX6_dropsFrom 0 = .ok (.iload_n 1, 1) := by decide +kernel
theorem dX6_dropsFrom_1 : decode cX6_dropsFrom 1 = .ok (.istore 4, 2) := by decide +kernel
theorem dX6_dropsFrom_3 : decode cX6_dropsFrom 3 = .ok (.iconst 0, 1) := by decide +kernel
theorem dX6_dropsFrom_4 : decode cX6_dropsFrom 4 = .ok (.istore 5, 2) := by decide +kernel
theorem dX6_dropsFrom_6 : decode cX6_dropsFrom 6 = .ok (.iload 5, 2) := by decide +kernel
theorem dX6_dropsFrom_8 : decode cX6_dropsFrom 8 = .ok (.iload_n 3, 1) := by decide +kernel
theorem dX6_dropsFrom_9 : decode cX6_dropsFrom 9 = .ok (.if_icmp .ge 18, 3) := by decide +kernel
theorem dX6_dropsFrom_12 : decode cX6_dropsFrom 12 = .ok (.aload_n 0, 1) := by decide +kernel
theorem dX6_dropsFrom_13 : decode cX6_dropsFrom 13 = .ok (.iload 4, 2) := by decide +kernel
theorem dX6_dropsFrom_15 : decode cX6_dropsFrom 15 = .ok (.iload_n 2, 1) := by decide +kernel
theorem dX6_dropsFrom_16 : decode cX6_dropsFrom 16 = .ok (.invokevirtual 218, 3) := by decide +kernel
theorem dX6_dropsFrom_19 : decode cX6_dropsFrom 19 = .ok (.istore 4, 2) := by decide +kernel
theorem dX6_dropsFrom_21 : decode cX6_dropsFrom 21 = .ok (.iinc 5 1, 3) := by decide +kernel
theorem dX6_dropsFrom_24 : decode cX6_dropsFrom 24 = .ok (.goto (-18), 3) := by decide +kernel
theorem dX6_dropsFrom_27 : decode cX6_dropsFrom 27 = .ok (.iload 4, 2) := by decide +kernel
theorem dX6_dropsFrom_29 : decode cX6_dropsFrom 29 = .ok (.ireturn, 1) := by decide +kernel
theorem dX6_drops_0 : decode cX6_drops 0 = .ok (.aload_n 0, 1) := by decide +kernel
theorem dX6_drops_1 : decode cX6_drops 1 = .ok (.iload_n 1, 1) := by decide +kernel
theorem dX6_drops_2 : decode cX6_drops 2 = .ok (.invokevirtual 193, 3) := by decide +kernel
theorem dX6_drops_5 : decode cX6_drops 5 = .ok (.ifCond .eq 35, 3) := by decide +kernel
theorem dX6_drops_8 : decode cX6_drops 8 = .ok (.iload_n 2, 1) := by decide +kernel
theorem dX6_drops_9 : decode cX6_drops 9 = .ok (.i2l, 1) := by decide +kernel
theorem dX6_drops_10 : decode cX6_drops 10 = .ok (.lconst 0, 1) := by decide +kernel
theorem dX6_drops_11 : decode cX6_drops 11 = .ok (.ldc2_w 232, 3) := by decide +kernel
theorem dX6_drops_14 : decode cX6_drops 14 = .ok (.invokestatic 82, 3) := by decide +kernel
theorem dX6_drops_17 : decode cX6_drops 17 = .ok (.ifCond .eq 23, 3) := by decide +kernel
theorem dX6_drops_20 : decode cX6_drops 20 = .ok (.aload_n 0, 1) := by decide +kernel
theorem dX6_drops_21 : decode cX6_drops 21 = .ok (.aload_n 0, 1) := by decide +kernel
theorem dX6_drops_22 : decode cX6_drops 22 = .ok (.getfield 32, 3) := by decide +kernel
theorem dX6_drops_25 : decode cX6_drops 25 = .ok (.iload_n 1, 1) := by decide +kernel
theorem dX6_drops_26 : decode cX6_drops 26 = .ok (.iaload, 1) := by decide +kernel
theorem dX6_drops_27 : decode cX6_drops 27 = .ok (.aload_n 0, 1) := by decide +kernel
theorem dX6_drops_28 : decode cX6_drops 28 = .ok (.getfield 26, 3) := by decide +kernel
theorem dX6_drops_31 : decode cX6_drops 31 = .ok (.iload_n 1, 1) := by decide +kernel
theorem dX6_drops_32 : decode cX6_drops 32 = .ok (.iaload, 1) := by decide +kernel
theorem dX6_drops_33 : decode cX6_drops 33 = .ok (.iload_n 2, 1) := by decide +kernel
theorem dX6_drops_34 : decode cX6_drops 34 = .ok (.invokevirtual 234, 3) := by decide +kernel
theorem dX6_drops_37 : decode cX6_drops 37 = .ok (.goto 4, 3) := by decide +kernel
theorem dX6_drops_40 : decode cX6_drops 40 = .ok (.iconst (-1), 1) := by decide +kernel
theorem dX6_drops_41 : decode cX6_drops 41 = .ok (.ireturn, 1) := by decide +kernel
theorem dX6_lay_0 : decode cX6_lay 0 = .ok (.aload_n 0, 1) := by decide +kernel
theorem dX6_lay_1 : decode cX6_lay 1 = .ok (.iload_n 1, 1) := by decide +kernel
theorem dX6_lay_2 : decode cX6_lay 2 = .ok (.invokevirtual 193, 3) := by decide +kernel
theorem dX6_lay_5 : decode cX6_lay 5 = .ok (.ifCond .eq 15, 3) := by decide +kernel
theorem dX6_lay_8 : decode cX6_lay 8 = .ok (.iload_n 2, 1) := by decide +kernel
theorem dX6_lay_9 : decode cX6_lay 9 = .ok (.i2l, 1) := by decide +kernel
theorem dX6_lay_10 : decode cX6_lay 10 = .ok (.lconst 0, 1) := by decide +kernel
theorem dX6_lay_11 : decode cX6_lay 11 = .ok (.ldc2_w 232, 3) := by decide +kernel
theorem dX6_lay_14 : decode cX6_lay 14 = .ok (.invokestatic 82, 3) := by decide +kernel
theorem dX6_lay_17 : decode cX6_lay 17 = .ok (.ifCond .ne 5, 3) := by decide +kernel
theorem dX6_lay_20 : decode cX6_lay 20 = .ok (.iconst (-1), 1) := by decide +kernel
theorem dX6_lay_21 : decode cX6_lay 21 = .ok (.ireturn, 1) := by decide +kernel
theorem dX6_lay_22 : decode cX6_lay 22 = .ok (.iconst 0, 1) := by decide +kernel
theorem dX6_lay_23 : decode cX6_lay 23 = .ok (.istore_n 3, 1) := by decide +kernel
theorem dX6_lay_24 : decode cX6_lay 24 = .ok (.iconst 0, 1) := by decide +kernel
theorem dX6_lay_25 : decode cX6_lay 25 = .ok (.istore 4, 2) := by decide +kernel
theorem dX6_lay_27 : decode cX6_lay 27 = .ok (.iload 4, 2) := by decide +kernel
theorem dX6_lay_29 : decode cX6_lay 29 = .ok (.aload_n 0, 1) := by decide +kernel
theorem dX6_lay_30 : decode cX6_lay 30 = .ok (.getfield 78, 3) := by decide +kernel
theorem dX6_lay_33 : decode cX6_lay 33 = .ok (.if_icmp .ge 42, 3) := by decide +kernel
theorem dX6_lay_36 : decode cX6_lay 36 = .ok (.iload_n 3, 1) := by decide +kernel
theorem dX6_lay_37 : decode cX6_lay 37 = .ok (.aload_n 0, 1) := by decide +kernel
theorem dX6_lay_38 : decode cX6_lay 38 = .ok (.iload 4, 2) := by decide +kernel
theorem dX6_lay_40 : decode cX6_lay 40 = .ok (.aload_n 0, 1) := by decide +kernel
theorem dX6_lay_41 : decode cX6_lay 41 = .ok (.getfield 26, 3) := by decide +kernel
theorem dX6_lay_44 : decode cX6_lay 44 = .ok (.iload_n 1, 1) := by decide +kernel
theorem dX6_lay_45 : decode cX6_lay 45 = .ok (.iaload, 1) := by decide +kernel
theorem dX6_lay_46 : decode cX6_lay 46 = .ok (.iload_n 2, 1) := by decide +kernel
theorem dX6_lay_47 : decode cX6_lay 47 = .ok (.invokevirtual 234, 3) := by decide +kernel
theorem dX6_lay_50 : decode cX6_lay 50 = .ok (.aload_n 0, 1) := by decide +kernel
theorem dX6_lay_51 : decode cX6_lay 51 = .ok (.getfield 32, 3) := by decide +kernel
theorem dX6_lay_54 : decode cX6_lay 54 = .ok (.iload_n 1, 1) := by decide +kernel
theorem dX6_lay_55 : decode cX6_lay 55 = .ok (.iaload, 1) := by decide +kernel
theorem dX6_lay_56 : decode cX6_lay 56 = .ok (.if_icmp .ne 10, 3) := by decide +kernel
theorem dX6_lay_59 : decode cX6_lay 59 = .ok (.iconst 1, 1) := by decide +kernel
theorem dX6_lay_60 : decode cX6_lay 60 = .ok (.iload 4, 2) := by decide +kernel
theorem dX6_lay_62 : decode cX6_lay 62 = .ok (.ishl, 1) := by decide +kernel
theorem dX6_lay_63 : decode cX6_lay 63 = .ok (.goto 4, 3) := by decide +kernel
theorem dX6_lay_66 : decode cX6_lay 66 = .ok (.iconst 0, 1) := by decide +kernel
theorem dX6_lay_67 : decode cX6_lay 67 = .ok (.ior, 1) := by decide +kernel
theorem dX6_lay_68 : decode cX6_lay 68 = .ok (.istore_n 3, 1) := by decide +kernel
theorem dX6_lay_69 : decode cX6_lay 69 = .ok (.iinc 4 1, 3) := by decide +kernel
theorem dX6_lay_72 : decode cX6_lay 72 = .ok (.goto (-45), 3) := by decide +kernel
theorem dX6_lay_75 : decode cX6_lay 75 = .ok (.iload_n 3, 1) := by decide +kernel
theorem dX6_lay_76 : decode cX6_lay 76 = .ok (.ireturn, 1) := by decide +kernel
theorem dX6_stitches_0 : decode cX6_stitches 0 = .ok (.aload_n 0, 1) := by decide +kernel
theorem dX6_stitches_1 : decode cX6_stitches 1 = .ok (.iload_n 1, 1) := by decide +kernel
theorem dX6_stitches_2 : decode cX6_stitches 2 = .ok (.invokevirtual 178, 3) := by decide +kernel
theorem dX6_stitches_5 : decode cX6_stitches 5 = .ok (.ifCond .eq 26, 3) := by decide +kernel
theorem dX6_stitches_8 : decode cX6_stitches 8 = .ok (.aload_n 0, 1) := by decide +kernel
theorem dX6_stitches_9 : decode cX6_stitches 9 = .ok (.iload_n 2, 1) := by decide +kernel
theorem dX6_stitches_10 : decode cX6_stitches 10 = .ok (.invokevirtual 178, 3) := by decide +kernel
theorem dX6_stitches_13 : decode cX6_stitches 13 = .ok (.ifCond .eq 18, 3) := by decide +kernel
theorem dX6_stitches_16 : decode cX6_stitches 16 = .ok (.iload_n 1, 1) := by decide +kernel
theorem dX6_stitches_17 : decode cX6_stitches 17 = .ok (.iload_n 2, 1) := by decide +kernel
theorem dX6_stitches_18 : decode cX6_stitches 18 = .ok (.if_icmp .eq 13, 3) := by decide +kernel
theorem dX6_stitches_21 : decode cX6_stitches 21 = .ok (.iload_n 3, 1) := by decide +kernel
theorem dX6_stitches_22 : decode cX6_stitches 22 = .ok (.i2l, 1) := by decide +kernel
theorem dX6_stitches_23 : decode cX6_stitches 23 = .ok (.lconst 0, 1) := by decide +kernel
theorem dX6_stitches_24 : decode cX6_stitches 24 = .ok (.lconst 1, 1) := by decide +kernel
theorem dX6_stitches_25 : decode cX6_stitches 25 = .ok (.invokestatic 82, 3) := by decide +kernel
theorem dX6_stitches_28 : decode cX6_stitches 28 = .ok (.ifCond .ne 5, 3) := by decide +kernel
theorem dX6_stitches_31 : decode cX6_stitches 31 = .ok (.iconst (-1), 1) := by decide +kernel
theorem dX6_stitches_32 : decode cX6_stitches 32 = .ok (.ireturn, 1) := by decide +kernel
theorem dX6_stitches_33 : decode cX6_stitches 33 = .ok (.bipush 6, 2) := by decide +kernel
theorem dX6_stitches_35 : decode cX6_stitches 35 = .ok (.istore 4, 2) := by decide +kernel
theorem dX6_stitches_37 : decode cX6_stitches 37 = .ok (.iload_n 1, 1) := by decide +kernel
theorem dX6_stitches_38 : decode cX6_stitches 38 = .ok (.istore 5, 2) := by decide +kernel
theorem dX6_stitches_40 : decode cX6_stitches 40 = .ok (.iconst 0, 1) := by decide +kernel
theorem dX6_stitches_41 : decode cX6_stitches 41 = .ok (.istore 6, 2) := by decide +kernel
theorem dX6_stitches_43 : decode cX6_stitches 43 = .ok (.iload 6, 2) := by decide +kernel
theorem dX6_stitches_45 : decode cX6_stitches 45 = .ok (.bipush 6, 2) := by decide +kernel
theorem dX6_stitches_47 : decode cX6_stitches 47 = .ok (.if_icmp .ge 40, 3) := by decide +kernel
theorem dX6_stitches_50 : decode cX6_stitches 50 = .ok (.iload 5, 2) := by decide +kernel
theorem dX6_stitches_52 : decode cX6_stitches 52 = .ok (.iload_n 2, 1) := by decide +kernel
theorem dX6_stitches_53 : decode cX6_stitches 53 = .ok (.if_icmp .eq 34, 3) := by decide +kernel
theorem dX6_stitches_56 : decode cX6_stitches 56 = .ok (.iload 5, 2) := by decide +kernel
theorem dX6_stitches_58 : decode cX6_stitches 58 = .ok (.iload 4, 2) := by decide +kernel
theorem dX6_stitches_60 : decode cX6_stitches 60 = .ok (.if_icmp .ge 8, 3) := by decide +kernel
theorem dX6_stitches_63 : decode cX6_stitches 63 = .ok (.iload 5, 2) := by decide +kernel
theorem dX6_stitches_65 : decode cX6_stitches 65 = .ok (.goto 5, 3) := by decide +kernel
theorem dX6_stitches_68 : decode cX6_stitches 68 = .ok (.iload 4, 2) := by decide +kernel
theorem dX6_stitches_70 : decode cX6_stitches 70 = .ok (.istore 4, 2) := by decide +kernel
theorem dX6_stitches_72 : decode cX6_stitches 72 = .ok (.aload_n 0, 1) := by decide +kernel
theorem dX6_stitches_73 : decode cX6_stitches 73 = .ok (.iload 5, 2) := by decide +kernel
theorem dX6_stitches_75 : decode cX6_stitches 75 = .ok (.iconst 1, 1) := by decide +kernel
theorem dX6_stitches_76 : decode cX6_stitches 76 = .ok (.invokevirtual 218, 3) := by decide +kernel
theorem dX6_stitches_79 : decode cX6_stitches 79 = .ok (.istore 5, 2) := by decide +kernel
theorem dX6_stitches_81 : decode cX6_stitches 81 = .ok (.iinc 6 1, 3) := by decide +kernel
theorem dX6_stitches_84 : decode cX6_stitches 84 = .ok (.goto (-41), 3) := by decide +kernel
theorem dX6_stitches_87 : decode cX6_stitches 87 = .ok (.iload 5, 2) := by decide +kernel
theorem dX6_stitches_89 : decode cX6_stitches 89 = .ok (.iload_n 2, 1) := by decide +kernel
theorem dX6_stitches_90 : decode cX6_stitches 90 = .ok (.if_icmp .ne 7, 3) := by decide +kernel
theorem dX6_stitches_93 : decode cX6_stitches 93 = .ok (.iconst 1, 1) := by decide +kernel
theorem dX6_stitches_94 : decode cX6_stitches 94 = .ok (.goto 4, 3) := by decide +kernel
theorem dX6_stitches_97 : decode cX6_stitches 97 = .ok (.iconst 0, 1) := by decide +kernel
theorem dX6_stitches_98 : decode cX6_stitches 98 = .ok (.istore 6, 2) := by decide +kernel
theorem dX6_stitches_100 : decode cX6_stitches 100 = .ok (.iload_n 3, 1) := by decide +kernel
theorem dX6_stitches_101 : decode cX6_stitches 101 = .ok (.ifCond .ne 16, 3) := by decide +kernel
theorem dX6_stitches_104 : decode cX6_stitches 104 = .ok (.iload 6, 2) := by decide +kernel
theorem dX6_stitches_106 : decode cX6_stitches 106 = .ok (.ifCond .eq 7, 3) := by decide +kernel
theorem dX6_stitches_109 : decode cX6_stitches 109 = .ok (.iconst 1, 1) := by decide +kernel
theorem dX6_stitches_110 : decode cX6_stitches 110 = .ok (.goto 19, 3) := by decide +kernel
theorem dX6_stitches_113 : decode cX6_stitches 113 = .ok (.iconst 0, 1) := by decide +kernel
theorem dX6_stitches_114 : decode cX6_stitches 114 = .ok (.goto 15, 3) := by decide +kernel
theorem dX6_stitches_117 : decode cX6_stitches 117 = .ok (.iload 6, 2) := by decide +kernel
theorem dX6_stitches_119 : decode cX6_stitches 119 = .ok (.ifCond .eq 8, 3) := by decide +kernel
theorem dX6_stitches_122 : decode cX6_stitches 122 = .ok (.iload 4, 2) := by decide +kernel
theorem dX6_stitches_124 : decode cX6_stitches 124 = .ok (.goto 5, 3) := by decide +kernel
theorem dX6_stitches_127 : decode cX6_stitches 127 = .ok (.bipush (-9), 2) := by decide +kernel
theorem dX6_stitches_129 : decode cX6_stitches 129 = .ok (.ireturn, 1) := by decide +kernel
theorem dX6_common_0 : decode cX6_common 0 = .ok (.lload_n 0, 1) := by decide +kernel
theorem dX6_common_1 : decode cX6_common 1 = .ok (.lstore 4, 2) := by decide +kernel
theorem dX6_common_3 : decode cX6_common 3 = .ok (.lload_n 2, 1) := by decide +kernel
theorem dX6_common_4 : decode cX6_common 4 = .ok (.lstore 6, 2) := by decide +kernel
theorem dX6_common_6 : decode cX6_common 6 = .ok (.lload 6, 2) := by decide +kernel
theorem dX6_common_8 : decode cX6_common 8 = .ok (.lconst 0, 1) := by decide +kernel
theorem dX6_common_9 : decode cX6_common 9 = .ok (.lcmp, 1) := by decide +kernel
theorem dX6_common_10 : decode cX6_common 10 = .ok (.ifCond .eq 21, 3) := by decide +kernel
theorem dX6_common_13 : decode cX6_common 13 = .ok (.lload 4, 2) := by decide +kernel
theorem dX6_common_15 : decode cX6_common 15 = .ok (.lload 6, 2) := by decide +kernel
theorem dX6_common_17 : decode cX6_common 17 = .ok (.lrem, 1) := by decide +kernel
theorem dX6_common_18 : decode cX6_common 18 = .ok (.lstore 8, 2) := by decide +kernel
theorem dX6_common_20 : decode cX6_common 20 = .ok (.lload 6, 2) := by decide +kernel
theorem dX6_common_22 : decode cX6_common 22 = .ok (.lstore 4, 2) := by decide +kernel
theorem dX6_common_24 : decode cX6_common 24 = .ok (.lload 8, 2) := by decide +kernel
theorem dX6_common_26 : decode cX6_common 26 = .ok (.lstore 6, 2) := by decide +kernel
theorem dX6_common_28 : decode cX6_common 28 = .ok (.goto (-22), 3) := by decide +kernel
theorem dX6_common_31 : decode cX6_common 31 = .ok (.lload 4, 2) := by decide +kernel
theorem dX6_common_33 : decode cX6_common 33 = .ok (.lreturn, 1) := by decide +kernel
theorem dX6_odds_0 : decode cX6_odds 0 = .ok (.aload_n 0, 1) := by decide +kernel
theorem dX6_odds_1 : decode cX6_odds 1 = .ok (.iload_n 1, 1) := by decide +kernel
theorem dX6_odds_2 : decode cX6_odds 2 = .ok (.invokevirtual 193, 3) := by decide +kernel
theorem dX6_odds_5 : decode cX6_odds 5 = .ok (.ifCond .eq 47, 3) := by decide +kernel
theorem dX6_odds_8 : decode cX6_odds 8 = .ok (.aload_n 0, 1) := by decide +kernel
theorem dX6_odds_9 : decode cX6_odds 9 = .ok (.iload_n 2, 1) := by decide +kernel
theorem dX6_odds_10 : decode cX6_odds 10 = .ok (.invokevirtual 178, 3) := by decide +kernel
theorem dX6_odds_13 : decode cX6_odds 13 = .ok (.ifCond .eq 39, 3) := by decide +kernel
theorem dX6_odds_16 : decode cX6_odds 16 = .ok (.iload_n 3, 1) := by decide +kernel
theorem dX6_odds_17 : decode cX6_odds 17 = .ok (.i2l, 1) := by decide +kernel
theorem dX6_odds_18 : decode cX6_odds 18 = .ok (.lconst 0, 1) := by decide +kernel
theorem dX6_odds_19 : decode cX6_odds 19 = .ok (.ldc2_w 237, 3) := by decide +kernel
theorem dX6_odds_22 : decode cX6_odds 22 = .ok (.invokestatic 82, 3) := by decide +kernel
theorem dX6_odds_25 : decode cX6_odds 25 = .ok (.ifCond .eq 27, 3) := by decide +kernel
theorem dX6_odds_28 : decode cX6_odds 28 = .ok (.iload 4, 2) := by decide +kernel
theorem dX6_odds_30 : decode cX6_odds 30 = .ok (.i2l, 1) := by decide +kernel
theorem dX6_odds_31 : decode cX6_odds 31 = .ok (.lconst 0, 1) := by decide +kernel
theorem dX6_odds_32 : decode cX6_odds 32 = .ok (.ldc2_w 239, 3) := by decide +kernel
theorem dX6_odds_35 : decode cX6_odds 35 = .ok (.invokestatic 82, 3) := by decide +kernel
theorem dX6_odds_38 : decode cX6_odds 38 = .ok (.ifCond .eq 14, 3) := by decide +kernel
theorem dX6_odds_41 : decode cX6_odds 41 = .ok (.iload 5, 2) := by decide +kernel
theorem dX6_odds_43 : decode cX6_odds 43 = .ok (.i2l, 1) := by decide +kernel
theorem dX6_odds_44 : decode cX6_odds 44 = .ok (.lconst 0, 1) := by decide +kernel
theorem dX6_odds_45 : decode cX6_odds 45 = .ok (.lconst 1, 1) := by decide +kernel
theorem dX6_odds_46 : decode cX6_odds 46 = .ok (.invokestatic 82, 3) := by decide +kernel
theorem dX6_odds_49 : decode cX6_odds 49 = .ok (.ifCond .ne 5, 3) := by decide +kernel
theorem dX6_odds_52 : decode cX6_odds 52 = .ok (.iconst (-1), 1) := by decide +kernel
theorem dX6_odds_53 : decode cX6_odds 53 = .ok (.ireturn, 1) := by decide +kernel
theorem dX6_odds_54 : decode cX6_odds 54 = .ok (.iconst 0, 1) := by decide +kernel
theorem dX6_odds_55 : decode cX6_odds 55 = .ok (.istore 6, 2) := by decide +kernel
theorem dX6_odds_57 : decode cX6_odds 57 = .ok (.iload 6, 2) := by decide +kernel
theorem dX6_odds_59 : decode cX6_odds 59 = .ok (.bipush 6, 2) := by decide +kernel
theorem dX6_odds_61 : decode cX6_odds 61 = .ok (.if_icmp .ge 32, 3) := by decide +kernel
theorem dX6_odds_64 : decode cX6_odds 64 = .ok (.aload_n 0, 1) := by decide +kernel
theorem dX6_odds_65 : decode cX6_odds 65 = .ok (.getfield 65, 3) := by decide +kernel
theorem dX6_odds_68 : decode cX6_odds 68 = .ok (.iload 6, 2) := by decide +kernel
theorem dX6_odds_70 : decode cX6_odds 70 = .ok (.iload 6, 2) := by decide +kernel
theorem dX6_odds_72 : decode cX6_odds 72 = .ok (.aload_n 0, 1) := by decide +kernel
theorem dX6_odds_73 : decode cX6_odds 73 = .ok (.getfield 32, 3) := by decide +kernel
theorem dX6_odds_76 : decode cX6_odds 76 = .ok (.iload_n 1, 1) := by decide +kernel
theorem dX6_odds_77 : decode cX6_odds 77 = .ok (.iaload, 1) := by decide +kernel
theorem dX6_odds_78 : decode cX6_odds 78 = .ok (.if_icmp .ne 7, 3) := by decide +kernel
theorem dX6_odds_81 : decode cX6_odds 81 = .ok (.lconst 1, 1) := by decide +kernel
theorem dX6_odds_82 : decode cX6_odds 82 = .ok (.goto 4, 3) := by decide +kernel
theorem dX6_odds_85 : decode cX6_odds 85 = .ok (.lconst 0, 1) := by decide +kernel
theorem dX6_odds_86 : decode cX6_odds 86 = .ok (.lastore, 1) := by decide +kernel
theorem dX6_odds_87 : decode cX6_odds 87 = .ok (.iinc 6 1, 3) := by decide +kernel
theorem dX6_odds_90 : decode cX6_odds 90 = .ok (.goto (-33), 3) := by decide +kernel
theorem dX6_odds_93 : decode cX6_odds 93 = .ok (.lconst 1, 1) := by decide +kernel
theorem dX6_odds_94 : decode cX6_odds 94 = .ok (.lstore 6, 2) := by decide +kernel
theorem dX6_odds_96 : decode cX6_odds 96 = .ok (.iconst 0, 1) := by decide +kernel
theorem dX6_odds_97 : decode cX6_odds 97 = .ok (.istore 8, 2) := by decide +kernel
theorem dX6_odds_99 : decode cX6_odds 99 = .ok (.iload 8, 2) := by decide +kernel
theorem dX6_odds_101 : decode cX6_odds 101 = .ok (.iload 4, 2) := by decide +kernel
theorem dX6_odds_103 : decode cX6_odds 103 = .ok (.if_icmp .ge 142, 3) := by decide +kernel
theorem dX6_odds_106 : decode cX6_odds 106 = .ok (.lload 6, 2) := by decide +kernel
theorem dX6_odds_108 : decode cX6_odds 108 = .ok (.ldc2_w 237, 3) := by decide +kernel
theorem dX6_odds_111 : decode cX6_odds 111 = .ok (.lmul, 1) := by decide +kernel
theorem dX6_odds_112 : decode cX6_odds 112 = .ok (.lstore 6, 2) := by decide +kernel
theorem dX6_odds_114 : decode cX6_odds 114 = .ok (.iconst 0, 1) := by decide +kernel
theorem dX6_odds_115 : decode cX6_odds 115 = .ok (.istore 9, 2) := by decide +kernel
theorem dX6_odds_117 : decode cX6_odds 117 = .ok (.iload 9, 2) := by decide +kernel
theorem dX6_odds_119 : decode cX6_odds 119 = .ok (.bipush 6, 2) := by decide +kernel
theorem dX6_odds_121 : decode cX6_odds 121 = .ok (.if_icmp .ge 17, 3) := by decide +kernel
theorem dX6_odds_124 : decode cX6_odds 124 = .ok (.aload_n 0, 1) := by decide +kernel
theorem dX6_odds_125 : decode cX6_odds 125 = .ok (.getfield 69, 3) := by decide +kernel
theorem dX6_odds_128 : decode cX6_odds 128 = .ok (.iload 9, 2) := by decide +kernel
theorem dX6_odds_130 : decode cX6_odds 130 = .ok (.lconst 0, 1) := by decide +kernel
theorem dX6_odds_131 : decode cX6_odds 131 = .ok (.lastore, 1) := by decide +kernel
theorem dX6_odds_132 : decode cX6_odds 132 = .ok (.iinc 9 1, 3) := by decide +kernel
theorem dX6_odds_135 : decode cX6_odds 135 = .ok (.goto (-18), 3) := by decide +kernel
theorem dX6_odds_138 : decode cX6_odds 138 = .ok (.iconst 0, 1) := by decide +kernel
theorem dX6_odds_139 : decode cX6_odds 139 = .ok (.istore 9, 2) := by decide +kernel
theorem dX6_odds_141 : decode cX6_odds 141 = .ok (.iload 9, 2) := by decide +kernel
theorem dX6_odds_143 : decode cX6_odds 143 = .ok (.aload_n 0, 1) := by decide +kernel
theorem dX6_odds_144 : decode cX6_odds 144 = .ok (.getfield 78, 3) := by decide +kernel
theorem dX6_odds_147 : decode cX6_odds 147 = .ok (.if_icmp .ge 62, 3) := by decide +kernel
theorem dX6_odds_150 : decode cX6_odds 150 = .ok (.aload_n 0, 1) := by decide +kernel
theorem dX6_odds_151 : decode cX6_odds 151 = .ok (.getfield 69, 3) := by decide +kernel
theorem dX6_odds_154 : decode cX6_odds 154 = .ok (.aload_n 0, 1) := by decide +kernel
theorem dX6_odds_155 : decode cX6_odds 155 = .ok (.iload 9, 2) := by decide +kernel
theorem dX6_odds_157 : decode cX6_odds 157 = .ok (.aload_n 0, 1) := by decide +kernel
theorem dX6_odds_158 : decode cX6_odds 158 = .ok (.getfield 26, 3) := by decide +kernel
theorem dX6_odds_161 : decode cX6_odds 161 = .ok (.iload_n 1, 1) := by decide +kernel
theorem dX6_odds_162 : decode cX6_odds 162 = .ok (.iaload, 1) := by decide +kernel
theorem dX6_odds_163 : decode cX6_odds 163 = .ok (.invokevirtual 218, 3) := by decide +kernel
theorem dX6_odds_166 : decode cX6_odds 166 = .ok (.dup2, 1) := by decide +kernel
theorem dX6_odds_167 : decode cX6_odds 167 = .ok (.laload, 1) := by decide +kernel
theorem dX6_odds_168 : decode cX6_odds 168 = .ok (.iload_n 3, 1) := by decide +kernel
theorem dX6_odds_169 : decode cX6_odds 169 = .ok (.i2l, 1) := by decide +kernel
theorem dX6_odds_170 : decode cX6_odds 170 = .ok (.aload_n 0, 1) := by decide +kernel
theorem dX6_odds_171 : decode cX6_odds 171 = .ok (.getfield 65, 3) := by decide +kernel
theorem dX6_odds_174 : decode cX6_odds 174 = .ok (.iload 9, 2) := by decide +kernel
theorem dX6_odds_176 : decode cX6_odds 176 = .ok (.laload, 1) := by decide +kernel
theorem dX6_odds_177 : decode cX6_odds 177 = .ok (.lmul, 1) := by decide +kernel
theorem dX6_odds_178 : decode cX6_odds 178 = .ok (.ladd, 1) := by decide +kernel
theorem dX6_odds_179 : decode cX6_odds 179 = .ok (.lastore, 1) := by decide +kernel
theorem dX6_odds_180 : decode cX6_odds 180 = .ok (.aload_n 0, 1) := by decide +kernel
theorem dX6_odds_181 : decode cX6_odds 181 = .ok (.getfield 69, 3) := by decide +kernel
theorem dX6_odds_184 : decode cX6_odds 184 = .ok (.iload 9, 2) := by decide +kernel
theorem dX6_odds_186 : decode cX6_odds 186 = .ok (.dup2, 1) := by decide +kernel
theorem dX6_odds_187 : decode cX6_odds 187 = .ok (.laload, 1) := by decide +kernel
theorem dX6_odds_188 : decode cX6_odds 188 = .ok (.bipush 10, 2) := by decide +kernel
theorem dX6_odds_190 : decode cX6_odds 190 = .ok (.iload_n 3, 1) := by decide +kernel
theorem dX6_odds_191 : decode cX6_odds 191 = .ok (.isub, 1) := by decide +kernel
theorem dX6_odds_192 : decode cX6_odds 192 = .ok (.i2l, 1) := by decide +kernel
theorem dX6_odds_193 : decode cX6_odds 193 = .ok (.aload_n 0, 1) := by decide +kernel
theorem dX6_odds_194 : decode cX6_odds 194 = .ok (.getfield 65, 3) := by decide +kernel
theorem dX6_odds_197 : decode cX6_odds 197 = .ok (.iload 9, 2) := by decide +kernel
theorem dX6_odds_199 : decode cX6_odds 199 = .ok (.laload, 1) := by decide +kernel
theorem dX6_odds_200 : decode cX6_odds 200 = .ok (.lmul, 1) := by decide +kernel
theorem dX6_odds_201 : decode cX6_odds 201 = .ok (.ladd, 1) := by decide +kernel
theorem dX6_odds_202 : decode cX6_odds 202 = .ok (.lastore, 1) := by decide +kernel
theorem dX6_odds_203 : decode cX6_odds 203 = .ok (.iinc 9 1, 3) := by decide +kernel
theorem dX6_odds_206 : decode cX6_odds 206 = .ok (.goto (-65), 3) := by decide +kernel
theorem dX6_odds_209 : decode cX6_odds 209 = .ok (.iconst 0, 1) := by decide +kernel
theorem dX6_odds_210 : decode cX6_odds 210 = .ok (.istore 9, 2) := by decide +kernel
theorem dX6_odds_212 : decode cX6_odds 212 = .ok (.iload 9, 2) := by decide +kernel
theorem dX6_odds_214 : decode cX6_odds 214 = .ok (.bipush 6, 2) := by decide +kernel
theorem dX6_odds_216 : decode cX6_odds 216 = .ok (.if_icmp .ge 23, 3) := by decide +kernel
theorem dX6_odds_219 : decode cX6_odds 219 = .ok (.aload_n 0, 1) := by decide +kernel
theorem dX6_odds_220 : decode cX6_odds 220 = .ok (.getfield 65, 3) := by decide +kernel
theorem dX6_odds_223 : decode cX6_odds 223 = .ok (.iload 9, 2) := by decide +kernel
theorem dX6_odds_225 : decode cX6_odds 225 = .ok (.aload_n 0, 1) := by decide +kernel
theorem dX6_odds_226 : decode cX6_odds 226 = .ok (.getfield 69, 3) := by decide +kernel
theorem dX6_odds_229 : decode cX6_odds 229 = .ok (.iload 9, 2) := by decide +kernel
theorem dX6_odds_231 : decode cX6_odds 231 = .ok (.laload, 1) := by decide +kernel
theorem dX6_odds_232 : decode cX6_odds 232 = .ok (.lastore, 1) := by decide +kernel
theorem dX6_odds_233 : decode cX6_odds 233 = .ok (.iinc 9 1, 3) := by decide +kernel
theorem dX6_odds_236 : decode cX6_odds 236 = .ok (.goto (-24), 3) := by decide +kernel
theorem dX6_odds_239 : decode cX6_odds 239 = .ok (.iinc 8 1, 3) := by decide +kernel
theorem dX6_odds_242 : decode cX6_odds 242 = .ok (.goto (-143), 3) := by decide +kernel
theorem dX6_odds_245 : decode cX6_odds 245 = .ok (.aload_n 0, 1) := by decide +kernel
theorem dX6_odds_246 : decode cX6_odds 246 = .ok (.getfield 65, 3) := by decide +kernel
theorem dX6_odds_249 : decode cX6_odds 249 = .ok (.iload_n 2, 1) := by decide +kernel
theorem dX6_odds_250 : decode cX6_odds 250 = .ok (.laload, 1) := by decide +kernel
theorem dX6_odds_251 : decode cX6_odds 251 = .ok (.lload 6, 2) := by decide +kernel
theorem dX6_odds_253 : decode cX6_odds 253 = .ok (.invokestatic 241, 3) := by decide +kernel
theorem dX6_odds_256 : decode cX6_odds 256 = .ok (.lstore 8, 2) := by decide +kernel
theorem dX6_odds_258 : decode cX6_odds 258 = .ok (.iload 5, 2) := by decide +kernel
theorem dX6_odds_260 : decode cX6_odds 260 = .ok (.ifCond .ne 15, 3) := by decide +kernel
theorem dX6_odds_263 : decode cX6_odds 263 = .ok (.aload_n 0, 1) := by decide +kernel
theorem dX6_odds_264 : decode cX6_odds 264 = .ok (.getfield 65, 3) := by decide +kernel
theorem dX6_odds_267 : decode cX6_odds 267 = .ok (.iload_n 2, 1) := by decide +kernel
theorem dX6_odds_268 : decode cX6_odds 268 = .ok (.laload, 1) := by decide +kernel
theorem dX6_odds_269 : decode cX6_odds 269 = .ok (.lload 8, 2) := by decide +kernel
theorem dX6_odds_271 : decode cX6_odds 271 = .ok (.ldiv, 1) := by decide +kernel
theorem dX6_odds_272 : decode cX6_odds 272 = .ok (.goto 8, 3) := by decide +kernel
theorem dX6_odds_275 : decode cX6_odds 275 = .ok (.lload 6, 2) := by decide +kernel
theorem dX6_odds_277 : decode cX6_odds 277 = .ok (.lload 8, 2) := by decide +kernel
theorem dX6_odds_279 : decode cX6_odds 279 = .ok (.ldiv, 1) := by decide +kernel
theorem dX6_odds_280 : decode cX6_odds 280 = .ok (.l2i, 1) := by decide +kernel
theorem dX6_odds_281 : decode cX6_odds 281 = .ok (.ireturn, 1) := by decide +kernel
theorem dX6_asPocket_0 : decode cX6_asPocket 0 = .ok (.aload_n 0, 1) := by decide +kernel
theorem dX6_asPocket_1 : decode cX6_asPocket 1 = .ok (.dup, 1) := by decide +kernel
theorem dX6_asPocket_2 : decode cX6_asPocket 2 = .ok (.getfield 245, 3) := by decide +kernel
theorem dX6_asPocket_5 : decode cX6_asPocket 5 = .ok (.lconst 1, 1) := by decide +kernel
theorem dX6_asPocket_6 : decode cX6_asPocket 6 = .ok (.ladd, 1) := by decide +kernel
theorem dX6_asPocket_7 : decode cX6_asPocket 7 = .ok (.putfield 245, 3) := by decide +kernel
theorem dX6_asPocket_10 : decode cX6_asPocket 10 = .ok (.aload_n 0, 1) := by decide +kernel
theorem dX6_asPocket_11 : decode cX6_asPocket 11 = .ok (.iload_n 1, 1) := by decide +kernel
theorem dX6_asPocket_12 : decode cX6_asPocket 12 = .ok (.invokevirtual 181, 3) := by decide +kernel
theorem dX6_asPocket_15 : decode cX6_asPocket 15 = .ok (.ireturn, 1) := by decide +kernel
theorem dX6_asCoat_0 : decode cX6_asCoat 0 = .ok (.aload_n 0, 1) := by decide +kernel
theorem dX6_asCoat_1 : decode cX6_asCoat 1 = .ok (.dup, 1) := by decide +kernel
theorem dX6_asCoat_2 : decode cX6_asCoat 2 = .ok (.getfield 245, 3) := by decide +kernel
theorem dX6_asCoat_5 : decode cX6_asCoat 5 = .ok (.ldc2_w 237, 3) := by decide +kernel
theorem dX6_asCoat_8 : decode cX6_asCoat 8 = .ok (.ladd, 1) := by decide +kernel
theorem dX6_asCoat_9 : decode cX6_asCoat 9 = .ok (.putfield 245, 3) := by decide +kernel
theorem dX6_asCoat_12 : decode cX6_asCoat 12 = .ok (.aload_n 0, 1) := by decide +kernel
theorem dX6_asCoat_13 : decode cX6_asCoat 13 = .ok (.iload_n 1, 1) := by decide +kernel
theorem dX6_asCoat_14 : decode cX6_asCoat 14 = .ok (.invokevirtual 249, 3) := by decide +kernel
theorem dX6_asCoat_17 : decode cX6_asCoat 17 = .ok (.aload_n 0, 1) := by decide +kernel
theorem dX6_asCoat_18 : decode cX6_asCoat 18 = .ok (.getfield 13, 3) := by decide +kernel
theorem dX6_asCoat_21 : decode cX6_asCoat 21 = .ok (.bipush 8, 2) := by decide +kernel
theorem dX6_asCoat_23 : decode cX6_asCoat 23 = .ok (.iload_n 1, 1) := by decide +kernel
theorem dX6_asCoat_24 : decode cX6_asCoat 24 = .ok (.imul, 1) := by decide +kernel
theorem dX6_asCoat_25 : decode cX6_asCoat 25 = .ok (.iaload, 1) := by decide +kernel
theorem dX6_asCoat_26 : decode cX6_asCoat 26 = .ok (.iadd, 1) := by decide +kernel
theorem dX6_asCoat_27 : decode cX6_asCoat 27 = .ok (.ireturn, 1) := by decide +kernel
theorem dX6_asPurse_0 : decode cX6_asPurse 0 = .ok (.aload_n 0, 1) := by decide +kernel
theorem dX6_asPurse_1 : decode cX6_asPurse 1 = .ok (.dup, 1) := by decide +kernel
theorem dX6_asPurse_2 : decode cX6_asPurse 2 = .ok (.getfield 245, 3) := by decide +kernel
theorem dX6_asPurse_5 : decode cX6_asPurse 5 = .ok (.ldc2_w 252, 3) := by decide +kernel
theorem dX6_asPurse_8 : decode cX6_asPurse 8 = .ok (.ladd, 1) := by decide +kernel
theorem dX6_asPurse_9 : decode cX6_asPurse 9 = .ok (.putfield 245, 3) := by decide +kernel
theorem dX6_asPurse_12 : decode cX6_asPurse 12 = .ok (.aload_n 0, 1) := by decide +kernel
theorem dX6_asPurse_13 : decode cX6_asPurse 13 = .ok (.iload_n 1, 1) := by decide +kernel
theorem dX6_asPurse_14 : decode cX6_asPurse 14 = .ok (.invokevirtual 249, 3) := by decide +kernel
theorem dX6_asPurse_17 : decode cX6_asPurse 17 = .ok (.aload_n 0, 1) := by decide +kernel
theorem dX6_asPurse_18 : decode cX6_asPurse 18 = .ok (.getfield 13, 3) := by decide +kernel
theorem dX6_asPurse_21 : decode cX6_asPurse 21 = .ok (.bipush 8, 2) := by decide +kernel
theorem dX6_asPurse_23 : decode cX6_asPurse 23 = .ok (.iload_n 1, 1) := by decide +kernel
theorem dX6_asPurse_24 : decode cX6_asPurse 24 = .ok (.imul, 1) := by decide +kernel
theorem dX6_asPurse_25 : decode cX6_asPurse 25 = .ok (.iconst 2, 1) := by decide +kernel
theorem dX6_asPurse_26 : decode cX6_asPurse 26 = .ok (.iadd, 1) := by decide +kernel
theorem dX6_asPurse_27 : decode cX6_asPurse 27 = .ok (.iaload, 1) := by decide +kernel
theorem dX6_asPurse_28 : decode cX6_asPurse 28 = .ok (.isub, 1) := by decide +kernel
theorem dX6_asPurse_29 : decode cX6_asPurse 29 = .ok (.ireturn, 1) := by decide +kernel
theorem dX6_rate_0 : decode cX6_rate 0 = .ok (.iload_n 1, 1) := by decide +kernel
theorem dX6_rate_1 : decode cX6_rate 1 = .ok (.i2l, 1) := by decide +kernel
theorem dX6_rate_2 : decode cX6_rate 2 = .ok (.lconst 0, 1) := by decide +kernel
theorem dX6_rate_3 : decode cX6_rate 3 = .ok (.ldc2_w 199, 3) := by decide +kernel
theorem dX6_rate_6 : decode cX6_rate 6 = .ok (.invokestatic 82, 3) := by decide +kernel
theorem dX6_rate_9 : decode cX6_rate 9 = .ok (.ifCond .eq 11, 3) := by decide +kernel
theorem dX6_rate_12 : decode cX6_rate 12 = .ok (.aload_n 0, 1) := by decide +kernel
theorem dX6_rate_13 : decode cX6_rate 13 = .ok (.iload_n 2, 1) := by decide +kernel
theorem dX6_rate_14 : decode cX6_rate 14 = .ok (.invokevirtual 178, 3) := by decide +kernel
theorem dX6_rate_17 : decode cX6_rate 17 = .ok (.ifCond .ne 6, 3) := by decide +kernel
theorem dX6_rate_20 : decode cX6_rate 20 = .ok (.ldc 254, 2) := by decide +kernel
theorem dX6_rate_22 : decode cX6_rate 22 = .ok (.ireturn, 1) := by decide +kernel
theorem dX6_rate_23 : decode cX6_rate 23 = .ok (.iload_n 1, 1) := by decide +kernel
theorem dX6_rate_24 : decode cX6_rate 24 = .ok (.iconst 3, 1) := by decide +kernel
theorem dX6_rate_25 : decode cX6_rate 25 = .ok (.if_icmp .ne 23, 3) := by decide +kernel
theorem dX6_rate_28 : decode cX6_rate 28 = .ok (.aload_n 0, 1) := by decide +kernel
theorem dX6_rate_29 : decode cX6_rate 29 = .ok (.dup, 1) := by decide +kernel
theorem dX6_rate_30 : decode cX6_rate 30 = .ok (.getfield 245, 3) := by decide +kernel
theorem dX6_rate_33 : decode cX6_rate 33 = .ok (.ldc2_w 255, 3) := by decide +kernel
theorem dX6_rate_36 : decode cX6_rate 36 = .ok (.ladd, 1) := by decide +kernel
theorem dX6_rate_37 : decode cX6_rate 37 = .ok (.putfield 245, 3) := by decide +kernel
theorem dX6_rate_40 : decode cX6_rate 40 = .ok (.iconst 2, 1) := by decide +kernel
theorem dX6_rate_41 : decode cX6_rate 41 = .ok (.aload_n 0, 1) := by decide +kernel
theorem dX6_rate_42 : decode cX6_rate 42 = .ok (.iload_n 2, 1) := by decide +kernel
theorem dX6_rate_43 : decode cX6_rate 43 = .ok (.invokevirtual 257, 3) := by decide +kernel
theorem dX6_rate_46 : decode cX6_rate 46 = .ok (.imul, 1) := by decide +kernel
theorem dX6_rate_47 : decode cX6_rate 47 = .ok (.ireturn, 1) := by decide +kernel
theorem dX6_rate_48 : decode cX6_rate 48 = .ok (.iload_n 1, 1) := by decide +kernel
theorem dX6_rate_49 : decode cX6_rate 49 = .ok (.iconst 4, 1) := by decide +kernel
theorem dX6_rate_50 : decode cX6_rate 50 = .ok (.if_icmp .ne 23, 3) := by decide +kernel
theorem dX6_rate_53 : decode cX6_rate 53 = .ok (.aload_n 0, 1) := by decide +kernel
theorem dX6_rate_54 : decode cX6_rate 54 = .ok (.dup, 1) := by decide +kernel
theorem dX6_rate_55 : decode cX6_rate 55 = .ok (.getfield 245, 3) := by decide +kernel
theorem dX6_rate_58 : decode cX6_rate 58 = .ok (.ldc2_w 260, 3) := by decide +kernel
theorem dX6_rate_61 : decode cX6_rate 61 = .ok (.ladd, 1) := by decide +kernel
theorem dX6_rate_62 : decode cX6_rate 62 = .ok (.putfield 245, 3) := by decide +kernel
theorem dX6_rate_65 : decode cX6_rate 65 = .ok (.aload_n 0, 1) := by decide +kernel
theorem dX6_rate_66 : decode cX6_rate 66 = .ok (.iload_n 2, 1) := by decide +kernel
theorem dX6_rate_67 : decode cX6_rate 67 = .ok (.invokevirtual 262, 3) := by decide +kernel
theorem dX6_rate_70 : decode cX6_rate 70 = .ok (.iload_n 2, 1) := by decide +kernel
theorem dX6_rate_71 : decode cX6_rate 71 = .ok (.iadd, 1) := by decide +kernel
theorem dX6_rate_72 : decode cX6_rate 72 = .ok (.ireturn, 1) := by decide +kernel
theorem dX6_rate_73 : decode cX6_rate 73 = .ok (.iload_n 1, 1) := by decide +kernel
theorem dX6_rate_74 : decode cX6_rate 74 = .ok (.iconst 5, 1) := by decide +kernel
theorem dX6_rate_75 : decode cX6_rate 75 = .ok (.if_icmp .ne 27, 3) := by decide +kernel
theorem dX6_rate_78 : decode cX6_rate 78 = .ok (.aload_n 0, 1) := by decide +kernel
theorem dX6_rate_79 : decode cX6_rate 79 = .ok (.dup, 1) := by decide +kernel
theorem dX6_rate_80 : decode cX6_rate 80 = .ok (.getfield 245, 3) := by decide +kernel
theorem dX6_rate_83 : decode cX6_rate 83 = .ok (.ldc2_w 265, 3) := by decide +kernel
theorem dX6_rate_86 : decode cX6_rate 86 = .ok (.ladd, 1) := by decide +kernel
theorem dX6_rate_87 : decode cX6_rate 87 = .ok (.putfield 245, 3) := by decide +kernel
theorem dX6_rate_90 : decode cX6_rate 90 = .ok (.aload_n 0, 1) := by decide +kernel
theorem dX6_rate_91 : decode cX6_rate 91 = .ok (.iload_n 2, 1) := by decide +kernel
theorem dX6_rate_92 : decode cX6_rate 92 = .ok (.invokevirtual 249, 3) := by decide +kernel
theorem dX6_rate_95 : decode cX6_rate 95 = .ok (.aload_n 0, 1) := by decide +kernel
theorem dX6_rate_96 : decode cX6_rate 96 = .ok (.iload_n 2, 1) := by decide +kernel
theorem dX6_rate_97 : decode cX6_rate 97 = .ok (.invokevirtual 184, 3) := by decide +kernel
theorem dX6_rate_100 : decode cX6_rate 100 = .ok (.iadd, 1) := by decide +kernel
theorem dX6_rate_101 : decode cX6_rate 101 = .ok (.ireturn, 1) := by decide +kernel
theorem dX6_rate_102 : decode cX6_rate 102 = .ok (.iload_n 1, 1) := by decide +kernel
theorem dX6_rate_103 : decode cX6_rate 103 = .ok (.ifCond .ne 11, 3) := by decide +kernel
theorem dX6_rate_106 : decode cX6_rate 106 = .ok (.aload_n 0, 1) := by decide +kernel
theorem dX6_rate_107 : decode cX6_rate 107 = .ok (.iload_n 2, 1) := by decide +kernel
theorem dX6_rate_108 : decode cX6_rate 108 = .ok (.invokevirtual 249, 3) := by decide +kernel
theorem dX6_rate_111 : decode cX6_rate 111 = .ok (.goto 21, 3) := by decide +kernel
theorem dX6_rate_114 : decode cX6_rate 114 = .ok (.iload_n 1, 1) := by decide +kernel
theorem dX6_rate_115 : decode cX6_rate 115 = .ok (.iconst 1, 1) := by decide +kernel
theorem dX6_rate_116 : decode cX6_rate 116 = .ok (.if_icmp .ne 11, 3) := by decide +kernel
theorem dX6_rate_119 : decode cX6_rate 119 = .ok (.aload_n 0, 1) := by decide +kernel
theorem dX6_rate_120 : decode cX6_rate 120 = .ok (.iload_n 2, 1) := by decide +kernel
theorem dX6_rate_121 : decode cX6_rate 121 = .ok (.invokevirtual 257, 3) := by decide +kernel
theorem dX6_rate_124 : decode cX6_rate 124 = .ok (.goto 8, 3) := by decide +kernel
theorem dX6_rate_127 : decode cX6_rate 127 = .ok (.aload_n 0, 1) := by decide +kernel
theorem dX6_rate_128 : decode cX6_rate 128 = .ok (.iload_n 2, 1) := by decide +kernel
theorem dX6_rate_129 : decode cX6_rate 129 = .ok (.invokevirtual 262, 3) := by decide +kernel
theorem dX6_rate_132 : decode cX6_rate 132 = .ok (.ireturn, 1) := by decide +kernel
theorem dX6_keep_0 : decode cX6_keep 0 = .ok (.iload_n 1, 1) := by decide +kernel
theorem dX6_keep_1 : decode cX6_keep 1 = .ok (.i2l, 1) := by decide +kernel
theorem dX6_keep_2 : decode cX6_keep 2 = .ok (.lconst 0, 1) := by decide +kernel
theorem dX6_keep_3 : decode cX6_keep 3 = .ok (.lconst 1, 1) := by decide +kernel
theorem dX6_keep_4 : decode cX6_keep 4 = .ok (.invokestatic 82, 3) := by decide +kernel
theorem dX6_keep_7 : decode cX6_keep 7 = .ok (.ifCond .ne 5, 3) := by decide +kernel
theorem dX6_keep_10 : decode cX6_keep 10 = .ok (.iconst (-1), 1) := by decide +kernel
theorem dX6_keep_11 : decode cX6_keep 11 = .ok (.ireturn, 1) := by decide +kernel
theorem dX6_keep_12 : decode cX6_keep 12 = .ok (.iconst 0, 1) := by decide +kernel
theorem dX6_keep_13 : decode cX6_keep 13 = .ok (.istore_n 2, 1) := by decide +kernel
theorem dX6_keep_14 : decode cX6_keep 14 = .ok (.iload_n 2, 1) := by decide +kernel
theorem dX6_keep_15 : decode cX6_keep 15 = .ok (.bipush 8, 2) := by decide +kernel
theorem dX6_keep_17 : decode cX6_keep 17 = .ok (.if_icmp .ge 26, 3) := by decide +kernel
theorem dX6_keep_20 : decode cX6_keep 20 = .ok (.aload_n 0, 1) := by decide +kernel
theorem dX6_keep_21 : decode cX6_keep 21 = .ok (.getfield 75, 3) := by decide +kernel
theorem dX6_keep_24 : decode cX6_keep 24 = .ok (.bipush 8, 2) := by decide +kernel
theorem dX6_keep_26 : decode cX6_keep 26 = .ok (.iload_n 1, 1) := by decide +kernel
theorem dX6_keep_27 : decode cX6_keep 27 = .ok (.imul, 1) := by decide +kernel
theorem dX6_keep_28 : decode cX6_keep 28 = .ok (.iload_n 2, 1) := by decide +kernel
theorem dX6_keep_29 : decode cX6_keep 29 = .ok (.iadd, 1) := by decide +kernel
theorem dX6_keep_30 : decode cX6_keep 30 = .ok (.aload_n 0, 1) := by decide +kernel
theorem dX6_keep_31 : decode cX6_keep 31 = .ok (.getfield 32, 3) := by decide +kernel
theorem dX6_keep_34 : decode cX6_keep 34 = .ok (.iload_n 2, 1) := by decide +kernel
theorem dX6_keep_35 : decode cX6_keep 35 = .ok (.iaload, 1) := by decide +kernel
theorem dX6_keep_36 : decode cX6_keep 36 = .ok (.iastore, 1) := by decide +kernel
theorem dX6_keep_37 : decode cX6_keep 37 = .ok (.iinc 2 1, 3) := by decide +kernel
theorem dX6_keep_40 : decode cX6_keep 40 = .ok (.goto (-26), 3) := by decide +kernel
theorem dX6_keep_43 : decode cX6_keep 43 = .ok (.aload_n 0, 1) := by decide +kernel
theorem dX6_keep_44 : decode cX6_keep 44 = .ok (.getfield 72, 3) := by decide +kernel
theorem dX6_keep_47 : decode cX6_keep 47 = .ok (.iload_n 1, 1) := by decide +kernel
theorem dX6_keep_48 : decode cX6_keep 48 = .ok (.iconst 1, 1) := by decide +kernel
theorem dX6_keep_49 : decode cX6_keep 49 = .ok (.bastore, 1) := by decide +kernel
theorem dX6_keep_50 : decode cX6_keep 50 = .ok (.aload_n 0, 1) := by decide +kernel
theorem dX6_keep_51 : decode cX6_keep 51 = .ok (.getfield 32, 3) := by decide +kernel
theorem dX6_keep_54 : decode cX6_keep 54 = .ok (.bipush 7, 2) := by decide +kernel
theorem dX6_keep_56 : decode cX6_keep 56 = .ok (.iaload, 1) := by decide +kernel
theorem dX6_keep_57 : decode cX6_keep 57 = .ok (.ireturn, 1) := by decide +kernel
theorem dX6_back_0 : decode cX6_back 0 = .ok (.iload_n 1, 1) := by decide +kernel
theorem dX6_back_1 : decode cX6_back 1 = .ok (.i2l, 1) := by decide +kernel
theorem dX6_back_2 : decode cX6_back 2 = .ok (.lconst 0, 1) := by decide +kernel
theorem dX6_back_3 : decode cX6_back 3 = .ok (.lconst 1, 1) := by decide +kernel
theorem dX6_back_4 : decode cX6_back 4 = .ok (.invokestatic 82, 3) := by decide +kernel
theorem dX6_back_7 : decode cX6_back 7 = .ok (.ifCond .ne 5, 3) := by decide +kernel
theorem dX6_back_10 : decode cX6_back 10 = .ok (.iconst (-1), 1) := by decide +kernel
theorem dX6_back_11 : decode cX6_back 11 = .ok (.ireturn, 1) := by decide +kernel
theorem dX6_back_12 : decode cX6_back 12 = .ok (.aload_n 0, 1) := by decide +kernel
theorem dX6_back_13 : decode cX6_back 13 = .ok (.getfield 72, 3) := by decide +kernel
theorem dX6_back_16 : decode cX6_back 16 = .ok (.iload_n 1, 1) := by decide +kernel
theorem dX6_back_17 : decode cX6_back 17 = .ok (.baload, 1) := by decide +kernel
theorem dX6_back_18 : decode cX6_back 18 = .ok (.ifCond .ne 6, 3) := by decide +kernel
theorem dX6_back_21 : decode cX6_back 21 = .ok (.bipush (-2), 2) := by decide +kernel
theorem dX6_back_23 : decode cX6_back 23 = .ok (.ireturn, 1) := by decide +kernel
theorem dX6_back_24 : decode cX6_back 24 = .ok (.iconst 0, 1) := by decide +kernel
theorem dX6_back_25 : decode cX6_back 25 = .ok (.istore_n 2, 1) := by decide +kernel
theorem dX6_back_26 : decode cX6_back 26 = .ok (.iload_n 2, 1) := by decide +kernel
theorem dX6_back_27 : decode cX6_back 27 = .ok (.bipush 8, 2) := by decide +kernel
theorem dX6_back_29 : decode cX6_back 29 = .ok (.if_icmp .ge 26, 3) := by decide +kernel
theorem dX6_back_32 : decode cX6_back 32 = .ok (.aload_n 0, 1) := by decide +kernel
theorem dX6_back_33 : decode cX6_back 33 = .ok (.getfield 32, 3) := by decide +kernel
theorem dX6_back_36 : decode cX6_back 36 = .ok (.iload_n 2, 1) := by decide +kernel
theorem dX6_back_37 : decode cX6_back 37 = .ok (.aload_n 0, 1) := by decide +kernel
theorem dX6_back_38 : decode cX6_back 38 = .ok (.getfield 75, 3) := by decide +kernel
theorem dX6_back_41 : decode cX6_back 41 = .ok (.bipush 8, 2) := by decide +kernel
theorem dX6_back_43 : decode cX6_back 43 = .ok (.iload_n 1, 1) := by decide +kernel
theorem dX6_back_44 : decode cX6_back 44 = .ok (.imul, 1) := by decide +kernel
theorem dX6_back_45 : decode cX6_back 45 = .ok (.iload_n 2, 1) := by decide +kernel
theorem dX6_back_46 : decode cX6_back 46 = .ok (.iadd, 1) := by decide +kernel
theorem dX6_back_47 : decode cX6_back 47 = .ok (.iaload, 1) := by decide +kernel
theorem dX6_back_48 : decode cX6_back 48 = .ok (.iastore, 1) := by decide +kernel
theorem dX6_back_49 : decode cX6_back 49 = .ok (.iinc 2 1, 3) := by decide +kernel
theorem dX6_back_52 : decode cX6_back 52 = .ok (.goto (-26), 3) := by decide +kernel
theorem dX6_back_55 : decode cX6_back 55 = .ok (.aload_n 0, 1) := by decide +kernel
theorem dX6_back_56 : decode cX6_back 56 = .ok (.iconst 0, 1) := by decide +kernel
theorem dX6_back_57 : decode cX6_back 57 = .ok (.putfield 162, 3) := by decide +kernel
theorem dX6_back_60 : decode cX6_back 60 = .ok (.aload_n 0, 1) := by decide +kernel
theorem dX6_back_61 : decode cX6_back 61 = .ok (.getfield 32, 3) := by decide +kernel
theorem dX6_back_64 : decode cX6_back 64 = .ok (.bipush 7, 2) := by decide +kernel
theorem dX6_back_66 : decode cX6_back 66 = .ok (.iaload, 1) := by decide +kernel
theorem dX6_back_67 : decode cX6_back 67 = .ok (.ireturn, 1) := by decide +kernel
theorem dX6_count_0 : decode cX6_count 0 = .ok (.iload_n 1, 1) := by decide +kernel
theorem dX6_count_1 : decode cX6_count 1 = .ok (.ifCond .ne 10, 3) := by decide +kernel
theorem dX6_count_4 : decode cX6_count 4 = .ok (.aload_n 0, 1) := by decide +kernel
theorem dX6_count_5 : decode cX6_count 5 = .ok (.getfield 78, 3) := by decide +kernel
theorem dX6_count_8 : decode cX6_count 8 = .ok (.goto 40, 3) := by decide +kernel
theorem dX6_count_11 : decode cX6_count 11 = .ok (.iload_n 1, 1) := by decide +kernel
theorem dX6_count_12 : decode cX6_count 12 = .ok (.iconst 1, 1) := by decide +kernel
theorem dX6_count_13 : decode cX6_count 13 = .ok (.if_icmp .ne 10, 3) := by decide +kernel
theorem dX6_count_16 : decode cX6_count 16 = .ok (.aload_n 0, 1) := by decide +kernel
theorem dX6_count_17 : decode cX6_count 17 = .ok (.getfield 86, 3) := by decide +kernel
theorem dX6_count_20 : decode cX6_count 20 = .ok (.goto 28, 3) := by decide +kernel
theorem dX6_count_23 : decode cX6_count 23 = .ok (.iload_n 1, 1) := by decide +kernel
theorem dX6_count_24 : decode cX6_count 24 = .ok (.iconst 2, 1) := by decide +kernel
theorem dX6_count_25 : decode cX6_count 25 = .ok (.if_icmp .ne 10, 3) := by decide +kernel
theorem dX6_count_28 : decode cX6_count 28 = .ok (.aload_n 0, 1) := by decide +kernel
theorem dX6_count_29 : decode cX6_count 29 = .ok (.getfield 159, 3) := by decide +kernel
theorem dX6_count_32 : decode cX6_count 32 = .ok (.goto 16, 3) := by decide +kernel
theorem dX6_count_35 : decode cX6_count 35 = .ok (.iload_n 1, 1) := by decide +kernel
theorem dX6_count_36 : decode cX6_count 36 = .ok (.iconst 3, 1) := by decide +kernel
theorem dX6_count_37 : decode cX6_count 37 = .ok (.if_icmp .ne 10, 3) := by decide +kernel
theorem dX6_count_40 : decode cX6_count 40 = .ok (.aload_n 0, 1) := by decide +kernel
theorem dX6_count_41 : decode cX6_count 41 = .ok (.getfield 91, 3) := by decide +kernel
theorem dX6_count_44 : decode cX6_count 44 = .ok (.goto 4, 3) := by decide +kernel
theorem dX6_count_47 : decode cX6_count 47 = .ok (.iconst (-1), 1) := by decide +kernel
theorem dX6_count_48 : decode cX6_count 48 = .ok (.ireturn, 1) := by decide +kernel
theorem dX6_trace_0 : decode cX6_trace 0 = .ok (.aload_n 0, 1) := by decide +kernel
theorem dX6_trace_1 : decode cX6_trace 1 = .ok (.getfield 245, 3) := by decide +kernel
theorem dX6_trace_4 : decode cX6_trace 4 = .ok (.lreturn, 1) := by decide +kernel
theorem dJ9_max_7cf53_0 : decode cJ9_max_7cf53 0 = .ok (.iload_n 0, 1) := by decide +kernel
theorem dJ9_max_7cf53_1 : decode cJ9_max_7cf53 1 = .ok (.iload_n 1, 1) := by decide +kernel
theorem dJ9_max_7cf53_2 : decode cJ9_max_7cf53 2 = .ok (.if_icmp .lt 7, 3) := by decide +kernel
theorem dJ9_max_7cf53_5 : decode cJ9_max_7cf53 5 = .ok (.iload_n 0, 1) := by decide +kernel
theorem dJ9_max_7cf53_6 : decode cJ9_max_7cf53 6 = .ok (.goto 4, 3) := by decide +kernel
theorem dJ9_max_7cf53_9 : decode cJ9_max_7cf53 9 = .ok (.iload_n 1, 1) := by decide +kernel
theorem dJ9_max_7cf53_10 : decode cJ9_max_7cf53 10 = .ok (.ireturn, 1) := by decide +kernel
theorem dJ9_min_7cf53_0 : decode cJ9_min_7cf53 0 = .ok (.iload_n 0, 1) := by decide +kernel
theorem dJ9_min_7cf53_1 : decode cJ9_min_7cf53 1 = .ok (.iload_n 1, 1) := by decide +kernel
theorem dJ9_min_7cf53_2 : decode cJ9_min_7cf53 2 = .ok (.if_icmp .gt 7, 3) := by decide +kernel
theorem dJ9_min_7cf53_5 : decode cJ9_min_7cf53 5 = .ok (.iload_n 0, 1) := by decide +kernel
theorem dJ9_min_7cf53_6 : decode cJ9_min_7cf53 6 = .ok (.goto 4, 3) := by decide +kernel
theorem dJ9_min_7cf53_9 : decode cJ9_min_7cf53 9 = .ok (.iload_n 1, 1) := by decide +kernel
theorem dJ9_min_7cf53_10 : decode cJ9_min_7cf53 10 = .ok (.ireturn, 1) := by decide +kernel
theorem dJ7_fill_53178_0 : decode cJ7_fill_53178 0 = .ok (.iconst 0, 1) := by decide +kernel
theorem dJ7_fill_53178_1 : decode cJ7_fill_53178 1 = .ok (.istore_n 2, 1) := by decide +kernel
theorem dJ7_fill_53178_2 : decode cJ7_fill_53178 2 = .ok (.aload_n 0, 1) := by decide +kernel
theorem dJ7_fill_53178_3 : decode cJ7_fill_53178 3 = .ok (.arraylength, 1) := by decide +kernel
theorem dJ7_fill_53178_4 : decode cJ7_fill_53178 4 = .ok (.istore_n 3, 1) := by decide +kernel
theorem dJ7_fill_53178_5 : decode cJ7_fill_53178 5 = .ok (.iload_n 2, 1) := by decide +kernel
theorem dJ7_fill_53178_6 : decode cJ7_fill_53178 6 = .ok (.iload_n 3, 1) := by decide +kernel
theorem dJ7_fill_53178_7 : decode cJ7_fill_53178 7 = .ok (.if_icmp .ge 13, 3) := by decide +kernel
theorem dJ7_fill_53178_10 : decode cJ7_fill_53178 10 = .ok (.aload_n 0, 1) := by decide +kernel
theorem dJ7_fill_53178_11 : decode cJ7_fill_53178 11 = .ok (.iload_n 2, 1) := by decide +kernel
theorem dJ7_fill_53178_12 : decode cJ7_fill_53178 12 = .ok (.iload_n 1, 1) := by decide +kernel
theorem dJ7_fill_53178_13 : decode cJ7_fill_53178 13 = .ok (.iastore, 1) := by decide +kernel
theorem dJ7_fill_53178_14 : decode cJ7_fill_53178 14 = .ok (.iinc 2 1, 3) := by decide +kernel
theorem dJ7_fill_53178_17 : decode cJ7_fill_53178 17 = .ok (.goto (-12), 3) := by decide +kernel
theorem dJ7_fill_53178_20 : decode cJ7_fill_53178 20 = .ok (.return_, 1) := by decide +kernel
theorem dL_law_0 : decode cL_law 0 = .ok (.new 7, 3) := by decide +kernel
theorem dL_law_3 : decode cL_law 3 = .ok (.dup, 1) := by decide +kernel
theorem dL_law_4 : decode cL_law 4 = .ok (.invokespecial 9, 3) := by decide +kernel
theorem dL_law_7 : decode cL_law 7 = .ok (.astore_n 1, 1) := by decide +kernel
theorem dL_law_8 : decode cL_law 8 = .ok (.new 10, 3) := by decide +kernel
theorem dL_law_11 : decode cL_law 11 = .ok (.dup, 1) := by decide +kernel
theorem dL_law_12 : decode cL_law 12 = .ok (.invokespecial 12, 3) := by decide +kernel
theorem dL_law_15 : decode cL_law 15 = .ok (.astore_n 2, 1) := by decide +kernel
theorem dL_law_16 : decode cL_law 16 = .ok (.iconst 0, 1) := by decide +kernel
theorem dL_law_17 : decode cL_law 17 = .ok (.istore_n 3, 1) := by decide +kernel
theorem dL_law_18 : decode cL_law 18 = .ok (.iload_n 3, 1) := by decide +kernel
theorem dL_law_19 : decode cL_law 19 = .ok (.aload_n 0, 1) := by decide +kernel
theorem dL_law_20 : decode cL_law 20 = .ok (.arraylength, 1) := by decide +kernel
theorem dL_law_21 : decode cL_law 21 = .ok (.bipush 6, 2) := by decide +kernel
theorem dL_law_23 : decode cL_law 23 = .ok (.isub, 1) := by decide +kernel
theorem dL_law_24 : decode cL_law 24 = .ok (.if_icmp .gt 789, 3) := by decide +kernel
theorem dL_law_27 : decode cL_law 27 = .ok (.aload_n 0, 1) := by decide +kernel
theorem dL_law_28 : decode cL_law 28 = .ok (.iload_n 3, 1) := by decide +kernel
theorem dL_law_29 : decode cL_law 29 = .ok (.iaload, 1) := by decide +kernel
theorem dL_law_30 : decode cL_law 30 = .ok (.bipush 31, 2) := by decide +kernel
theorem dL_law_32 : decode cL_law 32 = .ok (.iand, 1) := by decide +kernel
theorem dL_law_33 : decode cL_law 33 = .ok (.tableswitch 774 0 23 #[111, 134, 147, 160, 193, 226, 259, 282, 305, 338, 351, 364, 407, 430, 453, 486, 519, 552, 595, 658, 691, 714, 737, 760], 111) := by decide +kernel
theorem dL_law_144 : decode cL_law 144 = .ok (.aload_n 1, 1) := by decide +kernel
theorem dL_law_145 : decode cL_law 145 = .ok (.aload_n 0, 1) := by decide +kernel
theorem dL_law_146 : decode cL_law 146 = .ok (.iload_n 3, 1) := by decide +kernel
theorem dL_law_147 : decode cL_law 147 = .ok (.iconst 1, 1) := by decide +kernel
theorem dL_law_148 : decode cL_law 148 = .ok (.iadd, 1) := by decide +kernel
theorem dL_law_149 : decode cL_law 149 = .ok (.iaload, 1) := by decide +kernel
theorem dL_law_150 : decode cL_law 150 = .ok (.invokevirtual 13, 3) := by decide +kernel
theorem dL_law_153 : decode cL_law 153 = .ok (.aload_n 2, 1) := by decide +kernel
theorem dL_law_154 : decode cL_law 154 = .ok (.aload_n 0, 1) := by decide +kernel
theorem dL_law_155 : decode cL_law 155 = .ok (.iload_n 3, 1) := by decide +kernel
theorem dL_law_156 : decode cL_law 156 = .ok (.iconst 1, 1) := by decide +kernel
theorem dL_law_157 : decode cL_law 157 = .ok (.iadd, 1) := by decide +kernel
theorem dL_law_158 : decode cL_law 158 = .ok (.iaload, 1) := by decide +kernel
theorem dL_law_159 : decode cL_law 159 = .ok (.invokevirtual 17, 3) := by decide +kernel
theorem dL_law_162 : decode cL_law 162 = .ok (.if_icmp .eq 645, 3) := by decide +kernel
theorem dL_law_165 : decode cL_law 165 = .ok (.iconst 0, 1) := by decide +kernel
theorem dL_law_166 : decode cL_law 166 = .ok (.ireturn, 1) := by decide +kernel
theorem dL_law_167 : decode cL_law 167 = .ok (.aload_n 1, 1) := by decide +kernel
theorem dL_law_168 : decode cL_law 168 = .ok (.invokevirtual 18, 3) := by decide +kernel
theorem dL_law_171 : decode cL_law 171 = .ok (.aload_n 2, 1) := by decide +kernel
theorem dL_law_172 : decode cL_law 172 = .ok (.invokevirtual 22, 3) := by decide +kernel
theorem dL_law_175 : decode cL_law 175 = .ok (.if_icmp .eq 632, 3) := by decide +kernel
theorem dL_law_178 : decode cL_law 178 = .ok (.iconst 0, 1) := by decide +kernel
theorem dL_law_179 : decode cL_law 179 = .ok (.ireturn, 1) := by decide +kernel
theorem dL_law_180 : decode cL_law 180 = .ok (.aload_n 1, 1) := by decide +kernel
theorem dL_law_181 : decode cL_law 181 = .ok (.invokevirtual 23, 3) := by decide +kernel
theorem dL_law_184 : decode cL_law 184 = .ok (.aload_n 2, 1) := by decide +kernel
theorem dL_law_185 : decode cL_law 185 = .ok (.invokevirtual 26, 3) := by decide +kernel
theorem dL_law_188 : decode cL_law 188 = .ok (.if_icmp .eq 619, 3) := by decide +kernel
theorem dL_law_191 : decode cL_law 191 = .ok (.iconst 0, 1) := by decide +kernel
theorem dL_law_192 : decode cL_law 192 = .ok (.ireturn, 1) := by decide +kernel
theorem dL_law_193 : decode cL_law 193 = .ok (.aload_n 1, 1) := by decide +kernel
theorem dL_law_194 : decode cL_law 194 = .ok (.aload_n 0, 1) := by decide +kernel
theorem dL_law_195 : decode cL_law 195 = .ok (.iload_n 3, 1) := by decide +kernel
theorem dL_law_196 : decode cL_law 196 = .ok (.iconst 1, 1) := by decide +kernel
theorem dL_law_197 : decode cL_law 197 = .ok (.iadd, 1) := by decide +kernel
theorem dL_law_198 : decode cL_law 198 = .ok (.iaload, 1) := by decide +kernel
theorem dL_law_199 : decode cL_law 199 = .ok (.aload_n 0, 1) := by decide +kernel
theorem dL_law_200 : decode cL_law 200 = .ok (.iload_n 3, 1) := by decide +kernel
theorem dL_law_201 : decode cL_law 201 = .ok (.iconst 2, 1) := by decide +kernel
theorem dL_law_202 : decode cL_law 202 = .ok (.iadd, 1) := by decide +kernel
theorem dL_law_203 : decode cL_law 203 = .ok (.iaload, 1) := by decide +kernel
theorem dL_law_204 : decode cL_law 204 = .ok (.invokevirtual 27, 3) := by decide +kernel
theorem dL_law_207 : decode cL_law 207 = .ok (.aload_n 2, 1) := by decide +kernel
theorem dL_law_208 : decode cL_law 208 = .ok (.aload_n 0, 1) := by decide +kernel
theorem dL_law_209 : decode cL_law 209 = .ok (.iload_n 3, 1) := by decide +kernel
theorem dL_law_210 : decode cL_law 210 = .ok (.iconst 1, 1) := by decide +kernel
theorem dL_law_211 : decode cL_law 211 = .ok (.iadd, 1) := by decide +kernel
theorem dL_law_212 : decode cL_law 212 = .ok (.iaload, 1) := by decide +kernel
theorem dL_law_213 : decode cL_law 213 = .ok (.aload_n 0, 1) := by decide +kernel
theorem dL_law_214 : decode cL_law 214 = .ok (.iload_n 3, 1) := by decide +kernel
theorem dL_law_215 : decode cL_law 215 = .ok (.iconst 2, 1) := by decide +kernel
theorem dL_law_216 : decode cL_law 216 = .ok (.iadd, 1) := by decide +kernel
theorem dL_law_217 : decode cL_law 217 = .ok (.iaload, 1) := by decide +kernel
theorem dL_law_218 : decode cL_law 218 = .ok (.invokevirtual 31, 3) := by decide +kernel
theorem dL_law_221 : decode cL_law 221 = .ok (.if_icmp .eq 586, 3) := by decide +kernel
theorem dL_law_224 : decode cL_law 224 = .ok (.iconst 0, 1) := by decide +kernel
theorem dL_law_225 : decode cL_law 225 = .ok (.ireturn, 1) := by decide +kernel
theorem dL_law_226 : decode cL_law 226 = .ok (.aload_n 1, 1) := by decide +kernel
theorem dL_law_227 : decode cL_law 227 = .ok (.aload_n 0, 1) := by decide +kernel
theorem dL_law_228 : decode cL_law 228 = .ok (.iload_n 3, 1) := by decide +kernel
theorem dL_law_229 : decode cL_law 229 = .ok (.iconst 1, 1) := by decide +kernel
theorem dL_law_230 : decode cL_law 230 = .ok (.iadd, 1) := by decide +kernel
theorem dL_law_231 : decode cL_law 231 = .ok (.iaload, 1) := by decide +kernel
theorem dL_law_232 : decode cL_law 232 = .ok (.aload_n 0, 1) := by decide +kernel
theorem dL_law_233 : decode cL_law 233 = .ok (.iload_n 3, 1) := by decide +kernel
theorem dL_law_234 : decode cL_law 234 = .ok (.iconst 2, 1) := by decide +kernel
theorem dL_law_235 : decode cL_law 235 = .ok (.iadd, 1) := by decide +kernel
theorem dL_law_236 : decode cL_law 236 = .ok (.iaload, 1) := by decide +kernel
theorem dL_law_237 : decode cL_law 237 = .ok (.invokevirtual 32, 3) := by decide +kernel
theorem dL_law_240 : decode cL_law 240 = .ok (.aload_n 2, 1) := by decide +kernel
theorem dL_law_241 : decode cL_law 241 = .ok (.aload_n 0, 1) := by decide +kernel
theorem dL_law_242 : decode cL_law 242 = .ok (.iload_n 3, 1) := by decide +kernel
theorem dL_law_243 : decode cL_law 243 = .ok (.iconst 1, 1) := by decide +kernel
theorem dL_law_244 : decode cL_law 244 = .ok (.iadd, 1) := by decide +kernel
theorem dL_law_245 : decode cL_law 245 = .ok (.iaload, 1) := by decide +kernel
theorem dL_law_246 : decode cL_law 246 = .ok (.aload_n 0, 1) := by decide +kernel
theorem dL_law_247 : decode cL_law 247 = .ok (.iload_n 3, 1) := by decide +kernel
theorem dL_law_248 : decode cL_law 248 = .ok (.iconst 2, 1) := by decide +kernel
theorem dL_law_249 : decode cL_law 249 = .ok (.iadd, 1) := by decide +kernel
theorem dL_law_250 : decode cL_law 250 = .ok (.iaload, 1) := by decide +kernel
theorem dL_law_251 : decode cL_law 251 = .ok (.invokevirtual 35, 3) := by decide +kernel
theorem dL_law_254 : decode cL_law 254 = .ok (.if_icmp .eq 553, 3) := by decide +kernel
theorem dL_law_257 : decode cL_law 257 = .ok (.iconst 0, 1) := by decide +kernel
theorem dL_law_258 : decode cL_law 258 = .ok (.ireturn, 1) := by decide +kernel
theorem dL_law_259 : decode cL_law 259 = .ok (.aload_n 1, 1) := by decide +kernel
theorem dL_law_260 : decode cL_law 260 = .ok (.aload_n 0, 1) := by decide +kernel
theorem dL_law_261 : decode cL_law 261 = .ok (.iload_n 3, 1) := by decide +kernel
theorem dL_law_262 : decode cL_law 262 = .ok (.iconst 1, 1) := by decide +kernel
theorem dL_law_263 : decode cL_law 263 = .ok (.iadd, 1) := by decide +kernel
theorem dL_law_264 : decode cL_law 264 = .ok (.iaload, 1) := by decide +kernel
theorem dL_law_265 : decode cL_law 265 = .ok (.aload_n 0, 1) := by decide +kernel
theorem dL_law_266 : decode cL_law 266 = .ok (.iload_n 3, 1) := by decide +kernel
theorem dL_law_267 : decode cL_law 267 = .ok (.iconst 2, 1) := by decide +kernel
theorem dL_law_268 : decode cL_law 268 = .ok (.iadd, 1) := by decide +kernel
theorem dL_law_269 : decode cL_law 269 = .ok (.iaload, 1) := by decide +kernel
theorem dL_law_270 : decode cL_law 270 = .ok (.invokevirtual 36, 3) := by decide +kernel
theorem dL_law_273 : decode cL_law 273 = .ok (.aload_n 2, 1) := by decide +kernel
theorem dL_law_274 : decode cL_law 274 = .ok (.aload_n 0, 1) := by decide +kernel
theorem dL_law_275 : decode cL_law 275 = .ok (.iload_n 3, 1) := by decide +kernel
theorem dL_law_276 : decode cL_law 276 = .ok (.iconst 1, 1) := by decide +kernel
theorem dL_law_277 : decode cL_law 277 = .ok (.iadd, 1) := by decide +kernel
theorem dL_law_278 : decode cL_law 278 = .ok (.iaload, 1) := by decide +kernel
theorem dL_law_279 : decode cL_law 279 = .ok (.aload_n 0, 1) := by decide +kernel
theorem dL_law_280 : decode cL_law 280 = .ok (.iload_n 3, 1) := by decide +kernel
theorem dL_law_281 : decode cL_law 281 = .ok (.iconst 2, 1) := by decide +kernel
theorem dL_law_282 : decode cL_law 282 = .ok (.iadd, 1) := by decide +kernel
theorem dL_law_283 : decode cL_law 283 = .ok (.iaload, 1) := by decide +kernel
theorem dL_law_284 : decode cL_law 284 = .ok (.invokevirtual 39, 3) := by decide +kernel
theorem dL_law_287 : decode cL_law 287 = .ok (.if_icmp .eq 520, 3) := by decide +kernel
theorem dL_law_290 : decode cL_law 290 = .ok (.iconst 0, 1) := by decide +kernel
theorem dL_law_291 : decode cL_law 291 = .ok (.ireturn, 1) := by decide +kernel
theorem dL_law_292 : decode cL_law 292 = .ok (.aload_n 1, 1) := by decide +kernel
theorem dL_law_293 : decode cL_law 293 = .ok (.aload_n 0, 1) := by decide +kernel
theorem dL_law_294 : decode cL_law 294 = .ok (.iload_n 3, 1) := by decide +kernel
theorem dL_law_295 : decode cL_law 295 = .ok (.iconst 1, 1) := by decide +kernel
theorem dL_law_296 : decode cL_law 296 = .ok (.iadd, 1) := by decide +kernel
theorem dL_law_297 : decode cL_law 297 = .ok (.iaload, 1) := by decide +kernel
theorem dL_law_298 : decode cL_law 298 = .ok (.invokevirtual 40, 3) := by decide +kernel
theorem dL_law_301 : decode cL_law 301 = .ok (.aload_n 2, 1) := by decide +kernel
theorem dL_law_302 : decode cL_law 302 = .ok (.aload_n 0, 1) := by decide +kernel
theorem dL_law_303 : decode cL_law 303 = .ok (.iload_n 3, 1) := by decide +kernel
theorem dL_law_304 : decode cL_law 304 = .ok (.iconst 1, 1) := by decide +kernel
theorem dL_law_305 : decode cL_law 305 = .ok (.iadd, 1) := by decide +kernel
theorem dL_law_306 : decode cL_law 306 = .ok (.iaload, 1) := by decide +kernel
theorem dL_law_307 : decode cL_law 307 = .ok (.invokevirtual 43, 3) := by decide +kernel
theorem dL_law_310 : decode cL_law 310 = .ok (.if_icmp .eq 497, 3) := by decide +kernel
theorem dL_law_313 : decode cL_law 313 = .ok (.iconst 0, 1) := by decide +kernel
theorem dL_law_314 : decode cL_law 314 = .ok (.ireturn, 1) := by decide +kernel
theorem dL_law_315 : decode cL_law 315 = .ok (.aload_n 1, 1) := by decide +kernel
theorem dL_law_316 : decode cL_law 316 = .ok (.aload_n 0, 1) := by decide +kernel
theorem dL_law_317 : decode cL_law 317 = .ok (.iload_n 3, 1) := by decide +kernel
theorem dL_law_318 : decode cL_law 318 = .ok (.iconst 1, 1) := by decide +kernel
theorem dL_law_319 : decode cL_law 319 = .ok (.iadd, 1) := by decide +kernel
theorem dL_law_320 : decode cL_law 320 = .ok (.iaload, 1) := by decide +kernel
theorem dL_law_321 : decode cL_law 321 = .ok (.invokevirtual 44, 3) := by decide +kernel
theorem dL_law_324 : decode cL_law 324 = .ok (.aload_n 2, 1) := by decide +kernel
theorem dL_law_325 : decode cL_law 325 = .ok (.aload_n 0, 1) := by decide +kernel
theorem dL_law_326 : decode cL_law 326 = .ok (.iload_n 3, 1) := by decide +kernel
theorem dL_law_327 : decode cL_law 327 = .ok (.iconst 1, 1) := by decide +kernel
theorem dL_law_328 : decode cL_law 328 = .ok (.iadd, 1) := by decide +kernel
theorem dL_law_329 : decode cL_law 329 = .ok (.iaload, 1) := by decide +kernel
theorem dL_law_330 : decode cL_law 330 = .ok (.invokevirtual 47, 3) := by decide +kernel
theorem dL_law_333 : decode cL_law 333 = .ok (.if_icmp .eq 474, 3) := by decide +kernel
theorem dL_law_336 : decode cL_law 336 = .ok (.iconst 0, 1) := by decide +kernel
theorem dL_law_337 : decode cL_law 337 = .ok (.ireturn, 1) := by decide +kernel
theorem dL_law_338 : decode cL_law 338 = .ok (.aload_n 1, 1) := by decide +kernel
theorem dL_law_339 : decode cL_law 339 = .ok (.aload_n 0, 1) := by decide +kernel
theorem dL_law_340 : decode cL_law 340 = .ok (.iload_n 3, 1) := by decide +kernel
theorem dL_law_341 : decode cL_law 341 = .ok (.iconst 1, 1) := by decide +kernel
theorem dL_law_342 : decode cL_law 342 = .ok (.iadd, 1) := by decide +kernel
theorem dL_law_343 : decode cL_law 343 = .ok (.iaload, 1) := by decide +kernel
theorem dL_law_344 : decode cL_law 344 = .ok (.aload_n 0, 1) := by decide +kernel
theorem dL_law_345 : decode cL_law 345 = .ok (.iload_n 3, 1) := by decide +kernel
theorem dL_law_346 : decode cL_law 346 = .ok (.iconst 2, 1) := by decide +kernel
theorem dL_law_347 : decode cL_law 347 = .ok (.iadd, 1) := by decide +kernel
theorem dL_law_348 : decode cL_law 348 = .ok (.iaload, 1) := by decide +kernel
theorem dL_law_349 : decode cL_law 349 = .ok (.invokevirtual 48, 3) := by decide +kernel
theorem dL_law_352 : decode cL_law 352 = .ok (.aload_n 2, 1) := by decide +kernel
theorem dL_law_353 : decode cL_law 353 = .ok (.aload_n 0, 1) := by decide +kernel
theorem dL_law_354 : decode cL_law 354 = .ok (.iload_n 3, 1) := by decide +kernel
theorem dL_law_355 : decode cL_law 355 = .ok (.iconst 1, 1) := by decide +kernel
theorem dL_law_356 : decode cL_law 356 = .ok (.iadd, 1) := by decide +kernel
theorem dL_law_357 : decode cL_law 357 = .ok (.iaload, 1) := by decide +kernel
theorem dL_law_358 : decode cL_law 358 = .ok (.aload_n 0, 1) := by decide +kernel
theorem dL_law_359 : decode cL_law 359 = .ok (.iload_n 3, 1) := by decide +kernel
theorem dL_law_360 : decode cL_law 360 = .ok (.iconst 2, 1) := by decide +kernel
theorem dL_law_361 : decode cL_law 361 = .ok (.iadd, 1) := by decide +kernel
theorem dL_law_362 : decode cL_law 362 = .ok (.iaload, 1) := by decide +kernel
theorem dL_law_363 : decode cL_law 363 = .ok (.invokevirtual 51, 3) := by decide +kernel
theorem dL_law_366 : decode cL_law 366 = .ok (.if_icmp .eq 441, 3) := by decide +kernel
theorem dL_law_369 : decode cL_law 369 = .ok (.iconst 0, 1) := by decide +kernel
theorem dL_law_370 : decode cL_law 370 = .ok (.ireturn, 1) := by decide +kernel
theorem dL_law_371 : decode cL_law 371 = .ok (.aload_n 1, 1) := by decide +kernel
theorem dL_law_372 : decode cL_law 372 = .ok (.invokevirtual 52, 3) := by decide +kernel
theorem dL_law_375 : decode cL_law 375 = .ok (.aload_n 2, 1) := by decide +kernel
theorem dL_law_376 : decode cL_law 376 = .ok (.invokevirtual 55, 3) := by decide +kernel
theorem dL_law_379 : decode cL_law 379 = .ok (.if_icmp .eq 428, 3) := by decide +kernel
theorem dL_law_382 : decode cL_law 382 = .ok (.iconst 0, 1) := by decide +kernel
theorem dL_law_383 : decode cL_law 383 = .ok (.ireturn, 1) := by decide +kernel
theorem dL_law_384 : decode cL_law 384 = .ok (.aload_n 1, 1) := by decide +kernel
theorem dL_law_385 : decode cL_law 385 = .ok (.invokevirtual 56, 3) := by decide +kernel
theorem dL_law_388 : decode cL_law 388 = .ok (.aload_n 2, 1) := by decide +kernel
theorem dL_law_389 : decode cL_law 389 = .ok (.invokevirtual 59, 3) := by decide +kernel
theorem dL_law_392 : decode cL_law 392 = .ok (.if_icmp .eq 415, 3) := by decide +kernel
theorem dL_law_395 : decode cL_law 395 = .ok (.iconst 0, 1) := by decide +kernel
theorem dL_law_396 : decode cL_law 396 = .ok (.ireturn, 1) := by decide +kernel
theorem dL_law_397 : decode cL_law 397 = .ok (.aload_n 1, 1) := by decide +kernel
theorem dL_law_398 : decode cL_law 398 = .ok (.aload_n 0, 1) := by decide +kernel
theorem dL_law_399 : decode cL_law 399 = .ok (.iload_n 3, 1) := by decide +kernel
theorem dL_law_400 : decode cL_law 400 = .ok (.iconst 1, 1) := by decide +kernel
theorem dL_law_401 : decode cL_law 401 = .ok (.iadd, 1) := by decide +kernel
theorem dL_law_402 : decode cL_law 402 = .ok (.iaload, 1) := by decide +kernel
theorem dL_law_403 : decode cL_law 403 = .ok (.aload_n 0, 1) := by decide +kernel
theorem dL_law_404 : decode cL_law 404 = .ok (.iload_n 3, 1) := by decide +kernel
theorem dL_law_405 : decode cL_law 405 = .ok (.iconst 2, 1) := by decide +kernel
theorem dL_law_406 : decode cL_law 406 = .ok (.iadd, 1) := by decide +kernel
theorem dL_law_407 : decode cL_law 407 = .ok (.iaload, 1) := by decide +kernel
theorem dL_law_408 : decode cL_law 408 = .ok (.aload_n 0, 1) := by decide +kernel
theorem dL_law_409 : decode cL_law 409 = .ok (.iload_n 3, 1) := by decide +kernel
theorem dL_law_410 : decode cL_law 410 = .ok (.iconst 3, 1) := by decide +kernel
theorem dL_law_411 : decode cL_law 411 = .ok (.iadd, 1) := by decide +kernel
theorem dL_law_412 : decode cL_law 412 = .ok (.iaload, 1) := by decide +kernel
theorem dL_law_413 : decode cL_law 413 = .ok (.invokevirtual 60, 3) := by decide +kernel
theorem dL_law_416 : decode cL_law 416 = .ok (.aload_n 2, 1) := by decide +kernel
theorem dL_law_417 : decode cL_law 417 = .ok (.aload_n 0, 1) := by decide +kernel
theorem dL_law_418 : decode cL_law 418 = .ok (.iload_n 3, 1) := by decide +kernel
theorem dL_law_419 : decode cL_law 419 = .ok (.iconst 1, 1) := by decide +kernel
theorem dL_law_420 : decode cL_law 420 = .ok (.iadd, 1) := by decide +kernel
theorem dL_law_421 : decode cL_law 421 = .ok (.iaload, 1) := by decide +kernel
theorem dL_law_422 : decode cL_law 422 = .ok (.aload_n 0, 1) := by decide +kernel
theorem dL_law_423 : decode cL_law 423 = .ok (.iload_n 3, 1) := by decide +kernel
theorem dL_law_424 : decode cL_law 424 = .ok (.iconst 2, 1) := by decide +kernel
theorem dL_law_425 : decode cL_law 425 = .ok (.iadd, 1) := by decide +kernel
theorem dL_law_426 : decode cL_law 426 = .ok (.iaload, 1) := by decide +kernel
theorem dL_law_427 : decode cL_law 427 = .ok (.aload_n 0, 1) := by decide +kernel
theorem dL_law_428 : decode cL_law 428 = .ok (.iload_n 3, 1) := by decide +kernel
theorem dL_law_429 : decode cL_law 429 = .ok (.iconst 3, 1) := by decide +kernel
theorem dL_law_430 : decode cL_law 430 = .ok (.iadd, 1) := by decide +kernel
theorem dL_law_431 : decode cL_law 431 = .ok (.iaload, 1) := by decide +kernel
theorem dL_law_432 : decode cL_law 432 = .ok (.invokevirtual 64, 3) := by decide +kernel
theorem dL_law_435 : decode cL_law 435 = .ok (.if_icmp .eq 372, 3) := by decide +kernel
theorem dL_law_438 : decode cL_law 438 = .ok (.iconst 0, 1) := by decide +kernel
theorem dL_law_439 : decode cL_law 439 = .ok (.ireturn, 1) := by decide +kernel
theorem dL_law_440 : decode cL_law 440 = .ok (.aload_n 1, 1) := by decide +kernel
theorem dL_law_441 : decode cL_law 441 = .ok (.aload_n 0, 1) := by decide +kernel
theorem dL_law_442 : decode cL_law 442 = .ok (.iload_n 3, 1) := by decide +kernel
theorem dL_law_443 : decode cL_law 443 = .ok (.iconst 1, 1) := by decide +kernel
theorem dL_law_444 : decode cL_law 444 = .ok (.iadd, 1) := by decide +kernel
theorem dL_law_445 : decode cL_law 445 = .ok (.iaload, 1) := by decide +kernel
theorem dL_law_446 : decode cL_law 446 = .ok (.invokevirtual 65, 3) := by decide +kernel
theorem dL_law_449 : decode cL_law 449 = .ok (.aload_n 2, 1) := by decide +kernel
theorem dL_law_450 : decode cL_law 450 = .ok (.aload_n 0, 1) := by decide +kernel
theorem dL_law_451 : decode cL_law 451 = .ok (.iload_n 3, 1) := by decide +kernel
theorem dL_law_452 : decode cL_law 452 = .ok (.iconst 1, 1) := by decide +kernel
theorem dL_law_453 : decode cL_law 453 = .ok (.iadd, 1) := by decide +kernel
theorem dL_law_454 : decode cL_law 454 = .ok (.iaload, 1) := by decide +kernel
theorem dL_law_455 : decode cL_law 455 = .ok (.invokevirtual 68, 3) := by decide +kernel
theorem dL_law_458 : decode cL_law 458 = .ok (.if_icmp .eq 349, 3) := by decide +kernel
theorem dL_law_461 : decode cL_law 461 = .ok (.iconst 0, 1) := by decide +kernel
theorem dL_law_462 : decode cL_law 462 = .ok (.ireturn, 1) := by decide +kernel
theorem dL_law_463 : decode cL_law 463 = .ok (.aload_n 1, 1) := by decide +kernel
theorem dL_law_464 : decode cL_law 464 = .ok (.aload_n 0, 1) := by decide +kernel
theorem dL_law_465 : decode cL_law 465 = .ok (.iload_n 3, 1) := by decide +kernel
theorem dL_law_466 : decode cL_law 466 = .ok (.iconst 1, 1) := by decide +kernel
theorem dL_law_467 : decode cL_law 467 = .ok (.iadd, 1) := by decide +kernel
theorem dL_law_468 : decode cL_law 468 = .ok (.iaload, 1) := by decide +kernel
theorem dL_law_469 : decode cL_law 469 = .ok (.invokevirtual 69, 3) := by decide +kernel
theorem dL_law_472 : decode cL_law 472 = .ok (.aload_n 2, 1) := by decide +kernel
theorem dL_law_473 : decode cL_law 473 = .ok (.aload_n 0, 1) := by decide +kernel
theorem dL_law_474 : decode cL_law 474 = .ok (.iload_n 3, 1) := by decide +kernel
theorem dL_law_475 : decode cL_law 475 = .ok (.iconst 1, 1) := by decide +kernel
theorem dL_law_476 : decode cL_law 476 = .ok (.iadd, 1) := by decide +kernel
theorem dL_law_477 : decode cL_law 477 = .ok (.iaload, 1) := by decide +kernel
theorem dL_law_478 : decode cL_law 478 = .ok (.invokevirtual 72, 3) := by decide +kernel
theorem dL_law_481 : decode cL_law 481 = .ok (.if_icmp .eq 326, 3) := by decide +kernel
theorem dL_law_484 : decode cL_law 484 = .ok (.iconst 0, 1) := by decide +kernel
theorem dL_law_485 : decode cL_law 485 = .ok (.ireturn, 1) := by decide +kernel
theorem dL_law_486 : decode cL_law 486 = .ok (.aload_n 1, 1) := by decide +kernel
theorem dL_law_487 : decode cL_law 487 = .ok (.aload_n 0, 1) := by decide +kernel
theorem dL_law_488 : decode cL_law 488 = .ok (.iload_n 3, 1) := by decide +kernel
theorem dL_law_489 : decode cL_law 489 = .ok (.iconst 1, 1) := by decide +kernel
theorem dL_law_490 : decode cL_law 490 = .ok (.iadd, 1) := by decide +kernel
theorem dL_law_491 : decode cL_law 491 = .ok (.iaload, 1) := by decide +kernel
theorem dL_law_492 : decode cL_law 492 = .ok (.aload_n 0, 1) := by decide +kernel
theorem dL_law_493 : decode cL_law 493 = .ok (.iload_n 3, 1) := by decide +kernel
theorem dL_law_494 : decode cL_law 494 = .ok (.iconst 2, 1) := by decide +kernel
theorem dL_law_495 : decode cL_law 495 = .ok (.iadd, 1) := by decide +kernel
theorem dL_law_496 : decode cL_law 496 = .ok (.iaload, 1) := by decide +kernel
theorem dL_law_497 : decode cL_law 497 = .ok (.invokevirtual 73, 3) := by decide +kernel
theorem dL_law_500 : decode cL_law 500 = .ok (.aload_n 2, 1) := by decide +kernel
theorem dL_law_501 : decode cL_law 501 = .ok (.aload_n 0, 1) := by decide +kernel
theorem dL_law_502 : decode cL_law 502 = .ok (.iload_n 3, 1) := by decide +kernel
theorem dL_law_503 : decode cL_law 503 = .ok (.iconst 1, 1) := by decide +kernel
theorem dL_law_504 : decode cL_law 504 = .ok (.iadd, 1) := by decide +kernel
theorem dL_law_505 : decode cL_law 505 = .ok (.iaload, 1) := by decide +kernel
theorem dL_law_506 : decode cL_law 506 = .ok (.aload_n 0, 1) := by decide +kernel
theorem dL_law_507 : decode cL_law 507 = .ok (.iload_n 3, 1) := by decide +kernel
theorem dL_law_508 : decode cL_law 508 = .ok (.iconst 2, 1) := by decide +kernel
theorem dL_law_509 : decode cL_law 509 = .ok (.iadd, 1) := by decide +kernel
theorem dL_law_510 : decode cL_law 510 = .ok (.iaload, 1) := by decide +kernel
theorem dL_law_511 : decode cL_law 511 = .ok (.invokevirtual 76, 3) := by decide +kernel
theorem dL_law_514 : decode cL_law 514 = .ok (.if_icmp .eq 293, 3) := by decide +kernel
theorem dL_law_517 : decode cL_law 517 = .ok (.iconst 0, 1) := by decide +kernel
theorem dL_law_518 : decode cL_law 518 = .ok (.ireturn, 1) := by decide +kernel
theorem dL_law_519 : decode cL_law 519 = .ok (.aload_n 1, 1) := by decide +kernel
theorem dL_law_520 : decode cL_law 520 = .ok (.aload_n 0, 1) := by decide +kernel
theorem dL_law_521 : decode cL_law 521 = .ok (.iload_n 3, 1) := by decide +kernel
theorem dL_law_522 : decode cL_law 522 = .ok (.iconst 1, 1) := by decide +kernel
theorem dL_law_523 : decode cL_law 523 = .ok (.iadd, 1) := by decide +kernel
theorem dL_law_524 : decode cL_law 524 = .ok (.iaload, 1) := by decide +kernel
theorem dL_law_525 : decode cL_law 525 = .ok (.aload_n 0, 1) := by decide +kernel
theorem dL_law_526 : decode cL_law 526 = .ok (.iload_n 3, 1) := by decide +kernel
theorem dL_law_527 : decode cL_law 527 = .ok (.iconst 2, 1) := by decide +kernel
theorem dL_law_528 : decode cL_law 528 = .ok (.iadd, 1) := by decide +kernel
theorem dL_law_529 : decode cL_law 529 = .ok (.iaload, 1) := by decide +kernel
theorem dL_law_530 : decode cL_law 530 = .ok (.invokevirtual 77, 3) := by decide +kernel
theorem dL_law_533 : decode cL_law 533 = .ok (.aload_n 2, 1) := by decide +kernel
theorem dL_law_534 : decode cL_law 534 = .ok (.aload_n 0, 1) := by decide +kernel
theorem dL_law_535 : decode cL_law 535 = .ok (.iload_n 3, 1) := by decide +kernel
theorem dL_law_536 : decode cL_law 536 = .ok (.iconst 1, 1) := by decide +kernel
theorem dL_law_537 : decode cL_law 537 = .ok (.iadd, 1) := by decide +kernel
theorem dL_law_538 : decode cL_law 538 = .ok (.iaload, 1) := by decide +kernel
theorem dL_law_539 : decode cL_law 539 = .ok (.aload_n 0, 1) := by decide +kernel
theorem dL_law_540 : decode cL_law 540 = .ok (.iload_n 3, 1) := by decide +kernel
theorem dL_law_541 : decode cL_law 541 = .ok (.iconst 2, 1) := by decide +kernel
theorem dL_law_542 : decode cL_law 542 = .ok (.iadd, 1) := by decide +kernel
theorem dL_law_543 : decode cL_law 543 = .ok (.iaload, 1) := by decide +kernel
theorem dL_law_544 : decode cL_law 544 = .ok (.invokevirtual 80, 3) := by decide +kernel
theorem dL_law_547 : decode cL_law 547 = .ok (.if_icmp .eq 260, 3) := by decide +kernel
theorem dL_law_550 : decode cL_law 550 = .ok (.iconst 0, 1) := by decide +kernel
theorem dL_law_551 : decode cL_law 551 = .ok (.ireturn, 1) := by decide +kernel
theorem dL_law_552 : decode cL_law 552 = .ok (.aload_n 1, 1) := by decide +kernel
theorem dL_law_553 : decode cL_law 553 = .ok (.aload_n 0, 1) := by decide +kernel
theorem dL_law_554 : decode cL_law 554 = .ok (.iload_n 3, 1) := by decide +kernel
theorem dL_law_555 : decode cL_law 555 = .ok (.iconst 1, 1) := by decide +kernel
theorem dL_law_556 : decode cL_law 556 = .ok (.iadd, 1) := by decide +kernel
theorem dL_law_557 : decode cL_law 557 = .ok (.iaload, 1) := by decide +kernel
theorem dL_law_558 : decode cL_law 558 = .ok (.aload_n 0, 1) := by decide +kernel
theorem dL_law_559 : decode cL_law 559 = .ok (.iload_n 3, 1) := by decide +kernel
theorem dL_law_560 : decode cL_law 560 = .ok (.iconst 2, 1) := by decide +kernel
theorem dL_law_561 : decode cL_law 561 = .ok (.iadd, 1) := by decide +kernel
theorem dL_law_562 : decode cL_law 562 = .ok (.iaload, 1) := by decide +kernel
theorem dL_law_563 : decode cL_law 563 = .ok (.invokevirtual 81, 3) := by decide +kernel
theorem dL_law_566 : decode cL_law 566 = .ok (.aload_n 2, 1) := by decide +kernel
theorem dL_law_567 : decode cL_law 567 = .ok (.aload_n 0, 1) := by decide +kernel
theorem dL_law_568 : decode cL_law 568 = .ok (.iload_n 3, 1) := by decide +kernel
theorem dL_law_569 : decode cL_law 569 = .ok (.iconst 1, 1) := by decide +kernel
theorem dL_law_570 : decode cL_law 570 = .ok (.iadd, 1) := by decide +kernel
theorem dL_law_571 : decode cL_law 571 = .ok (.iaload, 1) := by decide +kernel
theorem dL_law_572 : decode cL_law 572 = .ok (.aload_n 0, 1) := by decide +kernel
theorem dL_law_573 : decode cL_law 573 = .ok (.iload_n 3, 1) := by decide +kernel
theorem dL_law_574 : decode cL_law 574 = .ok (.iconst 2, 1) := by decide +kernel
theorem dL_law_575 : decode cL_law 575 = .ok (.iadd, 1) := by decide +kernel
theorem dL_law_576 : decode cL_law 576 = .ok (.iaload, 1) := by decide +kernel
theorem dL_law_577 : decode cL_law 577 = .ok (.invokevirtual 84, 3) := by decide +kernel
theorem dL_law_580 : decode cL_law 580 = .ok (.if_icmp .eq 227, 3) := by decide +kernel
theorem dL_law_583 : decode cL_law 583 = .ok (.iconst 0, 1) := by decide +kernel
theorem dL_law_584 : decode cL_law 584 = .ok (.ireturn, 1) := by decide +kernel
theorem dL_law_585 : decode cL_law 585 = .ok (.aload_n 1, 1) := by decide +kernel
theorem dL_law_586 : decode cL_law 586 = .ok (.aload_n 0, 1) := by decide +kernel
theorem dL_law_587 : decode cL_law 587 = .ok (.iload_n 3, 1) := by decide +kernel
theorem dL_law_588 : decode cL_law 588 = .ok (.iconst 1, 1) := by decide +kernel
theorem dL_law_589 : decode cL_law 589 = .ok (.iadd, 1) := by decide +kernel
theorem dL_law_590 : decode cL_law 590 = .ok (.iaload, 1) := by decide +kernel
theorem dL_law_591 : decode cL_law 591 = .ok (.aload_n 0, 1) := by decide +kernel
theorem dL_law_592 : decode cL_law 592 = .ok (.iload_n 3, 1) := by decide +kernel
theorem dL_law_593 : decode cL_law 593 = .ok (.iconst 2, 1) := by decide +kernel
theorem dL_law_594 : decode cL_law 594 = .ok (.iadd, 1) := by decide +kernel
theorem dL_law_595 : decode cL_law 595 = .ok (.iaload, 1) := by decide +kernel
theorem dL_law_596 : decode cL_law 596 = .ok (.aload_n 0, 1) := by decide +kernel
theorem dL_law_597 : decode cL_law 597 = .ok (.iload_n 3, 1) := by decide +kernel
theorem dL_law_598 : decode cL_law 598 = .ok (.iconst 3, 1) := by decide +kernel
theorem dL_law_599 : decode cL_law 599 = .ok (.iadd, 1) := by decide +kernel
theorem dL_law_600 : decode cL_law 600 = .ok (.iaload, 1) := by decide +kernel
theorem dL_law_601 : decode cL_law 601 = .ok (.invokevirtual 85, 3) := by decide +kernel
theorem dL_law_604 : decode cL_law 604 = .ok (.aload_n 2, 1) := by decide +kernel
theorem dL_law_605 : decode cL_law 605 = .ok (.aload_n 0, 1) := by decide +kernel
theorem dL_law_606 : decode cL_law 606 = .ok (.iload_n 3, 1) := by decide +kernel
theorem dL_law_607 : decode cL_law 607 = .ok (.iconst 1, 1) := by decide +kernel
theorem dL_law_608 : decode cL_law 608 = .ok (.iadd, 1) := by decide +kernel
theorem dL_law_609 : decode cL_law 609 = .ok (.iaload, 1) := by decide +kernel
theorem dL_law_610 : decode cL_law 610 = .ok (.aload_n 0, 1) := by decide +kernel
theorem dL_law_611 : decode cL_law 611 = .ok (.iload_n 3, 1) := by decide +kernel
theorem dL_law_612 : decode cL_law 612 = .ok (.iconst 2, 1) := by decide +kernel
theorem dL_law_613 : decode cL_law 613 = .ok (.iadd, 1) := by decide +kernel
theorem dL_law_614 : decode cL_law 614 = .ok (.iaload, 1) := by decide +kernel
theorem dL_law_615 : decode cL_law 615 = .ok (.aload_n 0, 1) := by decide +kernel
theorem dL_law_616 : decode cL_law 616 = .ok (.iload_n 3, 1) := by decide +kernel
theorem dL_law_617 : decode cL_law 617 = .ok (.iconst 3, 1) := by decide +kernel
theorem dL_law_618 : decode cL_law 618 = .ok (.iadd, 1) := by decide +kernel
theorem dL_law_619 : decode cL_law 619 = .ok (.iaload, 1) := by decide +kernel
theorem dL_law_620 : decode cL_law 620 = .ok (.invokevirtual 88, 3) := by decide +kernel
theorem dL_law_623 : decode cL_law 623 = .ok (.if_icmp .eq 184, 3) := by decide +kernel
theorem dL_law_626 : decode cL_law 626 = .ok (.iconst 0, 1) := by decide +kernel
theorem dL_law_627 : decode cL_law 627 = .ok (.ireturn, 1) := by decide +kernel
theorem dL_law_628 : decode cL_law 628 = .ok (.aload_n 1, 1) := by decide +kernel
theorem dL_law_629 : decode cL_law 629 = .ok (.aload_n 0, 1) := by decide +kernel
theorem dL_law_630 : decode cL_law 630 = .ok (.iload_n 3, 1) := by decide +kernel
theorem dL_law_631 : decode cL_law 631 = .ok (.iconst 1, 1) := by decide +kernel
theorem dL_law_632 : decode cL_law 632 = .ok (.iadd, 1) := by decide +kernel
theorem dL_law_633 : decode cL_law 633 = .ok (.iaload, 1) := by decide +kernel
theorem dL_law_634 : decode cL_law 634 = .ok (.aload_n 0, 1) := by decide +kernel
theorem dL_law_635 : decode cL_law 635 = .ok (.iload_n 3, 1) := by decide +kernel
theorem dL_law_636 : decode cL_law 636 = .ok (.iconst 2, 1) := by decide +kernel
theorem dL_law_637 : decode cL_law 637 = .ok (.iadd, 1) := by decide +kernel
theorem dL_law_638 : decode cL_law 638 = .ok (.iaload, 1) := by decide +kernel
theorem dL_law_639 : decode cL_law 639 = .ok (.aload_n 0, 1) := by decide +kernel
theorem dL_law_640 : decode cL_law 640 = .ok (.iload_n 3, 1) := by decide +kernel
theorem dL_law_641 : decode cL_law 641 = .ok (.iconst 3, 1) := by decide +kernel
theorem dL_law_642 : decode cL_law 642 = .ok (.iadd, 1) := by decide +kernel
theorem dL_law_643 : decode cL_law 643 = .ok (.iaload, 1) := by decide +kernel
theorem dL_law_644 : decode cL_law 644 = .ok (.aload_n 0, 1) := by decide +kernel
theorem dL_law_645 : decode cL_law 645 = .ok (.iload_n 3, 1) := by decide +kernel
theorem dL_law_646 : decode cL_law 646 = .ok (.iconst 4, 1) := by decide +kernel
theorem dL_law_647 : decode cL_law 647 = .ok (.iadd, 1) := by decide +kernel
theorem dL_law_648 : decode cL_law 648 = .ok (.iaload, 1) := by decide +kernel
theorem dL_law_649 : decode cL_law 649 = .ok (.aload_n 0, 1) := by decide +kernel
theorem dL_law_650 : decode cL_law 650 = .ok (.iload_n 3, 1) := by decide +kernel
theorem dL_law_651 : decode cL_law 651 = .ok (.iconst 5, 1) := by decide +kernel
theorem dL_law_652 : decode cL_law 652 = .ok (.iadd, 1) := by decide +kernel
theorem dL_law_653 : decode cL_law 653 = .ok (.iaload, 1) := by decide +kernel
theorem dL_law_654 : decode cL_law 654 = .ok (.invokevirtual 89, 3) := by decide +kernel
theorem dL_law_657 : decode cL_law 657 = .ok (.aload_n 2, 1) := by decide +kernel
theorem dL_law_658 : decode cL_law 658 = .ok (.aload_n 0, 1) := by decide +kernel
theorem dL_law_659 : decode cL_law 659 = .ok (.iload_n 3, 1) := by decide +kernel
theorem dL_law_660 : decode cL_law 660 = .ok (.iconst 1, 1) := by decide +kernel
theorem dL_law_661 : decode cL_law 661 = .ok (.iadd, 1) := by decide +kernel
theorem dL_law_662 : decode cL_law 662 = .ok (.iaload, 1) := by decide +kernel
theorem dL_law_663 : decode cL_law 663 = .ok (.aload_n 0, 1) := by decide +kernel
theorem dL_law_664 : decode cL_law 664 = .ok (.iload_n 3, 1) := by decide +kernel
theorem dL_law_665 : decode cL_law 665 = .ok (.iconst 2, 1) := by decide +kernel
theorem dL_law_666 : decode cL_law 666 = .ok (.iadd, 1) := by decide +kernel
theorem dL_law_667 : decode cL_law 667 = .ok (.iaload, 1) := by decide +kernel
theorem dL_law_668 : decode cL_law 668 = .ok (.aload_n 0, 1) := by decide +kernel
theorem dL_law_669 : decode cL_law 669 = .ok (.iload_n 3, 1) := by decide +kernel
theorem dL_law_670 : decode cL_law 670 = .ok (.iconst 3, 1) := by decide +kernel
theorem dL_law_671 : decode cL_law 671 = .ok (.iadd, 1) := by decide +kernel
theorem dL_law_672 : decode cL_law 672 = .ok (.iaload, 1) := by decide +kernel
theorem dL_law_673 : decode cL_law 673 = .ok (.aload_n 0, 1) := by decide +kernel
theorem dL_law_674 : decode cL_law 674 = .ok (.iload_n 3, 1) := by decide +kernel
theorem dL_law_675 : decode cL_law 675 = .ok (.iconst 4, 1) := by decide +kernel
theorem dL_law_676 : decode cL_law 676 = .ok (.iadd, 1) := by decide +kernel
theorem dL_law_677 : decode cL_law 677 = .ok (.iaload, 1) := by decide +kernel
theorem dL_law_678 : decode cL_law 678 = .ok (.aload_n 0, 1) := by decide +kernel
theorem dL_law_679 : decode cL_law 679 = .ok (.iload_n 3, 1) := by decide +kernel
theorem dL_law_680 : decode cL_law 680 = .ok (.iconst 5, 1) := by decide +kernel
theorem dL_law_681 : decode cL_law 681 = .ok (.iadd, 1) := by decide +kernel
theorem dL_law_682 : decode cL_law 682 = .ok (.iaload, 1) := by decide +kernel
theorem dL_law_683 : decode cL_law 683 = .ok (.invokevirtual 93, 3) := by decide +kernel
theorem dL_law_686 : decode cL_law 686 = .ok (.if_icmp .eq 121, 3) := by decide +kernel
theorem dL_law_689 : decode cL_law 689 = .ok (.iconst 0, 1) := by decide +kernel
theorem dL_law_690 : decode cL_law 690 = .ok (.ireturn, 1) := by decide +kernel
theorem dL_law_691 : decode cL_law 691 = .ok (.aload_n 1, 1) := by decide +kernel
theorem dL_law_692 : decode cL_law 692 = .ok (.aload_n 0, 1) := by decide +kernel
theorem dL_law_693 : decode cL_law 693 = .ok (.iload_n 3, 1) := by decide +kernel
theorem dL_law_694 : decode cL_law 694 = .ok (.iconst 1, 1) := by decide +kernel
theorem dL_law_695 : decode cL_law 695 = .ok (.iadd, 1) := by decide +kernel
theorem dL_law_696 : decode cL_law 696 = .ok (.iaload, 1) := by decide +kernel
theorem dL_law_697 : decode cL_law 697 = .ok (.aload_n 0, 1) := by decide +kernel
theorem dL_law_698 : decode cL_law 698 = .ok (.iload_n 3, 1) := by decide +kernel
theorem dL_law_699 : decode cL_law 699 = .ok (.iconst 2, 1) := by decide +kernel
theorem dL_law_700 : decode cL_law 700 = .ok (.iadd, 1) := by decide +kernel
theorem dL_law_701 : decode cL_law 701 = .ok (.iaload, 1) := by decide +kernel
theorem dL_law_702 : decode cL_law 702 = .ok (.invokevirtual 94, 3) := by decide +kernel
theorem dL_law_705 : decode cL_law 705 = .ok (.aload_n 2, 1) := by decide +kernel
theorem dL_law_706 : decode cL_law 706 = .ok (.aload_n 0, 1) := by decide +kernel
theorem dL_law_707 : decode cL_law 707 = .ok (.iload_n 3, 1) := by decide +kernel
theorem dL_law_708 : decode cL_law 708 = .ok (.iconst 1, 1) := by decide +kernel
theorem dL_law_709 : decode cL_law 709 = .ok (.iadd, 1) := by decide +kernel
theorem dL_law_710 : decode cL_law 710 = .ok (.iaload, 1) := by decide +kernel
theorem dL_law_711 : decode cL_law 711 = .ok (.aload_n 0, 1) := by decide +kernel
theorem dL_law_712 : decode cL_law 712 = .ok (.iload_n 3, 1) := by decide +kernel
theorem dL_law_713 : decode cL_law 713 = .ok (.iconst 2, 1) := by decide +kernel
theorem dL_law_714 : decode cL_law 714 = .ok (.iadd, 1) := by decide +kernel
theorem dL_law_715 : decode cL_law 715 = .ok (.iaload, 1) := by decide +kernel
theorem dL_law_716 : decode cL_law 716 = .ok (.invokevirtual 97, 3) := by decide +kernel
theorem dL_law_719 : decode cL_law 719 = .ok (.if_icmp .eq 88, 3) := by decide +kernel
theorem dL_law_722 : decode cL_law 722 = .ok (.iconst 0, 1) := by decide +kernel
theorem dL_law_723 : decode cL_law 723 = .ok (.ireturn, 1) := by decide +kernel
theorem dL_law_724 : decode cL_law 724 = .ok (.aload_n 1, 1) := by decide +kernel
theorem dL_law_725 : decode cL_law 725 = .ok (.aload_n 0, 1) := by decide +kernel
theorem dL_law_726 : decode cL_law 726 = .ok (.iload_n 3, 1) := by decide +kernel
theorem dL_law_727 : decode cL_law 727 = .ok (.iconst 1, 1) := by decide +kernel
theorem dL_law_728 : decode cL_law 728 = .ok (.iadd, 1) := by decide +kernel
theorem dL_law_729 : decode cL_law 729 = .ok (.iaload, 1) := by decide +kernel
theorem dL_law_730 : decode cL_law 730 = .ok (.invokevirtual 98, 3) := by decide +kernel
theorem dL_law_733 : decode cL_law 733 = .ok (.aload_n 2, 1) := by decide +kernel
theorem dL_law_734 : decode cL_law 734 = .ok (.aload_n 0, 1) := by decide +kernel
theorem dL_law_735 : decode cL_law 735 = .ok (.iload_n 3, 1) := by decide +kernel
theorem dL_law_736 : decode cL_law 736 = .ok (.iconst 1, 1) := by decide +kernel
theorem dL_law_737 : decode cL_law 737 = .ok (.iadd, 1) := by decide +kernel
theorem dL_law_738 : decode cL_law 738 = .ok (.iaload, 1) := by decide +kernel
theorem dL_law_739 : decode cL_law 739 = .ok (.invokevirtual 101, 3) := by decide +kernel
theorem dL_law_742 : decode cL_law 742 = .ok (.if_icmp .eq 65, 3) := by decide +kernel
theorem dL_law_745 : decode cL_law 745 = .ok (.iconst 0, 1) := by decide +kernel
theorem dL_law_746 : decode cL_law 746 = .ok (.ireturn, 1) := by decide +kernel
theorem dL_law_747 : decode cL_law 747 = .ok (.aload_n 1, 1) := by decide +kernel
theorem dL_law_748 : decode cL_law 748 = .ok (.aload_n 0, 1) := by decide +kernel
theorem dL_law_749 : decode cL_law 749 = .ok (.iload_n 3, 1) := by decide +kernel
theorem dL_law_750 : decode cL_law 750 = .ok (.iconst 1, 1) := by decide +kernel
theorem dL_law_751 : decode cL_law 751 = .ok (.iadd, 1) := by decide +kernel
theorem dL_law_752 : decode cL_law 752 = .ok (.iaload, 1) := by decide +kernel
theorem dL_law_753 : decode cL_law 753 = .ok (.invokevirtual 102, 3) := by decide +kernel
theorem dL_law_756 : decode cL_law 756 = .ok (.aload_n 2, 1) := by decide +kernel
theorem dL_law_757 : decode cL_law 757 = .ok (.aload_n 0, 1) := by decide +kernel
theorem dL_law_758 : decode cL_law 758 = .ok (.iload_n 3, 1) := by decide +kernel
theorem dL_law_759 : decode cL_law 759 = .ok (.iconst 1, 1) := by decide +kernel
theorem dL_law_760 : decode cL_law 760 = .ok (.iadd, 1) := by decide +kernel
theorem dL_law_761 : decode cL_law 761 = .ok (.iaload, 1) := by decide +kernel
theorem dL_law_762 : decode cL_law 762 = .ok (.invokevirtual 105, 3) := by decide +kernel
theorem dL_law_765 : decode cL_law 765 = .ok (.if_icmp .eq 42, 3) := by decide +kernel
theorem dL_law_768 : decode cL_law 768 = .ok (.iconst 0, 1) := by decide +kernel
theorem dL_law_769 : decode cL_law 769 = .ok (.ireturn, 1) := by decide +kernel
theorem dL_law_770 : decode cL_law 770 = .ok (.aload_n 1, 1) := by decide +kernel
theorem dL_law_771 : decode cL_law 771 = .ok (.aload_n 0, 1) := by decide +kernel
theorem dL_law_772 : decode cL_law 772 = .ok (.iload_n 3, 1) := by decide +kernel
theorem dL_law_773 : decode cL_law 773 = .ok (.iconst 1, 1) := by decide +kernel
theorem dL_law_774 : decode cL_law 774 = .ok (.iadd, 1) := by decide +kernel
theorem dL_law_775 : decode cL_law 775 = .ok (.iaload, 1) := by decide +kernel
theorem dL_law_776 : decode cL_law 776 = .ok (.invokevirtual 106, 3) := by decide +kernel
theorem dL_law_779 : decode cL_law 779 = .ok (.aload_n 2, 1) := by decide +kernel
theorem dL_law_780 : decode cL_law 780 = .ok (.aload_n 0, 1) := by decide +kernel
theorem dL_law_781 : decode cL_law 781 = .ok (.iload_n 3, 1) := by decide +kernel
theorem dL_law_782 : decode cL_law 782 = .ok (.iconst 1, 1) := by decide +kernel
theorem dL_law_783 : decode cL_law 783 = .ok (.iadd, 1) := by decide +kernel
theorem dL_law_784 : decode cL_law 784 = .ok (.iaload, 1) := by decide +kernel
theorem dL_law_785 : decode cL_law 785 = .ok (.invokevirtual 109, 3) := by decide +kernel
theorem dL_law_788 : decode cL_law 788 = .ok (.if_icmp .eq 19, 3) := by decide +kernel
theorem dL_law_791 : decode cL_law 791 = .ok (.iconst 0, 1) := by decide +kernel
theorem dL_law_792 : decode cL_law 792 = .ok (.ireturn, 1) := by decide +kernel
theorem dL_law_793 : decode cL_law 793 = .ok (.aload_n 1, 1) := by decide +kernel
theorem dL_law_794 : decode cL_law 794 = .ok (.invokevirtual 110, 3) := by decide +kernel
theorem dL_law_797 : decode cL_law 797 = .ok (.aload_n 2, 1) := by decide +kernel
theorem dL_law_798 : decode cL_law 798 = .ok (.invokevirtual 114, 3) := by decide +kernel
theorem dL_law_801 : decode cL_law 801 = .ok (.lcmp, 1) := by decide +kernel
theorem dL_law_802 : decode cL_law 802 = .ok (.ifCond .eq 5, 3) := by decide +kernel
theorem dL_law_805 : decode cL_law 805 = .ok (.iconst 0, 1) := by decide +kernel
theorem dL_law_806 : decode cL_law 806 = .ok (.ireturn, 1) := by decide +kernel
theorem dL_law_807 : decode cL_law 807 = .ok (.iinc 3 6, 3) := by decide +kernel
theorem dL_law_810 : decode cL_law 810 = .ok (.goto (-792), 3) := by decide +kernel
theorem dL_law_813 : decode cL_law 813 = .ok (.iconst 1, 1) := by decide +kernel
theorem dL_law_814 : decode cL_law 814 = .ok (.ireturn, 1) := by decide +kernel
