theorem dX6_readThing_34 : decode cX6_readThing 34 = .ok (.invokevirtual 120, 3) := by decide +kernel
theorem dX6_readThing_37 : decode cX6_readThing 37 = .ok (.ifCond .eq 18, 3) := by decide +kernel
theorem dX6_readThing_40 : decode cX6_readThing 40 = .ok (.aload_n 0, 1) := by decide +kernel
theorem dX6_readThing_41 : decode cX6_readThing 41 = .ok (.iconst 3, 1) := by decide +kernel
theorem dX6_readThing_42 : decode cX6_readThing 42 = .ok (.iconst 0, 1) := by decide +kernel
theorem dX6_readThing_43 : decode cX6_readThing 43 = .ok (.aload_n 0, 1) := by decide +kernel
theorem dX6_readThing_44 : decode cX6_readThing 44 = .ok (.getfield 117, 3) := by decide +kernel
theorem dX6_readThing_47 : decode cX6_readThing 47 = .ok (.iconst 1, 1) := by decide +kernel
theorem dX6_readThing_48 : decode cX6_readThing 48 = .ok (.isub, 1) := by decide +kernel
theorem dX6_readThing_49 : decode cX6_readThing 49 = .ok (.invokevirtual 120, 3) := by decide +kernel
theorem dX6_readThing_52 : decode cX6_readThing 52 = .ok (.ifCond .ne 5, 3) := by decide +kernel
theorem dX6_readThing_55 : decode cX6_readThing 55 = .ok (.iconst 0, 1) := by decide +kernel
theorem dX6_readThing_56 : decode cX6_readThing 56 = .ok (.ireturn, 1) := by decide +kernel
theorem dX6_readThing_57 : decode cX6_readThing 57 = .ok (.iconst 0, 1) := by decide +kernel
theorem dX6_readThing_58 : decode cX6_readThing 58 = .ok (.istore_n 1, 1) := by decide +kernel
theorem dX6_readThing_59 : decode cX6_readThing 59 = .ok (.iload_n 1, 1) := by decide +kernel
theorem dX6_readThing_60 : decode cX6_readThing 60 = .ok (.iconst 4, 1) := by decide +kernel
theorem dX6_readThing_61 : decode cX6_readThing 61 = .ok (.if_icmp .ge 28, 3) := by decide +kernel
theorem dX6_readThing_64 : decode cX6_readThing 64 = .ok (.aload_n 0, 1) := by decide +kernel
theorem dX6_readThing_65 : decode cX6_readThing 65 = .ok (.getfield 47, 3) := by decide +kernel
theorem dX6_readThing_68 : decode cX6_readThing 68 = .ok (.iconst 4, 1) := by decide +kernel
theorem dX6_readThing_69 : decode cX6_readThing 69 = .ok (.aload_n 0, 1) := by decide +kernel
theorem dX6_readThing_70 : decode cX6_readThing 70 = .ok (.getfield 124, 3) := by decide +kernel
theorem dX6_readThing_73 : decode cX6_readThing 73 = .ok (.imul, 1) := by decide +kernel
theorem dX6_readThing_74 : decode cX6_readThing 74 = .ok (.iload_n 1, 1) := by decide +kernel
theorem dX6_readThing_75 : decode cX6_readThing 75 = .ok (.iadd, 1) := by decide +kernel
theorem dX6_readThing_76 : decode cX6_readThing 76 = .ok (.aload_n 0, 1) := by decide +kernel
theorem dX6_readThing_77 : decode cX6_readThing 77 = .ok (.getfield 50, 3) := by decide +kernel
theorem dX6_readThing_80 : decode cX6_readThing 80 = .ok (.iload_n 1, 1) := by decide +kernel
theorem dX6_readThing_81 : decode cX6_readThing 81 = .ok (.iaload, 1) := by decide +kernel
theorem dX6_readThing_82 : decode cX6_readThing 82 = .ok (.iastore, 1) := by decide +kernel
theorem dX6_readThing_83 : decode cX6_readThing 83 = .ok (.iinc 1 1, 3) := by decide +kernel
theorem dX6_readThing_86 : decode cX6_readThing 86 = .ok (.goto (-27), 3) := by decide +kernel
theorem dX6_readThing_89 : decode cX6_readThing 89 = .ok (.aload_n 0, 1) := by decide +kernel
theorem dX6_readThing_90 : decode cX6_readThing 90 = .ok (.dup, 1) := by decide +kernel
theorem dX6_readThing_91 : decode cX6_readThing 91 = .ok (.getfield 124, 3) := by decide +kernel
theorem dX6_readThing_94 : decode cX6_readThing 94 = .ok (.iconst 1, 1) := by decide +kernel
theorem dX6_readThing_95 : decode cX6_readThing 95 = .ok (.iadd, 1) := by decide +kernel
theorem dX6_readThing_96 : decode cX6_readThing 96 = .ok (.putfield 124, 3) := by decide +kernel
theorem dX6_readThing_99 : decode cX6_readThing 99 = .ok (.iconst 1, 1) := by decide +kernel
theorem dX6_readThing_100 : decode cX6_readThing 100 = .ok (.ireturn, 1) := by decide +kernel
theorem dX6_readLaw_0 : decode cX6_readLaw 0 = .ok (.aload_n 0, 1) := by decide +kernel
theorem dX6_readLaw_1 : decode cX6_readLaw 1 = .ok (.invokevirtual 127, 3) := by decide +kernel
theorem dX6_readLaw_4 : decode cX6_readLaw 4 = .ok (.ifCond .ne 5, 3) := by decide +kernel
theorem dX6_readLaw_7 : decode cX6_readLaw 7 = .ok (.iconst 0, 1) := by decide +kernel
theorem dX6_readLaw_8 : decode cX6_readLaw 8 = .ok (.ireturn, 1) := by decide +kernel
theorem dX6_readLaw_9 : decode cX6_readLaw 9 = .ok (.aload_n 0, 1) := by decide +kernel
theorem dX6_readLaw_10 : decode cX6_readLaw 10 = .ok (.getfield 38, 3) := by decide +kernel
theorem dX6_readLaw_13 : decode cX6_readLaw 13 = .ok (.bipush 8, 2) := by decide +kernel
theorem dX6_readLaw_15 : decode cX6_readLaw 15 = .ok (.aload_n 0, 1) := by decide +kernel
theorem dX6_readLaw_16 : decode cX6_readLaw 16 = .ok (.getfield 50, 3) := by decide +kernel
theorem dX6_readLaw_19 : decode cX6_readLaw 19 = .ok (.iconst 0, 1) := by decide +kernel
theorem dX6_readLaw_20 : decode cX6_readLaw 20 = .ok (.iaload, 1) := by decide +kernel
theorem dX6_readLaw_21 : decode cX6_readLaw 21 = .ok (.imul, 1) := by decide +kernel
theorem dX6_readLaw_22 : decode cX6_readLaw 22 = .ok (.iconst 4, 1) := by decide +kernel
theorem dX6_readLaw_23 : decode cX6_readLaw 23 = .ok (.iadd, 1) := by decide +kernel
theorem dX6_readLaw_24 : decode cX6_readLaw 24 = .ok (.iload_n 1, 1) := by decide +kernel
theorem dX6_readLaw_25 : decode cX6_readLaw 25 = .ok (.iastore, 1) := by decide +kernel
theorem dX6_readLaw_26 : decode cX6_readLaw 26 = .ok (.aload_n 0, 1) := by decide +kernel
theorem dX6_readLaw_27 : decode cX6_readLaw 27 = .ok (.getfield 38, 3) := by decide +kernel
theorem dX6_readLaw_30 : decode cX6_readLaw 30 = .ok (.bipush 8, 2) := by decide +kernel
theorem dX6_readLaw_32 : decode cX6_readLaw 32 = .ok (.aload_n 0, 1) := by decide +kernel
theorem dX6_readLaw_33 : decode cX6_readLaw 33 = .ok (.getfield 50, 3) := by decide +kernel
theorem dX6_readLaw_36 : decode cX6_readLaw 36 = .ok (.iconst 0, 1) := by decide +kernel
theorem dX6_readLaw_37 : decode cX6_readLaw 37 = .ok (.iaload, 1) := by decide +kernel
theorem dX6_readLaw_38 : decode cX6_readLaw 38 = .ok (.imul, 1) := by decide +kernel
theorem dX6_readLaw_39 : decode cX6_readLaw 39 = .ok (.iconst 5, 1) := by decide +kernel
theorem dX6_readLaw_40 : decode cX6_readLaw 40 = .ok (.iadd, 1) := by decide +kernel
theorem dX6_readLaw_41 : decode cX6_readLaw 41 = .ok (.aload_n 0, 1) := by decide +kernel
theorem dX6_readLaw_42 : decode cX6_readLaw 42 = .ok (.getfield 50, 3) := by decide +kernel
theorem dX6_readLaw_45 : decode cX6_readLaw 45 = .ok (.iconst 1, 1) := by decide +kernel
theorem dX6_readLaw_46 : decode cX6_readLaw 46 = .ok (.iaload, 1) := by decide +kernel
theorem dX6_readLaw_47 : decode cX6_readLaw 47 = .ok (.iastore, 1) := by decide +kernel
theorem dX6_readLaw_48 : decode cX6_readLaw 48 = .ok (.iconst 1, 1) := by decide +kernel
theorem dX6_readLaw_49 : decode cX6_readLaw 49 = .ok (.ireturn, 1) := by decide +kernel
theorem dX6_readSeam_0 : decode cX6_readSeam 0 = .ok (.aload_n 0, 1) := by decide +kernel
theorem dX6_readSeam_1 : decode cX6_readSeam 1 = .ok (.invokevirtual 127, 3) := by decide +kernel
theorem dX6_readSeam_4 : decode cX6_readSeam 4 = .ok (.ifCond .ne 5, 3) := by decide +kernel
theorem dX6_readSeam_7 : decode cX6_readSeam 7 = .ok (.iconst 0, 1) := by decide +kernel
theorem dX6_readSeam_8 : decode cX6_readSeam 8 = .ok (.ireturn, 1) := by decide +kernel
theorem dX6_readSeam_9 : decode cX6_readSeam 9 = .ok (.aload_n 0, 1) := by decide +kernel
theorem dX6_readSeam_10 : decode cX6_readSeam 10 = .ok (.getfield 41, 3) := by decide +kernel
theorem dX6_readSeam_13 : decode cX6_readSeam 13 = .ok (.bipush 6, 2) := by decide +kernel
theorem dX6_readSeam_15 : decode cX6_readSeam 15 = .ok (.aload_n 0, 1) := by decide +kernel
theorem dX6_readSeam_16 : decode cX6_readSeam 16 = .ok (.getfield 50, 3) := by decide +kernel
theorem dX6_readSeam_19 : decode cX6_readSeam 19 = .ok (.iconst 0, 1) := by decide +kernel
theorem dX6_readSeam_20 : decode cX6_readSeam 20 = .ok (.iaload, 1) := by decide +kernel
theorem dX6_readSeam_21 : decode cX6_readSeam 21 = .ok (.imul, 1) := by decide +kernel
theorem dX6_readSeam_22 : decode cX6_readSeam 22 = .ok (.aload_n 0, 1) := by decide +kernel
theorem dX6_readSeam_23 : decode cX6_readSeam 23 = .ok (.getfield 50, 3) := by decide +kernel
theorem dX6_readSeam_26 : decode cX6_readSeam 26 = .ok (.iconst 1, 1) := by decide +kernel
theorem dX6_readSeam_27 : decode cX6_readSeam 27 = .ok (.iaload, 1) := by decide +kernel
theorem dX6_readSeam_28 : decode cX6_readSeam 28 = .ok (.iadd, 1) := by decide +kernel
theorem dX6_readSeam_29 : decode cX6_readSeam 29 = .ok (.iconst 1, 1) := by decide +kernel
theorem dX6_readSeam_30 : decode cX6_readSeam 30 = .ok (.bastore, 1) := by decide +kernel
theorem dX6_readSeam_31 : decode cX6_readSeam 31 = .ok (.aload_n 0, 1) := by decide +kernel
theorem dX6_readSeam_32 : decode cX6_readSeam 32 = .ok (.getfield 41, 3) := by decide +kernel
theorem dX6_readSeam_35 : decode cX6_readSeam 35 = .ok (.bipush 6, 2) := by decide +kernel
theorem dX6_readSeam_37 : decode cX6_readSeam 37 = .ok (.aload_n 0, 1) := by decide +kernel
theorem dX6_readSeam_38 : decode cX6_readSeam 38 = .ok (.getfield 50, 3) := by decide +kernel
theorem dX6_readSeam_41 : decode cX6_readSeam 41 = .ok (.iconst 1, 1) := by decide +kernel
theorem dX6_readSeam_42 : decode cX6_readSeam 42 = .ok (.iaload, 1) := by decide +kernel
theorem dX6_readSeam_43 : decode cX6_readSeam 43 = .ok (.imul, 1) := by decide +kernel
theorem dX6_readSeam_44 : decode cX6_readSeam 44 = .ok (.aload_n 0, 1) := by decide +kernel
theorem dX6_readSeam_45 : decode cX6_readSeam 45 = .ok (.getfield 50, 3) := by decide +kernel
theorem dX6_readSeam_48 : decode cX6_readSeam 48 = .ok (.iconst 0, 1) := by decide +kernel
theorem dX6_readSeam_49 : decode cX6_readSeam 49 = .ok (.iaload, 1) := by decide +kernel
theorem dX6_readSeam_50 : decode cX6_readSeam 50 = .ok (.iadd, 1) := by decide +kernel
theorem dX6_readSeam_51 : decode cX6_readSeam 51 = .ok (.iconst 1, 1) := by decide +kernel
theorem dX6_readSeam_52 : decode cX6_readSeam 52 = .ok (.bastore, 1) := by decide +kernel
theorem dX6_readSeam_53 : decode cX6_readSeam 53 = .ok (.iconst 1, 1) := by decide +kernel
theorem dX6_readSeam_54 : decode cX6_readSeam 54 = .ok (.ireturn, 1) := by decide +kernel
theorem dX6_readHole_0 : decode cX6_readHole 0 = .ok (.aload_n 0, 1) := by decide +kernel
theorem dX6_readHole_1 : decode cX6_readHole 1 = .ok (.invokevirtual 127, 3) := by decide +kernel
theorem dX6_readHole_4 : decode cX6_readHole 4 = .ok (.ifCond .eq 13, 3) := by decide +kernel
theorem dX6_readHole_7 : decode cX6_readHole 7 = .ok (.aload_n 0, 1) := by decide +kernel
theorem dX6_readHole_8 : decode cX6_readHole 8 = .ok (.iconst 2, 1) := by decide +kernel
theorem dX6_readHole_9 : decode cX6_readHole 9 = .ok (.iconst 1, 1) := by decide +kernel
theorem dX6_readHole_10 : decode cX6_readHole 10 = .ok (.iconst 5, 1) := by decide +kernel
theorem dX6_readHole_11 : decode cX6_readHole 11 = .ok (.invokevirtual 120, 3) := by decide +kernel
theorem dX6_readHole_14 : decode cX6_readHole 14 = .ok (.ifCond .ne 5, 3) := by decide +kernel
theorem dX6_readHole_17 : decode cX6_readHole 17 = .ok (.iconst 0, 1) := by decide +kernel
theorem dX6_readHole_18 : decode cX6_readHole 18 = .ok (.ireturn, 1) := by decide +kernel
theorem dX6_readHole_19 : decode cX6_readHole 19 = .ok (.aload_n 0, 1) := by decide +kernel
theorem dX6_readHole_20 : decode cX6_readHole 20 = .ok (.getfield 38, 3) := by decide +kernel
theorem dX6_readHole_23 : decode cX6_readHole 23 = .ok (.bipush 8, 2) := by decide +kernel
theorem dX6_readHole_25 : decode cX6_readHole 25 = .ok (.aload_n 0, 1) := by decide +kernel
theorem dX6_readHole_26 : decode cX6_readHole 26 = .ok (.getfield 50, 3) := by decide +kernel
theorem dX6_readHole_29 : decode cX6_readHole 29 = .ok (.iconst 0, 1) := by decide +kernel
theorem dX6_readHole_30 : decode cX6_readHole 30 = .ok (.iaload, 1) := by decide +kernel
theorem dX6_readHole_31 : decode cX6_readHole 31 = .ok (.imul, 1) := by decide +kernel
theorem dX6_readHole_32 : decode cX6_readHole 32 = .ok (.bipush 6, 2) := by decide +kernel
theorem dX6_readHole_34 : decode cX6_readHole 34 = .ok (.iadd, 1) := by decide +kernel
theorem dX6_readHole_35 : decode cX6_readHole 35 = .ok (.aload_n 0, 1) := by decide +kernel
theorem dX6_readHole_36 : decode cX6_readHole 36 = .ok (.getfield 50, 3) := by decide +kernel
theorem dX6_readHole_39 : decode cX6_readHole 39 = .ok (.iconst 1, 1) := by decide +kernel
theorem dX6_readHole_40 : decode cX6_readHole 40 = .ok (.iaload, 1) := by decide +kernel
theorem dX6_readHole_41 : decode cX6_readHole 41 = .ok (.iastore, 1) := by decide +kernel
theorem dX6_readHole_42 : decode cX6_readHole 42 = .ok (.aload_n 0, 1) := by decide +kernel
theorem dX6_readHole_43 : decode cX6_readHole 43 = .ok (.getfield 38, 3) := by decide +kernel
theorem dX6_readHole_46 : decode cX6_readHole 46 = .ok (.bipush 8, 2) := by decide +kernel
theorem dX6_readHole_48 : decode cX6_readHole 48 = .ok (.aload_n 0, 1) := by decide +kernel
theorem dX6_readHole_49 : decode cX6_readHole 49 = .ok (.getfield 50, 3) := by decide +kernel
theorem dX6_readHole_52 : decode cX6_readHole 52 = .ok (.iconst 0, 1) := by decide +kernel
theorem dX6_readHole_53 : decode cX6_readHole 53 = .ok (.iaload, 1) := by decide +kernel
theorem dX6_readHole_54 : decode cX6_readHole 54 = .ok (.imul, 1) := by decide +kernel
theorem dX6_readHole_55 : decode cX6_readHole 55 = .ok (.bipush 7, 2) := by decide +kernel
theorem dX6_readHole_57 : decode cX6_readHole 57 = .ok (.iadd, 1) := by decide +kernel
theorem dX6_readHole_58 : decode cX6_readHole 58 = .ok (.aload_n 0, 1) := by decide +kernel
theorem dX6_readHole_59 : decode cX6_readHole 59 = .ok (.getfield 50, 3) := by decide +kernel
theorem dX6_readHole_62 : decode cX6_readHole 62 = .ok (.iconst 2, 1) := by decide +kernel
theorem dX6_readHole_63 : decode cX6_readHole 63 = .ok (.iaload, 1) := by decide +kernel
theorem dX6_readHole_64 : decode cX6_readHole 64 = .ok (.iastore, 1) := by decide +kernel
theorem dX6_readHole_65 : decode cX6_readHole 65 = .ok (.iconst 1, 1) := by decide +kernel
theorem dX6_readHole_66 : decode cX6_readHole 66 = .ok (.ireturn, 1) := by decide +kernel
theorem dX6_readTreaty_0 : decode cX6_readTreaty 0 = .ok (.aload_n 0, 1) := by decide +kernel
theorem dX6_readTreaty_1 : decode cX6_readTreaty 1 = .ok (.getfield 131, 3) := by decide +kernel
theorem dX6_readTreaty_4 : decode cX6_readTreaty 4 = .ok (.bipush 12, 2) := by decide +kernel
theorem dX6_readTreaty_6 : decode cX6_readTreaty 6 = .ok (.if_icmp .eq 20, 3) := by decide +kernel
theorem dX6_readTreaty_9 : decode cX6_readTreaty 9 = .ok (.aload_n 0, 1) := by decide +kernel
theorem dX6_readTreaty_10 : decode cX6_readTreaty 10 = .ok (.invokevirtual 127, 3) := by decide +kernel
theorem dX6_readTreaty_13 : decode cX6_readTreaty 13 = .ok (.ifCond .eq 13, 3) := by decide +kernel
theorem dX6_readTreaty_16 : decode cX6_readTreaty 16 = .ok (.aload_n 0, 1) := by decide +kernel
theorem dX6_readTreaty_17 : decode cX6_readTreaty 17 = .ok (.iconst 2, 1) := by decide +kernel
theorem dX6_readTreaty_18 : decode cX6_readTreaty 18 = .ok (.iconst 0, 1) := by decide +kernel
theorem dX6_readTreaty_19 : decode cX6_readTreaty 19 = .ok (.iconst 5, 1) := by decide +kernel
theorem dX6_readTreaty_20 : decode cX6_readTreaty 20 = .ok (.invokevirtual 120, 3) := by decide +kernel
theorem dX6_readTreaty_23 : decode cX6_readTreaty 23 = .ok (.ifCond .ne 5, 3) := by decide +kernel
theorem dX6_readTreaty_26 : decode cX6_readTreaty 26 = .ok (.iconst 0, 1) := by decide +kernel
theorem dX6_readTreaty_27 : decode cX6_readTreaty 27 = .ok (.ireturn, 1) := by decide +kernel
theorem dX6_readTreaty_28 : decode cX6_readTreaty 28 = .ok (.aload_n 0, 1) := by decide +kernel
theorem dX6_readTreaty_29 : decode cX6_readTreaty 29 = .ok (.getfield 44, 3) := by decide +kernel
theorem dX6_readTreaty_32 : decode cX6_readTreaty 32 = .ok (.bipush 6, 2) := by decide +kernel
theorem dX6_readTreaty_34 : decode cX6_readTreaty 34 = .ok (.aload_n 0, 1) := by decide +kernel
theorem dX6_readTreaty_35 : decode cX6_readTreaty 35 = .ok (.getfield 50, 3) := by decide +kernel
theorem dX6_readTreaty_38 : decode cX6_readTreaty 38 = .ok (.iconst 0, 1) := by decide +kernel
theorem dX6_readTreaty_39 : decode cX6_readTreaty 39 = .ok (.iaload, 1) := by decide +kernel
theorem dX6_readTreaty_40 : decode cX6_readTreaty 40 = .ok (.imul, 1) := by decide +kernel
theorem dX6_readTreaty_41 : decode cX6_readTreaty 41 = .ok (.aload_n 0, 1) := by decide +kernel
theorem dX6_readTreaty_42 : decode cX6_readTreaty 42 = .ok (.getfield 50, 3) := by decide +kernel
theorem dX6_readTreaty_45 : decode cX6_readTreaty 45 = .ok (.iconst 1, 1) := by decide +kernel
theorem dX6_readTreaty_46 : decode cX6_readTreaty 46 = .ok (.iaload, 1) := by decide +kernel
theorem dX6_readTreaty_47 : decode cX6_readTreaty 47 = .ok (.iadd, 1) := by decide +kernel
theorem dX6_readTreaty_48 : decode cX6_readTreaty 48 = .ok (.dup2, 1) := by decide +kernel
theorem dX6_readTreaty_49 : decode cX6_readTreaty 49 = .ok (.iaload, 1) := by decide +kernel
theorem dX6_readTreaty_50 : decode cX6_readTreaty 50 = .ok (.iconst 1, 1) := by decide +kernel
theorem dX6_readTreaty_51 : decode cX6_readTreaty 51 = .ok (.aload_n 0, 1) := by decide +kernel
theorem dX6_readTreaty_52 : decode cX6_readTreaty 52 = .ok (.getfield 50, 3) := by decide +kernel
theorem dX6_readTreaty_55 : decode cX6_readTreaty 55 = .ok (.iconst 2, 1) := by decide +kernel
theorem dX6_readTreaty_56 : decode cX6_readTreaty 56 = .ok (.iaload, 1) := by decide +kernel
theorem dX6_readTreaty_57 : decode cX6_readTreaty 57 = .ok (.ishl, 1) := by decide +kernel
theorem dX6_readTreaty_58 : decode cX6_readTreaty 58 = .ok (.ior, 1) := by decide +kernel
theorem dX6_readTreaty_59 : decode cX6_readTreaty 59 = .ok (.iastore, 1) := by decide +kernel
theorem dX6_readTreaty_60 : decode cX6_readTreaty 60 = .ok (.aload_n 0, 1) := by decide +kernel
theorem dX6_readTreaty_61 : decode cX6_readTreaty 61 = .ok (.getfield 44, 3) := by decide +kernel
theorem dX6_readTreaty_64 : decode cX6_readTreaty 64 = .ok (.bipush 6, 2) := by decide +kernel
theorem dX6_readTreaty_66 : decode cX6_readTreaty 66 = .ok (.aload_n 0, 1) := by decide +kernel
theorem dX6_readTreaty_67 : decode cX6_readTreaty 67 = .ok (.getfield 50, 3) := by decide +kernel
theorem dX6_readTreaty_70 : decode cX6_readTreaty 70 = .ok (.iconst 1, 1) := by decide +kernel
theorem dX6_readTreaty_71 : decode cX6_readTreaty 71 = .ok (.iaload, 1) := by decide +kernel
theorem dX6_readTreaty_72 : decode cX6_readTreaty 72 = .ok (.imul, 1) := by decide +kernel
theorem dX6_readTreaty_73 : decode cX6_readTreaty 73 = .ok (.aload_n 0, 1) := by decide +kernel
theorem dX6_readTreaty_74 : decode cX6_readTreaty 74 = .ok (.getfield 50, 3) := by decide +kernel
theorem dX6_readTreaty_77 : decode cX6_readTreaty 77 = .ok (.iconst 0, 1) := by decide +kernel
theorem dX6_readTreaty_78 : decode cX6_readTreaty 78 = .ok (.iaload, 1) := by decide +kernel
theorem dX6_readTreaty_79 : decode cX6_readTreaty 79 = .ok (.iadd, 1) := by decide +kernel
theorem dX6_readTreaty_80 : decode cX6_readTreaty 80 = .ok (.dup2, 1) := by decide +kernel
theorem dX6_readTreaty_81 : decode cX6_readTreaty 81 = .ok (.iaload, 1) := by decide +kernel
theorem dX6_readTreaty_82 : decode cX6_readTreaty 82 = .ok (.iconst 1, 1) := by decide +kernel
theorem dX6_readTreaty_83 : decode cX6_readTreaty 83 = .ok (.aload_n 0, 1) := by decide +kernel
theorem dX6_readTreaty_84 : decode cX6_readTreaty 84 = .ok (.getfield 50, 3) := by decide +kernel
theorem dX6_readTreaty_87 : decode cX6_readTreaty 87 = .ok (.iconst 2, 1) := by decide +kernel
theorem dX6_readTreaty_88 : decode cX6_readTreaty 88 = .ok (.iaload, 1) := by decide +kernel
theorem dX6_readTreaty_89 : decode cX6_readTreaty 89 = .ok (.ishl, 1) := by decide +kernel
theorem dX6_readTreaty_90 : decode cX6_readTreaty 90 = .ok (.ior, 1) := by decide +kernel
theorem dX6_readTreaty_91 : decode cX6_readTreaty 91 = .ok (.iastore, 1) := by decide +kernel
theorem dX6_readTreaty_92 : decode cX6_readTreaty 92 = .ok (.aload_n 0, 1) := by decide +kernel
theorem dX6_readTreaty_93 : decode cX6_readTreaty 93 = .ok (.dup, 1) := by decide +kernel
theorem dX6_readTreaty_94 : decode cX6_readTreaty 94 = .ok (.getfield 131, 3) := by decide +kernel
theorem dX6_readTreaty_97 : decode cX6_readTreaty 97 = .ok (.iconst 1, 1) := by decide +kernel
theorem dX6_readTreaty_98 : decode cX6_readTreaty 98 = .ok (.iadd, 1) := by decide +kernel
theorem dX6_readTreaty_99 : decode cX6_readTreaty 99 = .ok (.putfield 131, 3) := by decide +kernel
theorem dX6_readTreaty_102 : decode cX6_readTreaty 102 = .ok (.iconst 1, 1) := by decide +kernel
theorem dX6_readTreaty_103 : decode cX6_readTreaty 103 = .ok (.ireturn, 1) := by decide +kernel
theorem dX6_readRealm_0 : decode cX6_readRealm 0 = .ok (.aload_n 0, 1) := by decide +kernel
theorem dX6_readRealm_1 : decode cX6_readRealm 1 = .ok (.iconst 0, 1) := by decide +kernel
theorem dX6_readRealm_2 : decode cX6_readRealm 2 = .ok (.putfield 94, 3) := by decide +kernel
theorem dX6_readRealm_5 : decode cX6_readRealm 5 = .ok (.aload_n 0, 1) := by decide +kernel
theorem dX6_readRealm_6 : decode cX6_readRealm 6 = .ok (.iconst 0, 1) := by decide +kernel
theorem dX6_readRealm_7 : decode cX6_readRealm 7 = .ok (.putfield 134, 3) := by decide +kernel
theorem dX6_readRealm_10 : decode cX6_readRealm 10 = .ok (.aload_n 0, 1) := by decide +kernel
theorem dX6_readRealm_11 : decode cX6_readRealm 11 = .ok (.iconst 0, 1) := by decide +kernel
theorem dX6_readRealm_12 : decode cX6_readRealm 12 = .ok (.putfield 117, 3) := by decide +kernel
theorem dX6_readRealm_15 : decode cX6_readRealm 15 = .ok (.aload_n 0, 1) := by decide +kernel
theorem dX6_readRealm_16 : decode cX6_readRealm 16 = .ok (.iconst 0, 1) := by decide +kernel
theorem dX6_readRealm_17 : decode cX6_readRealm 17 = .ok (.putfield 131, 3) := by decide +kernel
theorem dX6_readRealm_20 : decode cX6_readRealm 20 = .ok (.aload_n 0, 1) := by decide +kernel
theorem dX6_readRealm_21 : decode cX6_readRealm 21 = .ok (.iconst 0, 1) := by decide +kernel
theorem dX6_readRealm_22 : decode cX6_readRealm 22 = .ok (.putfield 124, 3) := by decide +kernel
theorem dX6_readRealm_25 : decode cX6_readRealm 25 = .ok (.iconst 0, 1) := by decide +kernel
theorem dX6_readRealm_26 : decode cX6_readRealm 26 = .ok (.istore_n 1, 1) := by decide +kernel
theorem dX6_readRealm_27 : decode cX6_readRealm 27 = .ok (.iload_n 1, 1) := by decide +kernel
theorem dX6_readRealm_28 : decode cX6_readRealm 28 = .ok (.bipush 36, 2) := by decide +kernel
theorem dX6_readRealm_30 : decode cX6_readRealm 30 = .ok (.if_icmp .ge 23, 3) := by decide +kernel
theorem dX6_readRealm_33 : decode cX6_readRealm 33 = .ok (.aload_n 0, 1) := by decide +kernel
theorem dX6_readRealm_34 : decode cX6_readRealm 34 = .ok (.getfield 41, 3) := by decide +kernel
theorem dX6_readRealm_37 : decode cX6_readRealm 37 = .ok (.iload_n 1, 1) := by decide +kernel
theorem dX6_readRealm_38 : decode cX6_readRealm 38 = .ok (.iconst 0, 1) := by decide +kernel
theorem dX6_readRealm_39 : decode cX6_readRealm 39 = .ok (.bastore, 1) := by decide +kernel
theorem dX6_readRealm_40 : decode cX6_readRealm 40 = .ok (.aload_n 0, 1) := by decide +kernel
theorem dX6_readRealm_41 : decode cX6_readRealm 41 = .ok (.getfield 44, 3) := by decide +kernel
theorem dX6_readRealm_44 : decode cX6_readRealm 44 = .ok (.iload_n 1, 1) := by decide +kernel
theorem dX6_readRealm_45 : decode cX6_readRealm 45 = .ok (.iconst 0, 1) := by decide +kernel
theorem dX6_readRealm_46 : decode cX6_readRealm 46 = .ok (.iastore, 1) := by decide +kernel
theorem dX6_readRealm_47 : decode cX6_readRealm 47 = .ok (.iinc 1 1, 3) := by decide +kernel
theorem dX6_readRealm_50 : decode cX6_readRealm 50 = .ok (.goto (-23), 3) := by decide +kernel
theorem dX6_readRealm_53 : decode cX6_readRealm 53 = .ok (.aload_n 0, 1) := by decide +kernel
theorem dX6_readRealm_54 : decode cX6_readRealm 54 = .ok (.invokevirtual 114, 3) := by decide +kernel
theorem dX6_readRealm_57 : decode cX6_readRealm 57 = .ok (.aload_n 0, 1) := by decide +kernel
theorem dX6_readRealm_58 : decode cX6_readRealm 58 = .ok (.getfield 107, 3) := by decide +kernel
theorem dX6_readRealm_61 : decode cX6_readRealm 61 = .ok (.iconst 2, 1) := by decide +kernel
theorem dX6_readRealm_62 : decode cX6_readRealm 62 = .ok (.if_icmp .eq 163, 3) := by decide +kernel
theorem dX6_readRealm_65 : decode cX6_readRealm 65 = .ok (.aload_n 0, 1) := by decide +kernel
theorem dX6_readRealm_66 : decode cX6_readRealm 66 = .ok (.getfield 107, 3) := by decide +kernel
theorem dX6_readRealm_69 : decode cX6_readRealm 69 = .ok (.ifCond .ne 10, 3) := by decide +kernel
theorem dX6_readRealm_72 : decode cX6_readRealm 72 = .ok (.aload_n 0, 1) := by decide +kernel
theorem dX6_readRealm_73 : decode cX6_readRealm 73 = .ok (.getfield 104, 3) := by decide +kernel
theorem dX6_readRealm_76 : decode cX6_readRealm 76 = .ok (.goto 4, 3) := by decide +kernel
theorem dX6_readRealm_79 : decode cX6_readRealm 79 = .ok (.iconst 0, 1) := by decide +kernel
theorem dX6_readRealm_80 : decode cX6_readRealm 80 = .ok (.istore_n 1, 1) := by decide +kernel
theorem dX6_readRealm_81 : decode cX6_readRealm 81 = .ok (.iload_n 1, 1) := by decide +kernel
theorem dX6_readRealm_82 : decode cX6_readRealm 82 = .ok (.bipush 107, 2) := by decide +kernel
theorem dX6_readRealm_84 : decode cX6_readRealm 84 = .ok (.if_icmp .ne 10, 3) := by decide +kernel
theorem dX6_readRealm_87 : decode cX6_readRealm 87 = .ok (.aload_n 0, 1) := by decide +kernel
theorem dX6_readRealm_88 : decode cX6_readRealm 88 = .ok (.invokevirtual 137, 3) := by decide +kernel
theorem dX6_readRealm_91 : decode cX6_readRealm 91 = .ok (.goto 88, 3) := by decide +kernel
theorem dX6_readRealm_94 : decode cX6_readRealm 94 = .ok (.iload_n 1, 1) := by decide +kernel
theorem dX6_readRealm_95 : decode cX6_readRealm 95 = .ok (.bipush 97, 2) := by decide +kernel
theorem dX6_readRealm_97 : decode cX6_readRealm 97 = .ok (.if_icmp .ne 11, 3) := by decide +kernel
theorem dX6_readRealm_100 : decode cX6_readRealm 100 = .ok (.aload_n 0, 1) := by decide +kernel
theorem dX6_readRealm_101 : decode cX6_readRealm 101 = .ok (.iconst 1, 1) := by decide +kernel
theorem dX6_readRealm_102 : decode cX6_readRealm 102 = .ok (.invokevirtual 140, 3) := by decide +kernel
theorem dX6_readRealm_105 : decode cX6_readRealm 105 = .ok (.goto 74, 3) := by decide +kernel
theorem dX6_readRealm_108 : decode cX6_readRealm 108 = .ok (.iload_n 1, 1) := by decide +kernel
theorem dX6_readRealm_109 : decode cX6_readRealm 109 = .ok (.bipush 110, 2) := by decide +kernel
theorem dX6_readRealm_111 : decode cX6_readRealm 111 = .ok (.if_icmp .ne 11, 3) := by decide +kernel
theorem dX6_readRealm_114 : decode cX6_readRealm 114 = .ok (.aload_n 0, 1) := by decide +kernel
theorem dX6_readRealm_115 : decode cX6_readRealm 115 = .ok (.iconst 2, 1) := by decide +kernel
theorem dX6_readRealm_116 : decode cX6_readRealm 116 = .ok (.invokevirtual 140, 3) := by decide +kernel
theorem dX6_readRealm_119 : decode cX6_readRealm 119 = .ok (.goto 60, 3) := by decide +kernel
theorem dX6_readRealm_122 : decode cX6_readRealm 122 = .ok (.iload_n 1, 1) := by decide +kernel
theorem dX6_readRealm_123 : decode cX6_readRealm 123 = .ok (.bipush 115, 2) := by decide +kernel
theorem dX6_readRealm_125 : decode cX6_readRealm 125 = .ok (.if_icmp .ne 10, 3) := by decide +kernel
theorem dX6_readRealm_128 : decode cX6_readRealm 128 = .ok (.aload_n 0, 1) := by decide +kernel
theorem dX6_readRealm_129 : decode cX6_readRealm 129 = .ok (.invokevirtual 144, 3) := by decide +kernel
theorem dX6_readRealm_132 : decode cX6_readRealm 132 = .ok (.goto 47, 3) := by decide +kernel
theorem dX6_readRealm_135 : decode cX6_readRealm 135 = .ok (.iload_n 1, 1) := by decide +kernel
theorem dX6_readRealm_136 : decode cX6_readRealm 136 = .ok (.bipush 104, 2) := by decide +kernel
theorem dX6_readRealm_138 : decode cX6_readRealm 138 = .ok (.if_icmp .ne 10, 3) := by decide +kernel
theorem dX6_readRealm_141 : decode cX6_readRealm 141 = .ok (.aload_n 0, 1) := by decide +kernel
theorem dX6_readRealm_142 : decode cX6_readRealm 142 = .ok (.invokevirtual 147, 3) := by decide +kernel
theorem dX6_readRealm_145 : decode cX6_readRealm 145 = .ok (.goto 34, 3) := by decide +kernel
theorem dX6_readRealm_148 : decode cX6_readRealm 148 = .ok (.iload_n 1, 1) := by decide +kernel
theorem dX6_readRealm_149 : decode cX6_readRealm 149 = .ok (.bipush 121, 2) := by decide +kernel
theorem dX6_readRealm_151 : decode cX6_readRealm 151 = .ok (.if_icmp .ne 10, 3) := by decide +kernel
theorem dX6_readRealm_154 : decode cX6_readRealm 154 = .ok (.aload_n 0, 1) := by decide +kernel
theorem dX6_readRealm_155 : decode cX6_readRealm 155 = .ok (.invokevirtual 150, 3) := by decide +kernel
theorem dX6_readRealm_158 : decode cX6_readRealm 158 = .ok (.goto 21, 3) := by decide +kernel
theorem dX6_readRealm_161 : decode cX6_readRealm 161 = .ok (.iload_n 1, 1) := by decide +kernel
theorem dX6_readRealm_162 : decode cX6_readRealm 162 = .ok (.bipush 116, 2) := by decide +kernel
theorem dX6_readRealm_164 : decode cX6_readRealm 164 = .ok (.if_icmp .ne 14, 3) := by decide +kernel
theorem dX6_readRealm_167 : decode cX6_readRealm 167 = .ok (.aload_n 0, 1) := by decide +kernel
theorem dX6_readRealm_168 : decode cX6_readRealm 168 = .ok (.invokevirtual 153, 3) := by decide +kernel
theorem dX6_readRealm_171 : decode cX6_readRealm 171 = .ok (.ifCond .eq 7, 3) := by decide +kernel
theorem dX6_readRealm_174 : decode cX6_readRealm 174 = .ok (.iconst 1, 1) := by decide +kernel
theorem dX6_readRealm_175 : decode cX6_readRealm 175 = .ok (.goto 4, 3) := by decide +kernel
theorem dX6_readRealm_178 : decode cX6_readRealm 178 = .ok (.iconst 0, 1) := by decide +kernel
theorem dX6_readRealm_179 : decode cX6_readRealm 179 = .ok (.istore_n 2, 1) := by decide +kernel
theorem dX6_readRealm_180 : decode cX6_readRealm 180 = .ok (.iload_n 2, 1) := by decide +kernel
theorem dX6_readRealm_181 : decode cX6_readRealm 181 = .ok (.ifCond .ne 5, 3) := by decide +kernel
theorem dX6_readRealm_184 : decode cX6_readRealm 184 = .ok (.iconst 0, 1) := by decide +kernel
theorem dX6_readRealm_185 : decode cX6_readRealm 185 = .ok (.ireturn, 1) := by decide +kernel
theorem dX6_readRealm_186 : decode cX6_readRealm 186 = .ok (.aload_n 0, 1) := by decide +kernel
theorem dX6_readRealm_187 : decode cX6_readRealm 187 = .ok (.invokevirtual 114, 3) := by decide +kernel
theorem dX6_readRealm_190 : decode cX6_readRealm 190 = .ok (.aload_n 0, 1) := by decide +kernel
theorem dX6_readRealm_191 : decode cX6_readRealm 191 = .ok (.getfield 107, 3) := by decide +kernel
theorem dX6_readRealm_194 : decode cX6_readRealm 194 = .ok (.ifCond .ne 12, 3) := by decide +kernel
theorem dX6_readRealm_197 : decode cX6_readRealm 197 = .ok (.aload_n 0, 1) := by decide +kernel
theorem dX6_readRealm_198 : decode cX6_readRealm 198 = .ok (.getfield 104, 3) := by decide +kernel
theorem dX6_readRealm_201 : decode cX6_readRealm 201 = .ok (.bipush 59, 2) := by decide +kernel
theorem dX6_readRealm_203 : decode cX6_readRealm 203 = .ok (.if_icmp .eq 5, 3) := by decide +kernel
theorem dX6_readRealm_206 : decode cX6_readRealm 206 = .ok (.iconst 0, 1) := by decide +kernel
theorem dX6_readRealm_207 : decode cX6_readRealm 207 = .ok (.ireturn, 1) := by decide +kernel
theorem dX6_readRealm_208 : decode cX6_readRealm 208 = .ok (.aload_n 0, 1) := by decide +kernel
theorem dX6_readRealm_209 : decode cX6_readRealm 209 = .ok (.dup, 1) := by decide +kernel
theorem dX6_readRealm_210 : decode cX6_readRealm 210 = .ok (.getfield 134, 3) := by decide +kernel
theorem dX6_readRealm_213 : decode cX6_readRealm 213 = .ok (.iconst 1, 1) := by decide +kernel
theorem dX6_readRealm_214 : decode cX6_readRealm 214 = .ok (.iadd, 1) := by decide +kernel
theorem dX6_readRealm_215 : decode cX6_readRealm 215 = .ok (.putfield 134, 3) := by decide +kernel
theorem dX6_readRealm_218 : decode cX6_readRealm 218 = .ok (.aload_n 0, 1) := by decide +kernel
theorem dX6_readRealm_219 : decode cX6_readRealm 219 = .ok (.invokevirtual 114, 3) := by decide +kernel
theorem dX6_readRealm_222 : decode cX6_readRealm 222 = .ok (.goto (-165), 3) := by decide +kernel
theorem dX6_readRealm_225 : decode cX6_readRealm 225 = .ok (.iconst 1, 1) := by decide +kernel
theorem dX6_readRealm_226 : decode cX6_readRealm 226 = .ok (.ireturn, 1) := by decide +kernel
theorem dX6_realm_0 : decode cX6_realm 0 = .ok (.aload_n 0, 1) := by decide +kernel
theorem dX6_realm_1 : decode cX6_realm 1 = .ok (.invokevirtual 156, 3) := by decide +kernel
theorem dX6_realm_4 : decode cX6_realm 4 = .ok (.ifCond .ne 11, 3) := by decide +kernel
theorem dX6_realm_7 : decode cX6_realm 7 = .ok (.bipush (-10), 2) := by decide +kernel
theorem dX6_realm_9 : decode cX6_realm 9 = .ok (.aload_n 0, 1) := by decide +kernel
theorem dX6_realm_10 : decode cX6_realm 10 = .ok (.getfield 101, 3) := by decide +kernel
theorem dX6_realm_13 : decode cX6_realm 13 = .ok (.isub, 1) := by decide +kernel
theorem dX6_realm_14 : decode cX6_realm 14 = .ok (.ireturn, 1) := by decide +kernel
theorem dX6_realm_15 : decode cX6_realm 15 = .ok (.aload_n 0, 1) := by decide +kernel
theorem dX6_realm_16 : decode cX6_realm 16 = .ok (.iconst 0, 1) := by decide +kernel
theorem dX6_realm_17 : decode cX6_realm 17 = .ok (.putfield 91, 3) := by decide +kernel
theorem dX6_realm_20 : decode cX6_realm 20 = .ok (.aload_n 0, 1) := by decide +kernel
theorem dX6_realm_21 : decode cX6_realm 21 = .ok (.aload_n 0, 1) := by decide +kernel
theorem dX6_realm_22 : decode cX6_realm 22 = .ok (.getfield 117, 3) := by decide +kernel
theorem dX6_realm_25 : decode cX6_realm 25 = .ok (.putfield 78, 3) := by decide +kernel
theorem dX6_realm_28 : decode cX6_realm 28 = .ok (.aload_n 0, 1) := by decide +kernel
theorem dX6_realm_29 : decode cX6_realm 29 = .ok (.aload_n 0, 1) := by decide +kernel
theorem dX6_realm_30 : decode cX6_realm 30 = .ok (.getfield 124, 3) := by decide +kernel
theorem dX6_realm_33 : decode cX6_realm 33 = .ok (.putfield 86, 3) := by decide +kernel
theorem dX6_realm_36 : decode cX6_realm 36 = .ok (.aload_n 0, 1) := by decide +kernel
theorem dX6_realm_37 : decode cX6_realm 37 = .ok (.aload_n 0, 1) := by decide +kernel
theorem dX6_realm_38 : decode cX6_realm 38 = .ok (.getfield 131, 3) := by decide +kernel
theorem dX6_realm_41 : decode cX6_realm 41 = .ok (.putfield 159, 3) := by decide +kernel
theorem dX6_realm_44 : decode cX6_realm 44 = .ok (.iconst 0, 1) := by decide +kernel
theorem dX6_realm_45 : decode cX6_realm 45 = .ok (.istore_n 1, 1) := by decide +kernel
theorem dX6_realm_46 : decode cX6_realm 46 = .ok (.iload_n 1, 1) := by decide +kernel
theorem dX6_realm_47 : decode cX6_realm 47 = .ok (.bipush 48, 2) := by decide +kernel
theorem dX6_realm_49 : decode cX6_realm 49 = .ok (.if_icmp .ge 21, 3) := by decide +kernel
theorem dX6_realm_52 : decode cX6_realm 52 = .ok (.aload_n 0, 1) := by decide +kernel
theorem dX6_realm_53 : decode cX6_realm 53 = .ok (.getfield 13, 3) := by decide +kernel
theorem dX6_realm_56 : decode cX6_realm 56 = .ok (.iload_n 1, 1) := by decide +kernel
theorem dX6_realm_57 : decode cX6_realm 57 = .ok (.aload_n 0, 1) := by decide +kernel
theorem dX6_realm_58 : decode cX6_realm 58 = .ok (.getfield 38, 3) := by decide +kernel
theorem dX6_realm_61 : decode cX6_realm 61 = .ok (.iload_n 1, 1) := by decide +kernel
theorem dX6_realm_62 : decode cX6_realm 62 = .ok (.iaload, 1) := by decide +kernel
theorem dX6_realm_63 : decode cX6_realm 63 = .ok (.iastore, 1) := by decide +kernel
theorem dX6_realm_64 : decode cX6_realm 64 = .ok (.iinc 1 1, 3) := by decide +kernel
theorem dX6_realm_67 : decode cX6_realm 67 = .ok (.goto (-21), 3) := by decide +kernel
theorem dX6_realm_70 : decode cX6_realm 70 = .ok (.iconst 0, 1) := by decide +kernel
theorem dX6_realm_71 : decode cX6_realm 71 = .ok (.istore_n 1, 1) := by decide +kernel
theorem dX6_realm_72 : decode cX6_realm 72 = .ok (.iload_n 1, 1) := by decide +kernel
theorem dX6_realm_73 : decode cX6_realm 73 = .ok (.bipush 36, 2) := by decide +kernel
theorem dX6_realm_75 : decode cX6_realm 75 = .ok (.if_icmp .ge 33, 3) := by decide +kernel
theorem dX6_realm_78 : decode cX6_realm 78 = .ok (.aload_n 0, 1) := by decide +kernel
theorem dX6_realm_79 : decode cX6_realm 79 = .ok (.getfield 16, 3) := by decide +kernel
theorem dX6_realm_82 : decode cX6_realm 82 = .ok (.iload_n 1, 1) := by decide +kernel
theorem dX6_realm_83 : decode cX6_realm 83 = .ok (.aload_n 0, 1) := by decide +kernel
theorem dX6_realm_84 : decode cX6_realm 84 = .ok (.getfield 41, 3) := by decide +kernel
theorem dX6_realm_87 : decode cX6_realm 87 = .ok (.iload_n 1, 1) := by decide +kernel
theorem dX6_realm_88 : decode cX6_realm 88 = .ok (.baload, 1) := by decide +kernel
theorem dX6_realm_89 : decode cX6_realm 89 = .ok (.bastore, 1) := by decide +kernel
theorem dX6_realm_90 : decode cX6_realm 90 = .ok (.aload_n 0, 1) := by decide +kernel
theorem dX6_realm_91 : decode cX6_realm 91 = .ok (.getfield 20, 3) := by decide +kernel
theorem dX6_realm_94 : decode cX6_realm 94 = .ok (.iload_n 1, 1) := by decide +kernel
theorem dX6_realm_95 : decode cX6_realm 95 = .ok (.aload_n 0, 1) := by decide +kernel
theorem dX6_realm_96 : decode cX6_realm 96 = .ok (.getfield 44, 3) := by decide +kernel
theorem dX6_realm_99 : decode cX6_realm 99 = .ok (.iload_n 1, 1) := by decide +kernel
theorem dX6_realm_100 : decode cX6_realm 100 = .ok (.iaload, 1) := by decide +kernel
theorem dX6_realm_101 : decode cX6_realm 101 = .ok (.iastore, 1) := by decide +kernel
theorem dX6_realm_102 : decode cX6_realm 102 = .ok (.iinc 1 1, 3) := by decide +kernel
theorem dX6_realm_105 : decode cX6_realm 105 = .ok (.goto (-33), 3) := by decide +kernel
theorem dX6_realm_108 : decode cX6_realm 108 = .ok (.iconst 0, 1) := by decide +kernel
theorem dX6_realm_109 : decode cX6_realm 109 = .ok (.istore_n 1, 1) := by decide +kernel
theorem dX6_realm_110 : decode cX6_realm 110 = .ok (.iload_n 1, 1) := by decide +kernel
theorem dX6_realm_111 : decode cX6_realm 111 = .ok (.bipush 6, 2) := by decide +kernel
theorem dX6_realm_113 : decode cX6_realm 113 = .ok (.if_icmp .ge 71, 3) := by decide +kernel
theorem dX6_realm_116 : decode cX6_realm 116 = .ok (.aload_n 0, 1) := by decide +kernel
theorem dX6_realm_117 : decode cX6_realm 117 = .ok (.getfield 23, 3) := by decide +kernel
theorem dX6_realm_120 : decode cX6_realm 120 = .ok (.iload_n 1, 1) := by decide +kernel
theorem dX6_realm_121 : decode cX6_realm 121 = .ok (.aload_n 0, 1) := by decide +kernel
theorem dX6_realm_122 : decode cX6_realm 122 = .ok (.getfield 47, 3) := by decide +kernel
theorem dX6_realm_125 : decode cX6_realm 125 = .ok (.iconst 4, 1) := by decide +kernel
theorem dX6_realm_126 : decode cX6_realm 126 = .ok (.iload_n 1, 1) := by decide +kernel
theorem dX6_realm_127 : decode cX6_realm 127 = .ok (.imul, 1) := by decide +kernel
theorem dX6_realm_128 : decode cX6_realm 128 = .ok (.iaload, 1) := by decide +kernel
theorem dX6_realm_129 : decode cX6_realm 129 = .ok (.iastore, 1) := by decide +kernel
theorem dX6_realm_130 : decode cX6_realm 130 = .ok (.aload_n 0, 1) := by decide +kernel
theorem dX6_realm_131 : decode cX6_realm 131 = .ok (.getfield 26, 3) := by decide +kernel
theorem dX6_realm_134 : decode cX6_realm 134 = .ok (.iload_n 1, 1) := by decide +kernel
theorem dX6_realm_135 : decode cX6_realm 135 = .ok (.aload_n 0, 1) := by decide +kernel
theorem dX6_realm_136 : decode cX6_realm 136 = .ok (.getfield 47, 3) := by decide +kernel
theorem dX6_realm_139 : decode cX6_realm 139 = .ok (.iconst 4, 1) := by decide +kernel
theorem dX6_realm_140 : decode cX6_realm 140 = .ok (.iload_n 1, 1) := by decide +kernel
theorem dX6_realm_141 : decode cX6_realm 141 = .ok (.imul, 1) := by decide +kernel
theorem dX6_realm_142 : decode cX6_realm 142 = .ok (.iconst 1, 1) := by decide +kernel
theorem dX6_realm_143 : decode cX6_realm 143 = .ok (.iadd, 1) := by decide +kernel
theorem dX6_realm_144 : decode cX6_realm 144 = .ok (.iaload, 1) := by decide +kernel
theorem dX6_realm_145 : decode cX6_realm 145 = .ok (.iastore, 1) := by decide +kernel
theorem dX6_realm_146 : decode cX6_realm 146 = .ok (.aload_n 0, 1) := by decide +kernel
theorem dX6_realm_147 : decode cX6_realm 147 = .ok (.getfield 29, 3) := by decide +kernel
theorem dX6_realm_150 : decode cX6_realm 150 = .ok (.iload_n 1, 1) := by decide +kernel
theorem dX6_realm_151 : decode cX6_realm 151 = .ok (.aload_n 0, 1) := by decide +kernel
theorem dX6_realm_152 : decode cX6_realm 152 = .ok (.getfield 47, 3) := by decide +kernel
theorem dX6_realm_155 : decode cX6_realm 155 = .ok (.iconst 4, 1) := by decide +kernel
theorem dX6_realm_156 : decode cX6_realm 156 = .ok (.iload_n 1, 1) := by decide +kernel
theorem dX6_realm_157 : decode cX6_realm 157 = .ok (.imul, 1) := by decide +kernel
theorem dX6_realm_158 : decode cX6_realm 158 = .ok (.iconst 2, 1) := by decide +kernel
theorem dX6_realm_159 : decode cX6_realm 159 = .ok (.iadd, 1) := by decide +kernel
theorem dX6_realm_160 : decode cX6_realm 160 = .ok (.iaload, 1) := by decide +kernel
theorem dX6_realm_161 : decode cX6_realm 161 = .ok (.iastore, 1) := by decide +kernel
theorem dX6_realm_162 : decode cX6_realm 162 = .ok (.aload_n 0, 1) := by decide +kernel
theorem dX6_realm_163 : decode cX6_realm 163 = .ok (.getfield 32, 3) := by decide +kernel
theorem dX6_realm_166 : decode cX6_realm 166 = .ok (.iload_n 1, 1) := by decide +kernel
theorem dX6_realm_167 : decode cX6_realm 167 = .ok (.aload_n 0, 1) := by decide +kernel
theorem dX6_realm_168 : decode cX6_realm 168 = .ok (.getfield 47, 3) := by decide +kernel
theorem dX6_realm_171 : decode cX6_realm 171 = .ok (.iconst 4, 1) := by decide +kernel
theorem dX6_realm_172 : decode cX6_realm 172 = .ok (.iload_n 1, 1) := by decide +kernel
theorem dX6_realm_173 : decode cX6_realm 173 = .ok (.imul, 1) := by decide +kernel
theorem dX6_realm_174 : decode cX6_realm 174 = .ok (.iconst 3, 1) := by decide +kernel
theorem dX6_realm_175 : decode cX6_realm 175 = .ok (.iadd, 1) := by decide +kernel
theorem dX6_realm_176 : decode cX6_realm 176 = .ok (.iaload, 1) := by decide +kernel
theorem dX6_realm_177 : decode cX6_realm 177 = .ok (.iastore, 1) := by decide +kernel
theorem dX6_realm_178 : decode cX6_realm 178 = .ok (.iinc 1 1, 3) := by decide +kernel
theorem dX6_realm_181 : decode cX6_realm 181 = .ok (.goto (-71), 3) := by decide +kernel
theorem dX6_realm_184 : decode cX6_realm 184 = .ok (.aload_n 0, 1) := by decide +kernel
theorem dX6_realm_185 : decode cX6_realm 185 = .ok (.getfield 32, 3) := by decide +kernel
theorem dX6_realm_188 : decode cX6_realm 188 = .ok (.bipush 6, 2) := by decide +kernel
theorem dX6_realm_190 : decode cX6_realm 190 = .ok (.iconst 0, 1) := by decide +kernel
theorem dX6_realm_191 : decode cX6_realm 191 = .ok (.iastore, 1) := by decide +kernel
theorem dX6_realm_192 : decode cX6_realm 192 = .ok (.aload_n 0, 1) := by decide +kernel
theorem dX6_realm_193 : decode cX6_realm 193 = .ok (.getfield 32, 3) := by decide +kernel
theorem dX6_realm_196 : decode cX6_realm 196 = .ok (.bipush 7, 2) := by decide +kernel
theorem dX6_realm_198 : decode cX6_realm 198 = .ok (.iconst 0, 1) := by decide +kernel
theorem dX6_realm_199 : decode cX6_realm 199 = .ok (.iastore, 1) := by decide +kernel
theorem dX6_realm_200 : decode cX6_realm 200 = .ok (.aload_n 0, 1) := by decide +kernel
theorem dX6_realm_201 : decode cX6_realm 201 = .ok (.iconst 0, 1) := by decide +kernel
theorem dX6_realm_202 : decode cX6_realm 202 = .ok (.putfield 162, 3) := by decide +kernel
theorem dX6_realm_205 : decode cX6_realm 205 = .ok (.aload_n 0, 1) := by decide +kernel
theorem dX6_realm_206 : decode cX6_realm 206 = .ok (.getfield 72, 3) := by decide +kernel
theorem dX6_realm_209 : decode cX6_realm 209 = .ok (.iconst 0, 1) := by decide +kernel
theorem dX6_realm_210 : decode cX6_realm 210 = .ok (.iconst 0, 1) := by decide +kernel
theorem dX6_realm_211 : decode cX6_realm 211 = .ok (.bastore, 1) := by decide +kernel
theorem dX6_realm_212 : decode cX6_realm 212 = .ok (.aload_n 0, 1) := by decide +kernel
theorem dX6_realm_213 : decode cX6_realm 213 = .ok (.getfield 72, 3) := by decide +kernel
theorem dX6_realm_216 : decode cX6_realm 216 = .ok (.iconst 1, 1) := by decide +kernel
theorem dX6_realm_217 : decode cX6_realm 217 = .ok (.iconst 0, 1) := by decide +kernel
theorem dX6_realm_218 : decode cX6_realm 218 = .ok (.bastore, 1) := by decide +kernel
theorem dX6_realm_219 : decode cX6_realm 219 = .ok (.aload_n 0, 1) := by decide +kernel
theorem dX6_realm_220 : decode cX6_realm 220 = .ok (.getfield 134, 3) := by decide +kernel
theorem dX6_realm_223 : decode cX6_realm 223 = .ok (.ireturn, 1) := by decide +kernel
theorem dX6_allowsOwn_0 : decode cX6_allowsOwn 0 = .ok (.aload_n 0, 1) := by decide +kernel
theorem dX6_allowsOwn_1 : decode cX6_allowsOwn 1 = .ok (.getfield 13, 3) := by decide +kernel
theorem dX6_allowsOwn_4 : decode cX6_allowsOwn 4 = .ok (.bipush 8, 2) := by decide +kernel
theorem dX6_allowsOwn_6 : decode cX6_allowsOwn 6 = .ok (.iload_n 1, 1) := by decide +kernel
theorem dX6_allowsOwn_7 : decode cX6_allowsOwn 7 = .ok (.imul, 1) := by decide +kernel
theorem dX6_allowsOwn_8 : decode cX6_allowsOwn 8 = .ok (.iconst 1, 1) := by decide +kernel
theorem dX6_allowsOwn_9 : decode cX6_allowsOwn 9 = .ok (.iadd, 1) := by decide +kernel
theorem dX6_allowsOwn_10 : decode cX6_allowsOwn 10 = .ok (.iaload, 1) := by decide +kernel
theorem dX6_allowsOwn_11 : decode cX6_allowsOwn 11 = .ok (.iload_n 2, 1) := by decide +kernel
theorem dX6_allowsOwn_12 : decode cX6_allowsOwn 12 = .ok (.invokestatic 165, 3) := by decide +kernel
theorem dX6_allowsOwn_15 : decode cX6_allowsOwn 15 = .ok (.ifCond .ne 7, 3) := by decide +kernel
theorem dX6_allowsOwn_18 : decode cX6_allowsOwn 18 = .ok (.iconst 1, 1) := by decide +kernel
theorem dX6_allowsOwn_19 : decode cX6_allowsOwn 19 = .ok (.goto 4, 3) := by decide +kernel
theorem dX6_allowsOwn_22 : decode cX6_allowsOwn 22 = .ok (.iconst 0, 1) := by decide +kernel
theorem dX6_allowsOwn_23 : decode cX6_allowsOwn 23 = .ok (.ireturn, 1) := by decide +kernel
theorem dX6_holds_0 : decode cX6_holds 0 = .ok (.iconst 1, 1) := by decide +kernel
theorem dX6_holds_1 : decode cX6_holds 1 = .ok (.istore_n 3, 1) := by decide +kernel
theorem dX6_holds_2 : decode cX6_holds 2 = .ok (.iconst 0, 1) := by decide +kernel
theorem dX6_holds_3 : decode cX6_holds 3 = .ok (.istore 4, 2) := by decide +kernel
theorem dX6_holds_5 : decode cX6_holds 5 = .ok (.iload 4, 2) := by decide +kernel
theorem dX6_holds_7 : decode cX6_holds 7 = .ok (.aload_n 0, 1) := by decide +kernel
theorem dX6_holds_8 : decode cX6_holds 8 = .ok (.getfield 78, 3) := by decide +kernel
theorem dX6_holds_11 : decode cX6_holds 11 = .ok (.if_icmp .ge 113, 3) := by decide +kernel
theorem dX6_holds_14 : decode cX6_holds 14 = .ok (.aload_n 0, 1) := by decide +kernel
theorem dX6_holds_15 : decode cX6_holds 15 = .ok (.getfield 13, 3) := by decide +kernel
theorem dX6_holds_18 : decode cX6_holds 18 = .ok (.bipush 8, 2) := by decide +kernel
theorem dX6_holds_20 : decode cX6_holds 20 = .ok (.iload 4, 2) := by decide +kernel
theorem dX6_holds_22 : decode cX6_holds 22 = .ok (.imul, 1) := by decide +kernel
theorem dX6_holds_23 : decode cX6_holds 23 = .ok (.iconst 4, 1) := by decide +kernel
theorem dX6_holds_24 : decode cX6_holds 24 = .ok (.iadd, 1) := by decide +kernel
theorem dX6_holds_25 : decode cX6_holds 25 = .ok (.iaload, 1) := by decide +kernel
theorem dX6_holds_26 : decode cX6_holds 26 = .ok (.istore 5, 2) := by decide +kernel
theorem dX6_holds_28 : decode cX6_holds 28 = .ok (.iload 5, 2) := by decide +kernel
theorem dX6_holds_30 : decode cX6_holds 30 = .ok (.ifCond .eq 26, 3) := by decide +kernel
theorem dX6_holds_33 : decode cX6_holds 33 = .ok (.iload_n 1, 1) := by decide +kernel
theorem dX6_holds_34 : decode cX6_holds 34 = .ok (.aload_n 0, 1) := by decide +kernel
theorem dX6_holds_35 : decode cX6_holds 35 = .ok (.getfield 13, 3) := by decide +kernel
theorem dX6_holds_38 : decode cX6_holds 38 = .ok (.bipush 8, 2) := by decide +kernel
theorem dX6_holds_40 : decode cX6_holds 40 = .ok (.iload 4, 2) := by decide +kernel
theorem dX6_holds_42 : decode cX6_holds 42 = .ok (.imul, 1) := by decide +kernel
theorem dX6_holds_43 : decode cX6_holds 43 = .ok (.iconst 5, 1) := by decide +kernel
theorem dX6_holds_44 : decode cX6_holds 44 = .ok (.iadd, 1) := by decide +kernel
theorem dX6_holds_45 : decode cX6_holds 45 = .ok (.iaload, 1) := by decide +kernel
theorem dX6_holds_46 : decode cX6_holds 46 = .ok (.invokestatic 165, 3) := by decide +kernel
theorem dX6_holds_49 : decode cX6_holds 49 = .ok (.ifCond .eq 7, 3) := by decide +kernel
theorem dX6_holds_52 : decode cX6_holds 52 = .ok (.iconst 1, 1) := by decide +kernel
theorem dX6_holds_53 : decode cX6_holds 53 = .ok (.goto 4, 3) := by decide +kernel
theorem dX6_holds_56 : decode cX6_holds 56 = .ok (.iconst 0, 1) := by decide +kernel
theorem dX6_holds_57 : decode cX6_holds 57 = .ok (.istore 6, 2) := by decide +kernel
theorem dX6_holds_59 : decode cX6_holds 59 = .ok (.iload 5, 2) := by decide +kernel
theorem dX6_holds_61 : decode cX6_holds 61 = .ok (.ifCond .ne 13, 3) := by decide +kernel
theorem dX6_holds_64 : decode cX6_holds 64 = .ok (.aload_n 0, 1) := by decide +kernel
theorem dX6_holds_65 : decode cX6_holds 65 = .ok (.iload 4, 2) := by decide +kernel
theorem dX6_holds_67 : decode cX6_holds 67 = .ok (.iload_n 2, 1) := by decide +kernel
theorem dX6_holds_68 : decode cX6_holds 68 = .ok (.invokevirtual 169, 3) := by decide +kernel
theorem dX6_holds_71 : decode cX6_holds 71 = .ok (.goto 24, 3) := by decide +kernel
theorem dX6_holds_74 : decode cX6_holds 74 = .ok (.iload 5, 2) := by decide +kernel
theorem dX6_holds_76 : decode cX6_holds 76 = .ok (.iconst 1, 1) := by decide +kernel
theorem dX6_holds_77 : decode cX6_holds 77 = .ok (.if_icmp .ne 8, 3) := by decide +kernel
theorem dX6_holds_80 : decode cX6_holds 80 = .ok (.iload 6, 2) := by decide +kernel
theorem dX6_holds_82 : decode cX6_holds 82 = .ok (.goto 13, 3) := by decide +kernel
theorem dX6_holds_85 : decode cX6_holds 85 = .ok (.iload 6, 2) := by decide +kernel
theorem dX6_holds_87 : decode cX6_holds 87 = .ok (.ifCond .ne 7, 3) := by decide +kernel
theorem dX6_holds_90 : decode cX6_holds 90 = .ok (.iconst 1, 1) := by decide +kernel
theorem dX6_holds_91 : decode cX6_holds 91 = .ok (.goto 4, 3) := by decide +kernel
theorem dX6_holds_94 : decode cX6_holds 94 = .ok (.iconst 0, 1) := by decide +kernel
theorem dX6_holds_95 : decode cX6_holds 95 = .ok (.istore 7, 2) := by decide +kernel
theorem dX6_holds_97 : decode cX6_holds 97 = .ok (.iload_n 3, 1) := by decide +kernel
theorem dX6_holds_98 : decode cX6_holds 98 = .ok (.ifCond .eq 18, 3) := by decide +kernel
theorem dX6_holds_101 : decode cX6_holds 101 = .ok (.iload_n 1, 1) := by decide +kernel
theorem dX6_holds_102 : decode cX6_holds 102 = .ok (.iload 4, 2) := by decide +kernel
theorem dX6_holds_104 : decode cX6_holds 104 = .ok (.invokestatic 165, 3) := by decide +kernel
theorem dX6_holds_107 : decode cX6_holds 107 = .ok (.iload 7, 2) := by decide +kernel
theorem dX6_holds_109 : decode cX6_holds 109 = .ok (.if_icmp .ne 7, 3) := by decide +kernel
theorem dX6_holds_112 : decode cX6_holds 112 = .ok (.iconst 1, 1) := by decide +kernel
theorem dX6_holds_113 : decode cX6_holds 113 = .ok (.goto 4, 3) := by decide +kernel
theorem dX6_holds_116 : decode cX6_holds 116 = .ok (.iconst 0, 1) := by decide +kernel
theorem dX6_holds_117 : decode cX6_holds 117 = .ok (.istore_n 3, 1) := by decide +kernel
theorem dX6_holds_118 : decode cX6_holds 118 = .ok (.iinc 4 1, 3) := by decide +kernel
theorem dX6_holds_121 : decode cX6_holds 121 = .ok (.goto (-116), 3) := by decide +kernel
theorem dX6_holds_124 : decode cX6_holds 124 = .ok (.iload_n 3, 1) := by decide +kernel
theorem dX6_holds_125 : decode cX6_holds 125 = .ok (.ireturn, 1) := by decide +kernel
theorem dX6_fixedOf_0 : decode cX6_fixedOf 0 = .ok (.iconst 0, 1) := by decide +kernel
theorem dX6_fixedOf_1 : decode cX6_fixedOf 1 = .ok (.istore_n 2, 1) := by decide +kernel
theorem dX6_fixedOf_2 : decode cX6_fixedOf 2 = .ok (.iconst 0, 1) := by decide +kernel
theorem dX6_fixedOf_3 : decode cX6_fixedOf 3 = .ok (.istore_n 3, 1) := by decide +kernel
theorem dX6_fixedOf_4 : decode cX6_fixedOf 4 = .ok (.iload_n 3, 1) := by decide +kernel
theorem dX6_fixedOf_5 : decode cX6_fixedOf 5 = .ok (.iconst 1, 1) := by decide +kernel
theorem dX6_fixedOf_6 : decode cX6_fixedOf 6 = .ok (.aload_n 0, 1) := by decide +kernel
theorem dX6_fixedOf_7 : decode cX6_fixedOf 7 = .ok (.getfield 78, 3) := by decide +kernel
theorem dX6_fixedOf_10 : decode cX6_fixedOf 10 = .ok (.ishl, 1) := by decide +kernel
theorem dX6_fixedOf_11 : decode cX6_fixedOf 11 = .ok (.if_icmp .ge 26, 3) := by decide +kernel
theorem dX6_fixedOf_14 : decode cX6_fixedOf 14 = .ok (.iload_n 2, 1) := by decide +kernel
theorem dX6_fixedOf_15 : decode cX6_fixedOf 15 = .ok (.aload_n 0, 1) := by decide +kernel
theorem dX6_fixedOf_16 : decode cX6_fixedOf 16 = .ok (.iload_n 3, 1) := by decide +kernel
theorem dX6_fixedOf_17 : decode cX6_fixedOf 17 = .ok (.iload_n 1, 1) := by decide +kernel
theorem dX6_fixedOf_18 : decode cX6_fixedOf 18 = .ok (.invokevirtual 172, 3) := by decide +kernel
theorem dX6_fixedOf_21 : decode cX6_fixedOf 21 = .ok (.ifCond .eq 7, 3) := by decide +kernel
theorem dX6_fixedOf_24 : decode cX6_fixedOf 24 = .ok (.iconst 1, 1) := by decide +kernel
theorem dX6_fixedOf_25 : decode cX6_fixedOf 25 = .ok (.goto 4, 3) := by decide +kernel
theorem dX6_fixedOf_28 : decode cX6_fixedOf 28 = .ok (.iconst 0, 1) := by decide +kernel
theorem dX6_fixedOf_29 : decode cX6_fixedOf 29 = .ok (.iadd, 1) := by decide +kernel
theorem dX6_fixedOf_30 : decode cX6_fixedOf 30 = .ok (.istore_n 2, 1) := by decide +kernel
theorem dX6_fixedOf_31 : decode cX6_fixedOf 31 = .ok (.iinc 3 1, 3) := by decide +kernel
theorem dX6_fixedOf_34 : decode cX6_fixedOf 34 = .ok (.goto (-30), 3) := by decide +kernel
theorem dX6_fixedOf_37 : decode cX6_fixedOf 37 = .ok (.iload_n 2, 1) := by decide +kernel
theorem dX6_fixedOf_38 : decode cX6_fixedOf 38 = .ok (.ireturn, 1) := by decide +kernel
theorem dX6_letting_0 : decode cX6_letting 0 = .ok (.aload_n 0, 1) := by decide +kernel
theorem dX6_letting_1 : decode cX6_letting 1 = .ok (.iload_n 1, 1) := by decide +kernel
theorem dX6_letting_2 : decode cX6_letting 2 = .ok (.invokevirtual 175, 3) := by decide +kernel
theorem dX6_letting_5 : decode cX6_letting 5 = .ok (.ifCond .ne 7, 3) := by decide +kernel
theorem dX6_letting_8 : decode cX6_letting 8 = .ok (.iconst 0, 1) := by decide +kernel
theorem dX6_letting_9 : decode cX6_letting 9 = .ok (.goto 11, 3) := by decide +kernel
theorem dX6_letting_12 : decode cX6_letting 12 = .ok (.iconst 1, 1) := by decide +kernel
theorem dX6_letting_13 : decode cX6_letting 13 = .ok (.aload_n 0, 1) := by decide +kernel
theorem dX6_letting_14 : decode cX6_letting 14 = .ok (.getfield 78, 3) := by decide +kernel
theorem dX6_letting_17 : decode cX6_letting 17 = .ok (.ishl, 1) := by decide +kernel
theorem dX6_letting_18 : decode cX6_letting 18 = .ok (.iconst 1, 1) := by decide +kernel
theorem dX6_letting_19 : decode cX6_letting 19 = .ok (.isub, 1) := by decide +kernel
theorem dX6_letting_20 : decode cX6_letting 20 = .ok (.istore_n 2, 1) := by decide +kernel
theorem dX6_letting_21 : decode cX6_letting 21 = .ok (.iconst 0, 1) := by decide +kernel
theorem dX6_letting_22 : decode cX6_letting 22 = .ok (.istore_n 3, 1) := by decide +kernel
theorem dX6_letting_23 : decode cX6_letting 23 = .ok (.iload_n 3, 1) := by decide +kernel
theorem dX6_letting_24 : decode cX6_letting 24 = .ok (.iconst 1, 1) := by decide +kernel
theorem dX6_letting_25 : decode cX6_letting 25 = .ok (.aload_n 0, 1) := by decide +kernel
theorem dX6_letting_26 : decode cX6_letting 26 = .ok (.getfield 78, 3) := by decide +kernel
theorem dX6_letting_29 : decode cX6_letting 29 = .ok (.ishl, 1) := by decide +kernel
theorem dX6_letting_30 : decode cX6_letting 30 = .ok (.if_icmp .ge 26, 3) := by decide +kernel
theorem dX6_letting_33 : decode cX6_letting 33 = .ok (.iload_n 2, 1) := by decide +kernel
theorem dX6_letting_34 : decode cX6_letting 34 = .ok (.aload_n 0, 1) := by decide +kernel
theorem dX6_letting_35 : decode cX6_letting 35 = .ok (.iload_n 3, 1) := by decide +kernel
theorem dX6_letting_36 : decode cX6_letting 36 = .ok (.iload_n 1, 1) := by decide +kernel
theorem dX6_letting_37 : decode cX6_letting 37 = .ok (.invokevirtual 172, 3) := by decide +kernel
theorem dX6_letting_40 : decode cX6_letting 40 = .ok (.ifCond .eq 7, 3) := by decide +kernel
theorem dX6_letting_43 : decode cX6_letting 43 = .ok (.iload_n 3, 1) := by decide +kernel
theorem dX6_letting_44 : decode cX6_letting 44 = .ok (.goto 4, 3) := by decide +kernel
theorem dX6_letting_47 : decode cX6_letting 47 = .ok (.iconst (-1), 1) := by decide +kernel
theorem dX6_letting_48 : decode cX6_letting 48 = .ok (.iand, 1) := by decide +kernel
theorem dX6_letting_49 : decode cX6_letting 49 = .ok (.istore_n 2, 1) := by decide +kernel
theorem dX6_letting_50 : decode cX6_letting 50 = .ok (.iinc 3 1, 3) := by decide +kernel
theorem dX6_letting_53 : decode cX6_letting 53 = .ok (.goto (-30), 3) := by decide +kernel
theorem dX6_letting_56 : decode cX6_letting 56 = .ok (.iconst 0, 1) := by decide +kernel
theorem dX6_letting_57 : decode cX6_letting 57 = .ok (.istore_n 3, 1) := by decide +kernel
theorem dX6_letting_58 : decode cX6_letting 58 = .ok (.iconst 0, 1) := by decide +kernel
theorem dX6_letting_59 : decode cX6_letting 59 = .ok (.istore 4, 2) := by decide +kernel
theorem dX6_letting_61 : decode cX6_letting 61 = .ok (.iload 4, 2) := by decide +kernel
theorem dX6_letting_63 : decode cX6_letting 63 = .ok (.aload_n 0, 1) := by decide +kernel
theorem dX6_letting_64 : decode cX6_letting 64 = .ok (.getfield 78, 3) := by decide +kernel
theorem dX6_letting_67 : decode cX6_letting 67 = .ok (.if_icmp .ge 59, 3) := by decide +kernel
theorem dX6_letting_70 : decode cX6_letting 70 = .ok (.aload_n 0, 1) := by decide +kernel
theorem dX6_letting_71 : decode cX6_letting 71 = .ok (.getfield 13, 3) := by decide +kernel
theorem dX6_letting_74 : decode cX6_letting 74 = .ok (.bipush 8, 2) := by decide +kernel
theorem dX6_letting_76 : decode cX6_letting 76 = .ok (.iload 4, 2) := by decide +kernel
theorem dX6_letting_78 : decode cX6_letting 78 = .ok (.imul, 1) := by decide +kernel
theorem dX6_letting_79 : decode cX6_letting 79 = .ok (.iconst 3, 1) := by decide +kernel
theorem dX6_letting_80 : decode cX6_letting 80 = .ok (.iadd, 1) := by decide +kernel
theorem dX6_letting_81 : decode cX6_letting 81 = .ok (.iaload, 1) := by decide +kernel
theorem dX6_letting_82 : decode cX6_letting 82 = .ok (.istore 5, 2) := by decide +kernel
theorem dX6_letting_84 : decode cX6_letting 84 = .ok (.iload_n 3, 1) := by decide +kernel
theorem dX6_letting_85 : decode cX6_letting 85 = .ok (.iload_n 2, 1) := by decide +kernel
theorem dX6_letting_86 : decode cX6_letting 86 = .ok (.iload 4, 2) := by decide +kernel
theorem dX6_letting_88 : decode cX6_letting 88 = .ok (.invokestatic 165, 3) := by decide +kernel
theorem dX6_letting_91 : decode cX6_letting 91 = .ok (.ifCond .eq 26, 3) := by decide +kernel
theorem dX6_letting_94 : decode cX6_letting 94 = .ok (.iload 5, 2) := by decide +kernel
theorem dX6_letting_96 : decode cX6_letting 96 = .ok (.bipush 9, 2) := by decide +kernel
theorem dX6_letting_98 : decode cX6_letting 98 = .ok (.if_icmp .eq 12, 3) := by decide +kernel
theorem dX6_letting_101 : decode cX6_letting 101 = .ok (.iload_n 3, 1) := by decide +kernel
theorem dX6_letting_102 : decode cX6_letting 102 = .ok (.iload 5, 2) := by decide +kernel
theorem dX6_letting_104 : decode cX6_letting 104 = .ok (.invokestatic 165, 3) := by decide +kernel
theorem dX6_letting_107 : decode cX6_letting 107 = .ok (.ifCond .eq 10, 3) := by decide +kernel
theorem dX6_letting_110 : decode cX6_letting 110 = .ok (.iconst 1, 1) := by decide +kernel
theorem dX6_letting_111 : decode cX6_letting 111 = .ok (.iload 4, 2) := by decide +kernel
theorem dX6_letting_113 : decode cX6_letting 113 = .ok (.ishl, 1) := by decide +kernel
theorem dX6_letting_114 : decode cX6_letting 114 = .ok (.goto 4, 3) := by decide +kernel
theorem dX6_letting_117 : decode cX6_letting 117 = .ok (.iconst 0, 1) := by decide +kernel
theorem dX6_letting_118 : decode cX6_letting 118 = .ok (.ior, 1) := by decide +kernel
theorem dX6_letting_119 : decode cX6_letting 119 = .ok (.istore_n 3, 1) := by decide +kernel
theorem dX6_letting_120 : decode cX6_letting 120 = .ok (.iinc 4 1, 3) := by decide +kernel
theorem dX6_letting_123 : decode cX6_letting 123 = .ok (.goto (-62), 3) := by decide +kernel
theorem dX6_letting_126 : decode cX6_letting 126 = .ok (.iload_n 3, 1) := by decide +kernel
theorem dX6_letting_127 : decode cX6_letting 127 = .ok (.ireturn, 1) := by decide +kernel
theorem dX6_filled_0 : decode cX6_filled 0 = .ok (.iconst 0, 1) := by decide +kernel
theorem dX6_filled_1 : decode cX6_filled 1 = .ok (.istore_n 2, 1) := by decide +kernel
theorem dX6_filled_2 : decode cX6_filled 2 = .ok (.iconst 0, 1) := by decide +kernel
theorem dX6_filled_3 : decode cX6_filled 3 = .ok (.istore_n 3, 1) := by decide +kernel
theorem dX6_filled_4 : decode cX6_filled 4 = .ok (.iload_n 3, 1) := by decide +kernel
theorem dX6_filled_5 : decode cX6_filled 5 = .ok (.aload_n 0, 1) := by decide +kernel
theorem dX6_filled_6 : decode cX6_filled 6 = .ok (.getfield 86, 3) := by decide +kernel
theorem dX6_filled_9 : decode cX6_filled 9 = .ok (.if_icmp .ge 32, 3) := by decide +kernel
theorem dX6_filled_12 : decode cX6_filled 12 = .ok (.iload_n 2, 1) := by decide +kernel
theorem dX6_filled_13 : decode cX6_filled 13 = .ok (.aload_n 0, 1) := by decide +kernel
theorem dX6_filled_14 : decode cX6_filled 14 = .ok (.getfield 32, 3) := by decide +kernel
theorem dX6_filled_17 : decode cX6_filled 17 = .ok (.iload_n 3, 1) := by decide +kernel
theorem dX6_filled_18 : decode cX6_filled 18 = .ok (.iaload, 1) := by decide +kernel
theorem dX6_filled_19 : decode cX6_filled 19 = .ok (.iload_n 1, 1) := by decide +kernel
theorem dX6_filled_20 : decode cX6_filled 20 = .ok (.if_icmp .ne 12, 3) := by decide +kernel
theorem dX6_filled_23 : decode cX6_filled 23 = .ok (.aload_n 0, 1) := by decide +kernel
theorem dX6_filled_24 : decode cX6_filled 24 = .ok (.getfield 26, 3) := by decide +kernel
theorem dX6_filled_27 : decode cX6_filled 27 = .ok (.iload_n 3, 1) := by decide +kernel
theorem dX6_filled_28 : decode cX6_filled 28 = .ok (.iaload, 1) := by decide +kernel
theorem dX6_filled_29 : decode cX6_filled 29 = .ok (.goto 4, 3) := by decide +kernel
theorem dX6_filled_32 : decode cX6_filled 32 = .ok (.iconst 0, 1) := by decide +kernel
theorem dX6_filled_33 : decode cX6_filled 33 = .ok (.iadd, 1) := by decide +kernel
theorem dX6_filled_34 : decode cX6_filled 34 = .ok (.istore_n 2, 1) := by decide +kernel
theorem dX6_filled_35 : decode cX6_filled 35 = .ok (.iinc 3 1, 3) := by decide +kernel
theorem dX6_filled_38 : decode cX6_filled 38 = .ok (.goto (-34), 3) := by decide +kernel
theorem dX6_filled_41 : decode cX6_filled 41 = .ok (.iload_n 2, 1) := by decide +kernel
theorem dX6_filled_42 : decode cX6_filled 42 = .ok (.ireturn, 1) := by decide +kernel
theorem dX6_depthOf_0 : decode cX6_depthOf 0 = .ok (.iconst 0, 1) := by decide +kernel
theorem dX6_depthOf_1 : decode cX6_depthOf 1 = .ok (.istore_n 2, 1) := by decide +kernel
theorem dX6_depthOf_2 : decode cX6_depthOf 2 = .ok (.aload_n 0, 1) := by decide +kernel
theorem dX6_depthOf_3 : decode cX6_depthOf 3 = .ok (.getfield 13, 3) := by decide +kernel
theorem dX6_depthOf_6 : decode cX6_depthOf 6 = .ok (.bipush 8, 2) := by decide +kernel
theorem dX6_depthOf_8 : decode cX6_depthOf 8 = .ok (.iload_n 1, 1) := by decide +kernel
theorem dX6_depthOf_9 : decode cX6_depthOf 9 = .ok (.imul, 1) := by decide +kernel
theorem dX6_depthOf_10 : decode cX6_depthOf 10 = .ok (.iconst 3, 1) := by decide +kernel
theorem dX6_depthOf_11 : decode cX6_depthOf 11 = .ok (.iadd, 1) := by decide +kernel
theorem dX6_depthOf_12 : decode cX6_depthOf 12 = .ok (.iaload, 1) := by decide +kernel
theorem dX6_depthOf_13 : decode cX6_depthOf 13 = .ok (.istore_n 3, 1) := by decide +kernel
theorem dX6_depthOf_14 : decode cX6_depthOf 14 = .ok (.iload_n 3, 1) := by decide +kernel
theorem dX6_depthOf_15 : decode cX6_depthOf 15 = .ok (.bipush 9, 2) := by decide +kernel
theorem dX6_depthOf_17 : decode cX6_depthOf 17 = .ok (.if_icmp .eq 21, 3) := by decide +kernel
theorem dX6_depthOf_20 : decode cX6_depthOf 20 = .ok (.iinc 2 1, 3) := by decide +kernel
theorem dX6_depthOf_23 : decode cX6_depthOf 23 = .ok (.aload_n 0, 1) := by decide +kernel
theorem dX6_depthOf_24 : decode cX6_depthOf 24 = .ok (.getfield 13, 3) := by decide +kernel
theorem dX6_depthOf_27 : decode cX6_depthOf 27 = .ok (.bipush 8, 2) := by decide +kernel
theorem dX6_depthOf_29 : decode cX6_depthOf 29 = .ok (.iload_n 3, 1) := by decide +kernel
theorem dX6_depthOf_30 : decode cX6_depthOf 30 = .ok (.imul, 1) := by decide +kernel
theorem dX6_depthOf_31 : decode cX6_depthOf 31 = .ok (.iconst 3, 1) := by decide +kernel
theorem dX6_depthOf_32 : decode cX6_depthOf 32 = .ok (.iadd, 1) := by decide +kernel
theorem dX6_depthOf_33 : decode cX6_depthOf 33 = .ok (.iaload, 1) := by decide +kernel
theorem dX6_depthOf_34 : decode cX6_depthOf 34 = .ok (.istore_n 3, 1) := by decide +kernel
theorem dX6_depthOf_35 : decode cX6_depthOf 35 = .ok (.goto (-21), 3) := by decide +kernel
theorem dX6_depthOf_38 : decode cX6_depthOf 38 = .ok (.iload_n 2, 1) := by decide +kernel
theorem dX6_depthOf_39 : decode cX6_depthOf 39 = .ok (.ireturn, 1) := by decide +kernel
theorem dX6_seamsOf_0 : decode cX6_seamsOf 0 = .ok (.iconst 0, 1) := by decide +kernel
theorem dX6_seamsOf_1 : decode cX6_seamsOf 1 = .ok (.istore_n 2, 1) := by decide +kernel
theorem dX6_seamsOf_2 : decode cX6_seamsOf 2 = .ok (.iconst 0, 1) := by decide +kernel
theorem dX6_seamsOf_3 : decode cX6_seamsOf 3 = .ok (.istore_n 3, 1) := by decide +kernel
theorem dX6_seamsOf_4 : decode cX6_seamsOf 4 = .ok (.iload_n 3, 1) := by decide +kernel
theorem dX6_seamsOf_5 : decode cX6_seamsOf 5 = .ok (.aload_n 0, 1) := by decide +kernel
theorem dX6_seamsOf_6 : decode cX6_seamsOf 6 = .ok (.getfield 78, 3) := by decide +kernel
theorem dX6_seamsOf_9 : decode cX6_seamsOf 9 = .ok (.if_icmp .ge 33, 3) := by decide +kernel
theorem dX6_seamsOf_12 : decode cX6_seamsOf 12 = .ok (.iload_n 2, 1) := by decide +kernel
theorem dX6_seamsOf_13 : decode cX6_seamsOf 13 = .ok (.aload_n 0, 1) := by decide +kernel
theorem dX6_seamsOf_14 : decode cX6_seamsOf 14 = .ok (.getfield 16, 3) := by decide +kernel
theorem dX6_seamsOf_17 : decode cX6_seamsOf 17 = .ok (.bipush 6, 2) := by decide +kernel
theorem dX6_seamsOf_19 : decode cX6_seamsOf 19 = .ok (.iload_n 1, 1) := by decide +kernel
theorem dX6_seamsOf_20 : decode cX6_seamsOf 20 = .ok (.imul, 1) := by decide +kernel
theorem dX6_seamsOf_21 : decode cX6_seamsOf 21 = .ok (.iload_n 3, 1) := by decide +kernel
theorem dX6_seamsOf_22 : decode cX6_seamsOf 22 = .ok (.iadd, 1) := by decide +kernel
theorem dX6_seamsOf_23 : decode cX6_seamsOf 23 = .ok (.baload, 1) := by decide +kernel
theorem dX6_seamsOf_24 : decode cX6_seamsOf 24 = .ok (.ifCond .eq 9, 3) := by decide +kernel
theorem dX6_seamsOf_27 : decode cX6_seamsOf 27 = .ok (.iconst 1, 1) := by decide +kernel
theorem dX6_seamsOf_28 : decode cX6_seamsOf 28 = .ok (.iload_n 3, 1) := by decide +kernel
theorem dX6_seamsOf_29 : decode cX6_seamsOf 29 = .ok (.ishl, 1) := by decide +kernel
theorem dX6_seamsOf_30 : decode cX6_seamsOf 30 = .ok (.goto 4, 3) := by decide +kernel
theorem dX6_seamsOf_33 : decode cX6_seamsOf 33 = .ok (.iconst 0, 1) := by decide +kernel
theorem dX6_seamsOf_34 : decode cX6_seamsOf 34 = .ok (.ior, 1) := by decide +kernel
theorem dX6_seamsOf_35 : decode cX6_seamsOf 35 = .ok (.istore_n 2, 1) := by decide +kernel
theorem dX6_seamsOf_36 : decode cX6_seamsOf 36 = .ok (.iinc 3 1, 3) := by decide +kernel
theorem dX6_seamsOf_39 : decode cX6_seamsOf 39 = .ok (.goto (-35), 3) := by decide +kernel
theorem dX6_seamsOf_42 : decode cX6_seamsOf 42 = .ok (.iload_n 2, 1) := by decide +kernel
theorem dX6_seamsOf_43 : decode cX6_seamsOf 43 = .ok (.ireturn, 1) := by decide +kernel
theorem dX6_pocket_0 : decode cX6_pocket 0 = .ok (.aload_n 0, 1) := by decide +kernel
theorem dX6_pocket_1 : decode cX6_pocket 1 = .ok (.iload_n 1, 1) := by decide +kernel
theorem dX6_pocket_2 : decode cX6_pocket 2 = .ok (.invokevirtual 178, 3) := by decide +kernel
theorem dX6_pocket_5 : decode cX6_pocket 5 = .ok (.ifCond .ne 5, 3) := by decide +kernel
theorem dX6_pocket_8 : decode cX6_pocket 8 = .ok (.iconst (-1), 1) := by decide +kernel
theorem dX6_pocket_9 : decode cX6_pocket 9 = .ok (.ireturn, 1) := by decide +kernel
theorem dX6_pocket_10 : decode cX6_pocket 10 = .ok (.iload_n 2, 1) := by decide +kernel
theorem dX6_pocket_11 : decode cX6_pocket 11 = .ok (.tableswitch 88 0 7 #[45, 45, 45, 45, 57, 63, 69, 75], 45) := by decide +kernel
theorem dX6_pocket_56 : decode cX6_pocket 56 = .ok (.aload_n 0, 1) := by decide +kernel
theorem dX6_pocket_57 : decode cX6_pocket 57 = .ok (.getfield 13, 3) := by decide +kernel
theorem dX6_pocket_60 : decode cX6_pocket 60 = .ok (.bipush 8, 2) := by decide +kernel
theorem dX6_pocket_62 : decode cX6_pocket 62 = .ok (.iload_n 1, 1) := by decide +kernel
theorem dX6_pocket_63 : decode cX6_pocket 63 = .ok (.imul, 1) := by decide +kernel
theorem dX6_pocket_64 : decode cX6_pocket 64 = .ok (.iload_n 2, 1) := by decide +kernel
theorem dX6_pocket_65 : decode cX6_pocket 65 = .ok (.iadd, 1) := by decide +kernel
theorem dX6_pocket_66 : decode cX6_pocket 66 = .ok (.iaload, 1) := by decide +kernel
theorem dX6_pocket_67 : decode cX6_pocket 67 = .ok (.ireturn, 1) := by decide +kernel
theorem dX6_pocket_68 : decode cX6_pocket 68 = .ok (.aload_n 0, 1) := by decide +kernel
theorem dX6_pocket_69 : decode cX6_pocket 69 = .ok (.iload_n 1, 1) := by decide +kernel
theorem dX6_pocket_70 : decode cX6_pocket 70 = .ok (.invokevirtual 181, 3) := by decide +kernel
theorem dX6_pocket_73 : decode cX6_pocket 73 = .ok (.ireturn, 1) := by decide +kernel
theorem dX6_pocket_74 : decode cX6_pocket 74 = .ok (.aload_n 0, 1) := by decide +kernel
theorem dX6_pocket_75 : decode cX6_pocket 75 = .ok (.iload_n 1, 1) := by decide +kernel
theorem dX6_pocket_76 : decode cX6_pocket 76 = .ok (.invokevirtual 184, 3) := by decide +kernel
theorem dX6_pocket_79 : decode cX6_pocket 79 = .ok (.ireturn, 1) := by decide +kernel
theorem dX6_pocket_80 : decode cX6_pocket 80 = .ok (.aload_n 0, 1) := by decide +kernel
theorem dX6_pocket_81 : decode cX6_pocket 81 = .ok (.iload_n 1, 1) := by decide +kernel
theorem dX6_pocket_82 : decode cX6_pocket 82 = .ok (.invokevirtual 187, 3) := by decide +kernel
theorem dX6_pocket_85 : decode cX6_pocket 85 = .ok (.ireturn, 1) := by decide +kernel
theorem dX6_pocket_86 : decode cX6_pocket 86 = .ok (.aload_n 0, 1) := by decide +kernel
theorem dX6_pocket_87 : decode cX6_pocket 87 = .ok (.getfield 13, 3) := by decide +kernel
theorem dX6_pocket_90 : decode cX6_pocket 90 = .ok (.bipush 8, 2) := by decide +kernel
theorem dX6_pocket_92 : decode cX6_pocket 92 = .ok (.iload_n 1, 1) := by decide +kernel
theorem dX6_pocket_93 : decode cX6_pocket 93 = .ok (.imul, 1) := by decide +kernel
theorem dX6_pocket_94 : decode cX6_pocket 94 = .ok (.bipush 6, 2) := by decide +kernel
theorem dX6_pocket_96 : decode cX6_pocket 96 = .ok (.iadd, 1) := by decide +kernel
theorem dX6_pocket_97 : decode cX6_pocket 97 = .ok (.iaload, 1) := by decide +kernel
theorem dX6_pocket_98 : decode cX6_pocket 98 = .ok (.ireturn, 1) := by decide +kernel
theorem dX6_pocket_99 : decode cX6_pocket 99 = .ok (.iconst (-1), 1) := by decide +kernel
theorem dX6_pocket_100 : decode cX6_pocket 100 = .ok (.ireturn, 1) := by decide +kernel
theorem dX6_isOutlawed_0 : decode cX6_isOutlawed 0 = .ok (.aload_n 0, 1) := by decide +kernel
theorem dX6_isOutlawed_1 : decode cX6_isOutlawed 1 = .ok (.aload_n 0, 1) := by decide +kernel
theorem dX6_isOutlawed_2 : decode cX6_isOutlawed 2 = .ok (.getfield 23, 3) := by decide +kernel
theorem dX6_isOutlawed_5 : decode cX6_isOutlawed 5 = .ok (.iload_n 1, 1) := by decide +kernel
theorem dX6_isOutlawed_6 : decode cX6_isOutlawed 6 = .ok (.iaload, 1) := by decide +kernel
theorem dX6_isOutlawed_7 : decode cX6_isOutlawed 7 = .ok (.invokevirtual 190, 3) := by decide +kernel
theorem dX6_isOutlawed_10 : decode cX6_isOutlawed 10 = .ok (.aload_n 0, 1) := by decide +kernel
theorem dX6_isOutlawed_11 : decode cX6_isOutlawed 11 = .ok (.getfield 32, 3) := by decide +kernel
theorem dX6_isOutlawed_14 : decode cX6_isOutlawed 14 = .ok (.iload_n 1, 1) := by decide +kernel
theorem dX6_isOutlawed_15 : decode cX6_isOutlawed 15 = .ok (.iaload, 1) := by decide +kernel
theorem dX6_isOutlawed_16 : decode cX6_isOutlawed 16 = .ok (.invokestatic 165, 3) := by decide +kernel
theorem dX6_isOutlawed_19 : decode cX6_isOutlawed 19 = .ok (.ifCond .ne 7, 3) := by decide +kernel
theorem dX6_isOutlawed_22 : decode cX6_isOutlawed 22 = .ok (.iconst 1, 1) := by decide +kernel
theorem dX6_isOutlawed_23 : decode cX6_isOutlawed 23 = .ok (.goto 4, 3) := by decide +kernel
theorem dX6_isOutlawed_26 : decode cX6_isOutlawed 26 = .ok (.iconst 0, 1) := by decide +kernel
theorem dX6_isOutlawed_27 : decode cX6_isOutlawed 27 = .ok (.ireturn, 1) := by decide +kernel
theorem dX6_thing_0 : decode cX6_thing 0 = .ok (.aload_n 0, 1) := by decide +kernel
theorem dX6_thing_1 : decode cX6_thing 1 = .ok (.iload_n 1, 1) := by decide +kernel
theorem dX6_thing_2 : decode cX6_thing 2 = .ok (.invokevirtual 193, 3) := by decide +kernel
theorem dX6_thing_5 : decode cX6_thing 5 = .ok (.ifCond .ne 5, 3) := by decide +kernel
theorem dX6_thing_8 : decode cX6_thing 8 = .ok (.iconst (-1), 1) := by decide +kernel
theorem dX6_thing_9 : decode cX6_thing 9 = .ok (.ireturn, 1) := by decide +kernel
theorem dX6_thing_10 : decode cX6_thing 10 = .ok (.iload_n 2, 1) := by decide +kernel
theorem dX6_thing_11 : decode cX6_thing 11 = .ok (.tableswitch 75 0 4 #[33, 40, 47, 54, 61], 33) := by decide +kernel
theorem dX6_thing_44 : decode cX6_thing 44 = .ok (.aload_n 0, 1) := by decide +kernel
theorem dX6_thing_45 : decode cX6_thing 45 = .ok (.getfield 23, 3) := by decide +kernel
theorem dX6_thing_48 : decode cX6_thing 48 = .ok (.iload_n 1, 1) := by decide +kernel
theorem dX6_thing_49 : decode cX6_thing 49 = .ok (.iaload, 1) := by decide +kernel
theorem dX6_thing_50 : decode cX6_thing 50 = .ok (.ireturn, 1) := by decide +kernel
theorem dX6_thing_51 : decode cX6_thing 51 = .ok (.aload_n 0, 1) := by decide +kernel
theorem dX6_thing_52 : decode cX6_thing 52 = .ok (.getfield 26, 3) := by decide +kernel
theorem dX6_thing_55 : decode cX6_thing 55 = .ok (.iload_n 1, 1) := by decide +kernel
theorem dX6_thing_56 : decode cX6_thing 56 = .ok (.iaload, 1) := by decide +kernel
theorem dX6_thing_57 : decode cX6_thing 57 = .ok (.ireturn, 1) := by decide +kernel
theorem dX6_thing_58 : decode cX6_thing 58 = .ok (.aload_n 0, 1) := by decide +kernel
theorem dX6_thing_59 : decode cX6_thing 59 = .ok (.getfield 29, 3) := by decide +kernel
theorem dX6_thing_62 : decode cX6_thing 62 = .ok (.iload_n 1, 1) := by decide +kernel
theorem dX6_thing_63 : decode cX6_thing 63 = .ok (.iaload, 1) := by decide +kernel
theorem dX6_thing_64 : decode cX6_thing 64 = .ok (.ireturn, 1) := by decide +kernel
theorem dX6_thing_65 : decode cX6_thing 65 = .ok (.aload_n 0, 1) := by decide +kernel
theorem dX6_thing_66 : decode cX6_thing 66 = .ok (.getfield 32, 3) := by decide +kernel
theorem dX6_thing_69 : decode cX6_thing 69 = .ok (.iload_n 1, 1) := by decide +kernel
theorem dX6_thing_70 : decode cX6_thing 70 = .ok (.iaload, 1) := by decide +kernel
theorem dX6_thing_71 : decode cX6_thing 71 = .ok (.ireturn, 1) := by decide +kernel
theorem dX6_thing_72 : decode cX6_thing 72 = .ok (.aload_n 0, 1) := by decide +kernel
theorem dX6_thing_73 : decode cX6_thing 73 = .ok (.iload_n 1, 1) := by decide +kernel
theorem dX6_thing_74 : decode cX6_thing 74 = .ok (.invokevirtual 196, 3) := by decide +kernel
theorem dX6_thing_77 : decode cX6_thing 77 = .ok (.ifCond .eq 7, 3) := by decide +kernel
theorem dX6_thing_80 : decode cX6_thing 80 = .ok (.iconst 1, 1) := by decide +kernel
theorem dX6_thing_81 : decode cX6_thing 81 = .ok (.goto 4, 3) := by decide +kernel
theorem dX6_thing_84 : decode cX6_thing 84 = .ok (.iconst 0, 1) := by decide +kernel
theorem dX6_thing_85 : decode cX6_thing 85 = .ok (.ireturn, 1) := by decide +kernel
theorem dX6_thing_86 : decode cX6_thing 86 = .ok (.iconst (-1), 1) := by decide +kernel
theorem dX6_thing_87 : decode cX6_thing 87 = .ok (.ireturn, 1) := by decide +kernel
theorem dX6_isSort_0 : decode cX6_isSort 0 = .ok (.iload_n 0, 1) := by decide +kernel
theorem dX6_isSort_1 : decode cX6_isSort 1 = .ok (.i2l, 1) := by decide +kernel
theorem dX6_isSort_2 : decode cX6_isSort 2 = .ok (.lconst 0, 1) := by decide +kernel
theorem dX6_isSort_3 : decode cX6_isSort 3 = .ok (.ldc2_w 199, 3) := by decide +kernel
theorem dX6_isSort_6 : decode cX6_isSort 6 = .ok (.invokestatic 82, 3) := by decide +kernel
theorem dX6_isSort_9 : decode cX6_isSort 9 = .ok (.ireturn, 1) := by decide +kernel
theorem dX6_letsIn_0 : decode cX6_letsIn 0 = .ok (.aload_n 0, 1) := by decide +kernel
theorem dX6_letsIn_1 : decode cX6_letsIn 1 = .ok (.iload_n 1, 1) := by decide +kernel
theorem dX6_letsIn_2 : decode cX6_letsIn 2 = .ok (.invokevirtual 178, 3) := by decide +kernel
theorem dX6_letsIn_5 : decode cX6_letsIn 5 = .ok (.ifCond .eq 10, 3) := by decide +kernel
theorem dX6_letsIn_8 : decode cX6_letsIn 8 = .ok (.iload_n 2, 1) := by decide +kernel
theorem dX6_letsIn_9 : decode cX6_letsIn 9 = .ok (.invokestatic 201, 3) := by decide +kernel
theorem dX6_letsIn_12 : decode cX6_letsIn 12 = .ok (.ifCond .ne 5, 3) := by decide +kernel
theorem dX6_letsIn_15 : decode cX6_letsIn 15 = .ok (.iconst (-1), 1) := by decide +kernel
theorem dX6_letsIn_16 : decode cX6_letsIn 16 = .ok (.ireturn, 1) := by decide +kernel
theorem dX6_letsIn_17 : decode cX6_letsIn 17 = .ok (.aload_n 0, 1) := by decide +kernel
theorem dX6_letsIn_18 : decode cX6_letsIn 18 = .ok (.iload_n 2, 1) := by decide +kernel
theorem dX6_letsIn_19 : decode cX6_letsIn 19 = .ok (.invokevirtual 190, 3) := by decide +kernel
theorem dX6_letsIn_22 : decode cX6_letsIn 22 = .ok (.iload_n 1, 1) := by decide +kernel
theorem dX6_letsIn_23 : decode cX6_letsIn 23 = .ok (.ishr, 1) := by decide +kernel
theorem dX6_letsIn_24 : decode cX6_letsIn 24 = .ok (.iconst 1, 1) := by decide +kernel
theorem dX6_letsIn_25 : decode cX6_letsIn 25 = .ok (.iand, 1) := by decide +kernel
theorem dX6_letsIn_26 : decode cX6_letsIn 26 = .ok (.ireturn, 1) := by decide +kernel
theorem dX6_fixed_0 : decode cX6_fixed 0 = .ok (.iload_n 1, 1) := by decide +kernel
theorem dX6_fixed_1 : decode cX6_fixed 1 = .ok (.invokestatic 201, 3) := by decide +kernel
theorem dX6_fixed_4 : decode cX6_fixed 4 = .ok (.ifCond .eq 11, 3) := by decide +kernel
theorem dX6_fixed_7 : decode cX6_fixed 7 = .ok (.aload_n 0, 1) := by decide +kernel
theorem dX6_fixed_8 : decode cX6_fixed 8 = .ok (.iload_n 1, 1) := by decide +kernel
theorem dX6_fixed_9 : decode cX6_fixed 9 = .ok (.invokevirtual 175, 3) := by decide +kernel
theorem dX6_fixed_12 : decode cX6_fixed 12 = .ok (.goto 4, 3) := by decide +kernel
theorem dX6_fixed_15 : decode cX6_fixed 15 = .ok (.iconst (-1), 1) := by decide +kernel
theorem dX6_fixed_16 : decode cX6_fixed 16 = .ok (.ireturn, 1) := by decide +kernel
theorem dX6_parts_0 : decode cX6_parts 0 = .ok (.iconst 0, 1) := by decide +kernel
theorem dX6_parts_1 : decode cX6_parts 1 = .ok (.istore_n 1, 1) := by decide +kernel
theorem dX6_parts_2 : decode cX6_parts 2 = .ok (.iconst 0, 1) := by decide +kernel
theorem dX6_parts_3 : decode cX6_parts 3 = .ok (.istore_n 2, 1) := by decide +kernel
theorem dX6_parts_4 : decode cX6_parts 4 = .ok (.iconst 0, 1) := by decide +kernel
theorem dX6_parts_5 : decode cX6_parts 5 = .ok (.istore_n 3, 1) := by decide +kernel
theorem dX6_parts_6 : decode cX6_parts 6 = .ok (.iload_n 3, 1) := by decide +kernel
theorem dX6_parts_7 : decode cX6_parts 7 = .ok (.aload_n 0, 1) := by decide +kernel
theorem dX6_parts_8 : decode cX6_parts 8 = .ok (.getfield 78, 3) := by decide +kernel
theorem dX6_parts_11 : decode cX6_parts 11 = .ok (.if_icmp .ge 82, 3) := by decide +kernel
theorem dX6_parts_14 : decode cX6_parts 14 = .ok (.iload_n 2, 1) := by decide +kernel
theorem dX6_parts_15 : decode cX6_parts 15 = .ok (.iload_n 3, 1) := by decide +kernel
theorem dX6_parts_16 : decode cX6_parts 16 = .ok (.invokestatic 165, 3) := by decide +kernel
theorem dX6_parts_19 : decode cX6_parts 19 = .ok (.ifCond .ne 68, 3) := by decide +kernel
theorem dX6_parts_22 : decode cX6_parts 22 = .ok (.iinc 1 1, 3) := by decide +kernel
theorem dX6_parts_25 : decode cX6_parts 25 = .ok (.iload_n 2, 1) := by decide +kernel
theorem dX6_parts_26 : decode cX6_parts 26 = .ok (.iconst 1, 1) := by decide +kernel
theorem dX6_parts_27 : decode cX6_parts 27 = .ok (.iload_n 3, 1) := by decide +kernel
theorem dX6_parts_28 : decode cX6_parts 28 = .ok (.ishl, 1) := by decide +kernel
theorem dX6_parts_29 : decode cX6_parts 29 = .ok (.ior, 1) := by decide +kernel
theorem dX6_parts_30 : decode cX6_parts 30 = .ok (.istore_n 2, 1) := by decide +kernel
theorem dX6_parts_31 : decode cX6_parts 31 = .ok (.iconst 0, 1) := by decide +kernel
theorem dX6_parts_32 : decode cX6_parts 32 = .ok (.istore 4, 2) := by decide +kernel
theorem dX6_parts_34 : decode cX6_parts 34 = .ok (.iload 4, 2) := by decide +kernel
theorem dX6_parts_36 : decode cX6_parts 36 = .ok (.bipush 6, 2) := by decide +kernel
theorem dX6_parts_38 : decode cX6_parts 38 = .ok (.if_icmp .ge 49, 3) := by decide +kernel
theorem dX6_parts_41 : decode cX6_parts 41 = .ok (.iconst 0, 1) := by decide +kernel
theorem dX6_parts_42 : decode cX6_parts 42 = .ok (.istore 5, 2) := by decide +kernel
theorem dX6_parts_44 : decode cX6_parts 44 = .ok (.iload 5, 2) := by decide +kernel
theorem dX6_parts_46 : decode cX6_parts 46 = .ok (.aload_n 0, 1) := by decide +kernel
theorem dX6_parts_47 : decode cX6_parts 47 = .ok (.getfield 78, 3) := by decide +kernel
theorem dX6_parts_50 : decode cX6_parts 50 = .ok (.if_icmp .ge 31, 3) := by decide +kernel
theorem dX6_parts_53 : decode cX6_parts 53 = .ok (.iload_n 2, 1) := by decide +kernel
theorem dX6_parts_54 : decode cX6_parts 54 = .ok (.iload_n 2, 1) := by decide +kernel
theorem dX6_parts_55 : decode cX6_parts 55 = .ok (.iload 5, 2) := by decide +kernel
theorem dX6_parts_57 : decode cX6_parts 57 = .ok (.invokestatic 165, 3) := by decide +kernel
theorem dX6_parts_60 : decode cX6_parts 60 = .ok (.ifCond .eq 12, 3) := by decide +kernel
theorem dX6_parts_63 : decode cX6_parts 63 = .ok (.aload_n 0, 1) := by decide +kernel
theorem dX6_parts_64 : decode cX6_parts 64 = .ok (.iload 5, 2) := by decide +kernel
theorem dX6_parts_66 : decode cX6_parts 66 = .ok (.invokevirtual 187, 3) := by decide +kernel
theorem dX6_parts_69 : decode cX6_parts 69 = .ok (.goto 4, 3) := by decide +kernel
theorem dX6_parts_72 : decode cX6_parts 72 = .ok (.iconst 0, 1) := by decide +kernel
theorem dX6_parts_73 : decode cX6_parts 73 = .ok (.ior, 1) := by decide +kernel
theorem dX6_parts_74 : decode cX6_parts 74 = .ok (.istore_n 2, 1) := by decide +kernel
theorem dX6_parts_75 : decode cX6_parts 75 = .ok (.iinc 5 1, 3) := by decide +kernel
theorem dX6_parts_78 : decode cX6_parts 78 = .ok (.goto (-34), 3) := by decide +kernel
theorem dX6_parts_81 : decode cX6_parts 81 = .ok (.iinc 4 1, 3) := by decide +kernel
theorem dX6_parts_84 : decode cX6_parts 84 = .ok (.goto (-50), 3) := by decide +kernel
theorem dX6_parts_87 : decode cX6_parts 87 = .ok (.iinc 3 1, 3) := by decide +kernel
theorem dX6_parts_90 : decode cX6_parts 90 = .ok (.goto (-84), 3) := by decide +kernel
theorem dX6_parts_93 : decode cX6_parts 93 = .ok (.iload_n 1, 1) := by decide +kernel
theorem dX6_parts_94 : decode cX6_parts 94 = .ok (.ireturn, 1) := by decide +kernel
theorem dX6_now_0 : decode cX6_now 0 = .ok (.iconst 0, 1) := by decide +kernel
theorem dX6_now_1 : decode cX6_now 1 = .ok (.istore_n 2, 1) := by decide +kernel
theorem dX6_now_2 : decode cX6_now 2 = .ok (.iconst 0, 1) := by decide +kernel
theorem dX6_now_3 : decode cX6_now 3 = .ok (.istore_n 3, 1) := by decide +kernel
theorem dX6_now_4 : decode cX6_now 4 = .ok (.iload_n 3, 1) := by decide +kernel
theorem dX6_now_5 : decode cX6_now 5 = .ok (.aload_n 0, 1) := by decide +kernel
theorem dX6_now_6 : decode cX6_now 6 = .ok (.getfield 86, 3) := by decide +kernel
theorem dX6_now_9 : decode cX6_now 9 = .ok (.if_icmp .ge 27, 3) := by decide +kernel
theorem dX6_now_12 : decode cX6_now 12 = .ok (.iload_n 2, 1) := by decide +kernel
theorem dX6_now_13 : decode cX6_now 13 = .ok (.aload_n 0, 1) := by decide +kernel
theorem dX6_now_14 : decode cX6_now 14 = .ok (.iload_n 3, 1) := by decide +kernel
theorem dX6_now_15 : decode cX6_now 15 = .ok (.invokevirtual 196, 3) := by decide +kernel
theorem dX6_now_18 : decode cX6_now 18 = .ok (.ifCond .eq 9, 3) := by decide +kernel
theorem dX6_now_21 : decode cX6_now 21 = .ok (.iconst 1, 1) := by decide +kernel
theorem dX6_now_22 : decode cX6_now 22 = .ok (.iload_n 3, 1) := by decide +kernel
theorem dX6_now_23 : decode cX6_now 23 = .ok (.ishl, 1) := by decide +kernel
theorem dX6_now_24 : decode cX6_now 24 = .ok (.goto 4, 3) := by decide +kernel
theorem dX6_now_27 : decode cX6_now 27 = .ok (.iconst 0, 1) := by decide +kernel
theorem dX6_now_28 : decode cX6_now 28 = .ok (.ior, 1) := by decide +kernel
theorem dX6_now_29 : decode cX6_now 29 = .ok (.istore_n 2, 1) := by decide +kernel
theorem dX6_now_30 : decode cX6_now 30 = .ok (.iinc 3 1, 3) := by decide +kernel
theorem dX6_now_33 : decode cX6_now 33 = .ok (.goto (-29), 3) := by decide +kernel
theorem dX6_now_36 : decode cX6_now 36 = .ok (.iload_n 1, 1) := by decide +kernel
theorem dX6_now_37 : decode cX6_now 37 = .ok (.tableswitch 63 0 4 #[35, 43, 51, 53, 58], 35) := by decide +kernel
theorem dX6_now_72 : decode cX6_now 72 = .ok (.aload_n 0, 1) := by decide +kernel
theorem dX6_now_73 : decode cX6_now 73 = .ok (.getfield 32, 3) := by decide +kernel
theorem dX6_now_76 : decode cX6_now 76 = .ok (.bipush 7, 2) := by decide +kernel
theorem dX6_now_78 : decode cX6_now 78 = .ok (.iaload, 1) := by decide +kernel
theorem dX6_now_79 : decode cX6_now 79 = .ok (.ireturn, 1) := by decide +kernel
theorem dX6_now_80 : decode cX6_now 80 = .ok (.aload_n 0, 1) := by decide +kernel
theorem dX6_now_81 : decode cX6_now 81 = .ok (.getfield 32, 3) := by decide +kernel
theorem dX6_now_84 : decode cX6_now 84 = .ok (.bipush 6, 2) := by decide +kernel
theorem dX6_now_86 : decode cX6_now 86 = .ok (.iaload, 1) := by decide +kernel
theorem dX6_now_87 : decode cX6_now 87 = .ok (.ireturn, 1) := by decide +kernel
theorem dX6_now_88 : decode cX6_now 88 = .ok (.iload_n 2, 1) := by decide +kernel
theorem dX6_now_89 : decode cX6_now 89 = .ok (.ireturn, 1) := by decide +kernel
theorem dX6_now_90 : decode cX6_now 90 = .ok (.aload_n 0, 1) := by decide +kernel
theorem dX6_now_91 : decode cX6_now 91 = .ok (.invokevirtual 204, 3) := by decide +kernel
theorem dX6_now_94 : decode cX6_now 94 = .ok (.ireturn, 1) := by decide +kernel
theorem dX6_now_95 : decode cX6_now 95 = .ok (.aload_n 0, 1) := by decide +kernel
theorem dX6_now_96 : decode cX6_now 96 = .ok (.getfield 162, 3) := by decide +kernel
theorem dX6_now_99 : decode cX6_now 99 = .ok (.ireturn, 1) := by decide +kernel
theorem dX6_now_100 : decode cX6_now 100 = .ok (.iconst (-1), 1) := by decide +kernel
theorem dX6_now_101 : decode cX6_now 101 = .ok (.ireturn, 1) := by decide +kernel
theorem dX6_note_0 : decode cX6_note 0 = .ok (.aload_n 0, 1) := by decide +kernel
theorem dX6_note_1 : decode cX6_note 1 = .ok (.getfield 162, 3) := by decide +kernel
theorem dX6_note_4 : decode cX6_note 4 = .ok (.bipush 10, 2) := by decide +kernel
theorem dX6_note_6 : decode cX6_note 6 = .ok (.if_icmp .ne 42, 3) := by decide +kernel
theorem dX6_note_9 : decode cX6_note 9 = .ok (.iconst 0, 1) := by decide +kernel
theorem dX6_note_10 : decode cX6_note 10 = .ok (.istore_n 1, 1) := by decide +kernel
theorem dX6_note_11 : decode cX6_note 11 = .ok (.iload_n 1, 1) := by decide +kernel
theorem dX6_note_12 : decode cX6_note 12 = .ok (.bipush 72, 2) := by decide +kernel
theorem dX6_note_14 : decode cX6_note 14 = .ok (.if_icmp .ge 24, 3) := by decide +kernel
theorem dX6_note_17 : decode cX6_note 17 = .ok (.aload_n 0, 1) := by decide +kernel
theorem dX6_note_18 : decode cX6_note 18 = .ok (.getfield 35, 3) := by decide +kernel
theorem dX6_note_21 : decode cX6_note 21 = .ok (.iload_n 1, 1) := by decide +kernel
theorem dX6_note_22 : decode cX6_note 22 = .ok (.aload_n 0, 1) := by decide +kernel
theorem dX6_note_23 : decode cX6_note 23 = .ok (.getfield 35, 3) := by decide +kernel
theorem dX6_note_26 : decode cX6_note 26 = .ok (.iload_n 1, 1) := by decide +kernel
theorem dX6_note_27 : decode cX6_note 27 = .ok (.bipush 8, 2) := by decide +kernel
theorem dX6_note_29 : decode cX6_note 29 = .ok (.iadd, 1) := by decide +kernel
theorem dX6_note_30 : decode cX6_note 30 = .ok (.iaload, 1) := by decide +kernel
theorem dX6_note_31 : decode cX6_note 31 = .ok (.iastore, 1) := by decide +kernel
theorem dX6_note_32 : decode cX6_note 32 = .ok (.iinc 1 1, 3) := by decide +kernel
theorem dX6_note_35 : decode cX6_note 35 = .ok (.goto (-24), 3) := by decide +kernel
theorem dX6_note_38 : decode cX6_note 38 = .ok (.aload_n 0, 1) := by decide +kernel
theorem dX6_note_39 : decode cX6_note 39 = .ok (.dup, 1) := by decide +kernel
theorem dX6_note_40 : decode cX6_note 40 = .ok (.getfield 162, 3) := by decide +kernel
theorem dX6_note_43 : decode cX6_note 43 = .ok (.iconst 1, 1) := by decide +kernel
theorem dX6_note_44 : decode cX6_note 44 = .ok (.isub, 1) := by decide +kernel
theorem dX6_note_45 : decode cX6_note 45 = .ok (.putfield 162, 3) := by decide +kernel
theorem dX6_note_48 : decode cX6_note 48 = .ok (.iconst 0, 1) := by decide +kernel
theorem dX6_note_49 : decode cX6_note 49 = .ok (.istore_n 1, 1) := by decide +kernel
theorem dX6_note_50 : decode cX6_note 50 = .ok (.iload_n 1, 1) := by decide +kernel
theorem dX6_note_51 : decode cX6_note 51 = .ok (.bipush 8, 2) := by decide +kernel
theorem dX6_note_53 : decode cX6_note 53 = .ok (.if_icmp .ge 29, 3) := by decide +kernel
theorem dX6_note_56 : decode cX6_note 56 = .ok (.aload_n 0, 1) := by decide +kernel
theorem dX6_note_57 : decode cX6_note 57 = .ok (.getfield 35, 3) := by decide +kernel
theorem dX6_note_60 : decode cX6_note 60 = .ok (.bipush 8, 2) := by decide +kernel
theorem dX6_note_62 : decode cX6_note 62 = .ok (.aload_n 0, 1) := by decide +kernel
theorem dX6_note_63 : decode cX6_note 63 = .ok (.getfield 162, 3) := by decide +kernel
theorem dX6_note_66 : decode cX6_note 66 = .ok (.imul, 1) := by decide +kernel
theorem dX6_note_67 : decode cX6_note 67 = .ok (.iload_n 1, 1) := by decide +kernel
theorem dX6_note_68 : decode cX6_note 68 = .ok (.iadd, 1) := by decide +kernel
theorem dX6_note_69 : decode cX6_note 69 = .ok (.aload_n 0, 1) := by decide +kernel
theorem dX6_note_70 : decode cX6_note 70 = .ok (.getfield 32, 3) := by decide +kernel
theorem dX6_note_73 : decode cX6_note 73 = .ok (.iload_n 1, 1) := by decide +kernel
theorem dX6_note_74 : decode cX6_note 74 = .ok (.iaload, 1) := by decide +kernel
theorem dX6_note_75 : decode cX6_note 75 = .ok (.iastore, 1) := by decide +kernel
theorem dX6_note_76 : decode cX6_note 76 = .ok (.iinc 1 1, 3) := by decide +kernel
theorem dX6_note_79 : decode cX6_note 79 = .ok (.goto (-29), 3) := by decide +kernel
theorem dX6_note_82 : decode cX6_note 82 = .ok (.aload_n 0, 1) := by decide +kernel
theorem dX6_note_83 : decode cX6_note 83 = .ok (.dup, 1) := by decide +kernel
theorem dX6_note_84 : decode cX6_note 84 = .ok (.getfield 162, 3) := by decide +kernel
theorem dX6_note_87 : decode cX6_note 87 = .ok (.iconst 1, 1) := by decide +kernel
theorem dX6_note_88 : decode cX6_note 88 = .ok (.iadd, 1) := by decide +kernel
theorem dX6_note_89 : decode cX6_note 89 = .ok (.putfield 162, 3) := by decide +kernel
theorem dX6_note_92 : decode cX6_note 92 = .ok (.return_, 1) := by decide +kernel
theorem dX6_taxOf_0 : decode cX6_taxOf 0 = .ok (.aload_n 0, 1) := by decide +kernel
theorem dX6_taxOf_1 : decode cX6_taxOf 1 = .ok (.getfield 20, 3) := by decide +kernel
theorem dX6_taxOf_4 : decode cX6_taxOf 4 = .ok (.bipush 6, 2) := by decide +kernel
theorem dX6_taxOf_6 : decode cX6_taxOf 6 = .ok (.iload_n 1, 1) := by decide +kernel
theorem dX6_taxOf_7 : decode cX6_taxOf 7 = .ok (.imul, 1) := by decide +kernel
theorem dX6_taxOf_8 : decode cX6_taxOf 8 = .ok (.iload_n 2, 1) := by decide +kernel
theorem dX6_taxOf_9 : decode cX6_taxOf 9 = .ok (.iadd, 1) := by decide +kernel
theorem dX6_taxOf_10 : decode cX6_taxOf 10 = .ok (.iaload, 1) := by decide +kernel
theorem dX6_taxOf_11 : decode cX6_taxOf 11 = .ok (.iload_n 3, 1) := by decide +kernel
theorem dX6_taxOf_12 : decode cX6_taxOf 12 = .ok (.invokestatic 165, 3) := by decide +kernel
theorem dX6_taxOf_15 : decode cX6_taxOf 15 = .ok (.ifCond .eq 7, 3) := by decide +kernel
theorem dX6_taxOf_18 : decode cX6_taxOf 18 = .ok (.iconst 0, 1) := by decide +kernel
theorem dX6_taxOf_19 : decode cX6_taxOf 19 = .ok (.goto 14, 3) := by decide +kernel
theorem dX6_taxOf_22 : decode cX6_taxOf 22 = .ok (.aload_n 0, 1) := by decide +kernel
theorem dX6_taxOf_23 : decode cX6_taxOf 23 = .ok (.getfield 13, 3) := by decide +kernel
theorem dX6_taxOf_26 : decode cX6_taxOf 26 = .ok (.bipush 8, 2) := by decide +kernel
theorem dX6_taxOf_28 : decode cX6_taxOf 28 = .ok (.iload_n 2, 1) := by decide +kernel
theorem dX6_taxOf_29 : decode cX6_taxOf 29 = .ok (.imul, 1) := by decide +kernel
theorem dX6_taxOf_30 : decode cX6_taxOf 30 = .ok (.iconst 2, 1) := by decide +kernel
theorem dX6_taxOf_31 : decode cX6_taxOf 31 = .ok (.iadd, 1) := by decide +kernel
theorem dX6_taxOf_32 : decode cX6_taxOf 32 = .ok (.iaload, 1) := by decide +kernel
theorem dX6_taxOf_33 : decode cX6_taxOf 33 = .ok (.ireturn, 1) := by decide +kernel
theorem dX6_hasRoom_0 : decode cX6_hasRoom 0 = .ok (.aload_n 0, 1) := by decide +kernel
theorem dX6_hasRoom_1 : decode cX6_hasRoom 1 = .ok (.iload_n 1, 1) := by decide +kernel
theorem dX6_hasRoom_2 : decode cX6_hasRoom 2 = .ok (.invokevirtual 181, 3) := by decide +kernel
theorem dX6_hasRoom_5 : decode cX6_hasRoom 5 = .ok (.iload_n 2, 1) := by decide +kernel
theorem dX6_hasRoom_6 : decode cX6_hasRoom 6 = .ok (.iadd, 1) := by decide +kernel
theorem dX6_hasRoom_7 : decode cX6_hasRoom 7 = .ok (.aload_n 0, 1) := by decide +kernel
theorem dX6_hasRoom_8 : decode cX6_hasRoom 8 = .ok (.getfield 13, 3) := by decide +kernel
theorem dX6_hasRoom_11 : decode cX6_hasRoom 11 = .ok (.bipush 8, 2) := by decide +kernel
theorem dX6_hasRoom_13 : decode cX6_hasRoom 13 = .ok (.iload_n 1, 1) := by decide +kernel
theorem dX6_hasRoom_14 : decode cX6_hasRoom 14 = .ok (.imul, 1) := by decide +kernel
theorem dX6_hasRoom_15 : decode cX6_hasRoom 15 = .ok (.iaload, 1) := by decide +kernel
theorem dX6_hasRoom_16 : decode cX6_hasRoom 16 = .ok (.if_icmp .gt 7, 3) := by decide +kernel
theorem dX6_hasRoom_19 : decode cX6_hasRoom 19 = .ok (.iconst 1, 1) := by decide +kernel
theorem dX6_hasRoom_20 : decode cX6_hasRoom 20 = .ok (.goto 4, 3) := by decide +kernel
theorem dX6_hasRoom_23 : decode cX6_hasRoom 23 = .ok (.iconst 0, 1) := by decide +kernel
theorem dX6_hasRoom_24 : decode cX6_hasRoom 24 = .ok (.ireturn, 1) := by decide +kernel
theorem dX6_moves_0 : decode cX6_moves 0 = .ok (.aload_n 0, 1) := by decide +kernel
theorem dX6_moves_1 : decode cX6_moves 1 = .ok (.iload_n 1, 1) := by decide +kernel
theorem dX6_moves_2 : decode cX6_moves 2 = .ok (.invokevirtual 193, 3) := by decide +kernel
theorem dX6_moves_5 : decode cX6_moves 5 = .ok (.ifCond .eq 11, 3) := by decide +kernel
theorem dX6_moves_8 : decode cX6_moves 8 = .ok (.aload_n 0, 1) := by decide +kernel
theorem dX6_moves_9 : decode cX6_moves 9 = .ok (.iload_n 2, 1) := by decide +kernel
theorem dX6_moves_10 : decode cX6_moves 10 = .ok (.invokevirtual 178, 3) := by decide +kernel
theorem dX6_moves_13 : decode cX6_moves 13 = .ok (.ifCond .ne 5, 3) := by decide +kernel
theorem dX6_moves_16 : decode cX6_moves 16 = .ok (.iconst (-1), 1) := by decide +kernel
theorem dX6_moves_17 : decode cX6_moves 17 = .ok (.ireturn, 1) := by decide +kernel
theorem dX6_moves_18 : decode cX6_moves 18 = .ok (.aload_n 0, 1) := by decide +kernel
theorem dX6_moves_19 : decode cX6_moves 19 = .ok (.getfield 16, 3) := by decide +kernel
theorem dX6_moves_22 : decode cX6_moves 22 = .ok (.bipush 6, 2) := by decide +kernel
theorem dX6_moves_24 : decode cX6_moves 24 = .ok (.aload_n 0, 1) := by decide +kernel
theorem dX6_moves_25 : decode cX6_moves 25 = .ok (.getfield 32, 3) := by decide +kernel
theorem dX6_moves_28 : decode cX6_moves 28 = .ok (.iload_n 1, 1) := by decide +kernel
theorem dX6_moves_29 : decode cX6_moves 29 = .ok (.iaload, 1) := by decide +kernel
theorem dX6_moves_30 : decode cX6_moves 30 = .ok (.imul, 1) := by decide +kernel
theorem dX6_moves_31 : decode cX6_moves 31 = .ok (.iload_n 2, 1) := by decide +kernel
theorem dX6_moves_32 : decode cX6_moves 32 = .ok (.iadd, 1) := by decide +kernel
theorem dX6_moves_33 : decode cX6_moves 33 = .ok (.baload, 1) := by decide +kernel
theorem dX6_moves_34 : decode cX6_moves 34 = .ok (.ifCond .eq 34, 3) := by decide +kernel
theorem dX6_moves_37 : decode cX6_moves 37 = .ok (.aload_n 0, 1) := by decide +kernel
theorem dX6_moves_38 : decode cX6_moves 38 = .ok (.aload_n 0, 1) := by decide +kernel
theorem dX6_moves_39 : decode cX6_moves 39 = .ok (.getfield 23, 3) := by decide +kernel
theorem dX6_moves_42 : decode cX6_moves 42 = .ok (.iload_n 1, 1) := by decide +kernel
theorem dX6_moves_43 : decode cX6_moves 43 = .ok (.iaload, 1) := by decide +kernel
theorem dX6_moves_44 : decode cX6_moves 44 = .ok (.invokevirtual 190, 3) := by decide +kernel
theorem dX6_moves_47 : decode cX6_moves 47 = .ok (.iload_n 2, 1) := by decide +kernel
theorem dX6_moves_48 : decode cX6_moves 48 = .ok (.invokestatic 165, 3) := by decide +kernel
theorem dX6_moves_51 : decode cX6_moves 51 = .ok (.ifCond .eq 17, 3) := by decide +kernel
theorem dX6_moves_54 : decode cX6_moves 54 = .ok (.aload_n 0, 1) := by decide +kernel
theorem dX6_moves_55 : decode cX6_moves 55 = .ok (.iload_n 2, 1) := by decide +kernel
theorem dX6_moves_56 : decode cX6_moves 56 = .ok (.aload_n 0, 1) := by decide +kernel
theorem dX6_moves_57 : decode cX6_moves 57 = .ok (.getfield 26, 3) := by decide +kernel
theorem dX6_moves_60 : decode cX6_moves 60 = .ok (.iload_n 1, 1) := by decide +kernel
theorem dX6_moves_61 : decode cX6_moves 61 = .ok (.iaload, 1) := by decide +kernel
theorem dX6_moves_62 : decode cX6_moves 62 = .ok (.invokevirtual 208, 3) := by decide +kernel
theorem dX6_moves_65 : decode cX6_moves 65 = .ok (.ifCond .ne 6, 3) := by decide +kernel
theorem dX6_moves_68 : decode cX6_moves 68 = .ok (.bipush (-2), 2) := by decide +kernel
theorem dX6_moves_70 : decode cX6_moves 70 = .ok (.ireturn, 1) := by decide +kernel
theorem dX6_moves_71 : decode cX6_moves 71 = .ok (.aload_n 0, 1) := by decide +kernel
theorem dX6_moves_72 : decode cX6_moves 72 = .ok (.invokevirtual 211, 3) := by decide +kernel
theorem dX6_moves_75 : decode cX6_moves 75 = .ok (.aload_n 0, 1) := by decide +kernel
theorem dX6_moves_76 : decode cX6_moves 76 = .ok (.aload_n 0, 1) := by decide +kernel
theorem dX6_moves_77 : decode cX6_moves 77 = .ok (.getfield 32, 3) := by decide +kernel
theorem dX6_moves_80 : decode cX6_moves 80 = .ok (.iload_n 1, 1) := by decide +kernel
theorem dX6_moves_81 : decode cX6_moves 81 = .ok (.iaload, 1) := by decide +kernel
theorem dX6_moves_82 : decode cX6_moves 82 = .ok (.iload_n 2, 1) := by decide +kernel
theorem dX6_moves_83 : decode cX6_moves 83 = .ok (.aload_n 0, 1) := by decide +kernel
theorem dX6_moves_84 : decode cX6_moves 84 = .ok (.getfield 23, 3) := by decide +kernel
theorem dX6_moves_87 : decode cX6_moves 87 = .ok (.iload_n 1, 1) := by decide +kernel
theorem dX6_moves_88 : decode cX6_moves 88 = .ok (.iaload, 1) := by decide +kernel
theorem dX6_moves_89 : decode cX6_moves 89 = .ok (.invokevirtual 214, 3) := by decide +kernel
theorem dX6_moves_92 : decode cX6_moves 92 = .ok (.istore_n 3, 1) := by decide +kernel
theorem dX6_moves_93 : decode cX6_moves 93 = .ok (.aload_n 0, 1) := by decide +kernel
theorem dX6_moves_94 : decode cX6_moves 94 = .ok (.getfield 32, 3) := by decide +kernel
theorem dX6_moves_97 : decode cX6_moves 97 = .ok (.bipush 6, 2) := by decide +kernel
theorem dX6_moves_99 : decode cX6_moves 99 = .ok (.dup2, 1) := by decide +kernel
theorem dX6_moves_100 : decode cX6_moves 100 = .ok (.iaload, 1) := by decide +kernel
theorem dX6_moves_101 : decode cX6_moves 101 = .ok (.iload_n 3, 1) := by decide +kernel
theorem dX6_moves_102 : decode cX6_moves 102 = .ok (.iadd, 1) := by decide +kernel
theorem dX6_moves_103 : decode cX6_moves 103 = .ok (.iastore, 1) := by decide +kernel
theorem dX6_moves_104 : decode cX6_moves 104 = .ok (.aload_n 0, 1) := by decide +kernel
theorem dX6_moves_105 : decode cX6_moves 105 = .ok (.getfield 32, 3) := by decide +kernel
theorem dX6_moves_108 : decode cX6_moves 108 = .ok (.iload_n 1, 1) := by decide +kernel
theorem dX6_moves_109 : decode cX6_moves 109 = .ok (.iload_n 2, 1) := by decide +kernel
theorem dX6_moves_110 : decode cX6_moves 110 = .ok (.iastore, 1) := by decide +kernel
theorem dX6_moves_111 : decode cX6_moves 111 = .ok (.iload_n 3, 1) := by decide +kernel
theorem dX6_moves_112 : decode cX6_moves 112 = .ok (.ireturn, 1) := by decide +kernel
theorem dX6_through_0 : decode cX6_through 0 = .ok (.aload_n 0, 1) := by decide +kernel
theorem dX6_through_1 : decode cX6_through 1 = .ok (.getfield 13, 3) := by decide +kernel
theorem dX6_through_4 : decode cX6_through 4 = .ok (.bipush 8, 2) := by decide +kernel
theorem dX6_through_6 : decode cX6_through 6 = .ok (.iload_n 1, 1) := by decide +kernel
theorem dX6_through_7 : decode cX6_through 7 = .ok (.imul, 1) := by decide +kernel
theorem dX6_through_8 : decode cX6_through 8 = .ok (.bipush 6, 2) := by decide +kernel
theorem dX6_through_10 : decode cX6_through 10 = .ok (.iadd, 1) := by decide +kernel
theorem dX6_through_11 : decode cX6_through 11 = .ok (.iaload, 1) := by decide +kernel
theorem dX6_through_12 : decode cX6_through 12 = .ok (.istore_n 3, 1) := by decide +kernel
theorem dX6_through_13 : decode cX6_through 13 = .ok (.iload_n 3, 1) := by decide +kernel
theorem dX6_through_14 : decode cX6_through 14 = .ok (.ifCond .lt 36, 3) := by decide +kernel
theorem dX6_through_17 : decode cX6_through 17 = .ok (.iload_n 2, 1) := by decide +kernel
theorem dX6_through_18 : decode cX6_through 18 = .ok (.aload_n 0, 1) := by decide +kernel
theorem dX6_through_19 : decode cX6_through 19 = .ok (.getfield 13, 3) := by decide +kernel
theorem dX6_through_22 : decode cX6_through 22 = .ok (.bipush 8, 2) := by decide +kernel
theorem dX6_through_24 : decode cX6_through 24 = .ok (.iload_n 1, 1) := by decide +kernel
theorem dX6_through_25 : decode cX6_through 25 = .ok (.imul, 1) := by decide +kernel
theorem dX6_through_26 : decode cX6_through 26 = .ok (.bipush 7, 2) := by decide +kernel
theorem dX6_through_28 : decode cX6_through 28 = .ok (.iadd, 1) := by decide +kernel
theorem dX6_through_29 : decode cX6_through 29 = .ok (.iaload, 1) := by decide +kernel
theorem dX6_through_30 : decode cX6_through 30 = .ok (.if_icmp .gt 20, 3) := by decide +kernel
theorem dX6_through_33 : decode cX6_through 33 = .ok (.iload_n 2, 1) := by decide +kernel
theorem dX6_through_34 : decode cX6_through 34 = .ok (.aload_n 0, 1) := by decide +kernel
theorem dX6_through_35 : decode cX6_through 35 = .ok (.getfield 13, 3) := by decide +kernel
theorem dX6_through_38 : decode cX6_through 38 = .ok (.bipush 8, 2) := by decide +kernel
theorem dX6_through_40 : decode cX6_through 40 = .ok (.iload_n 3, 1) := by decide +kernel
theorem dX6_through_41 : decode cX6_through 41 = .ok (.imul, 1) := by decide +kernel
theorem dX6_through_42 : decode cX6_through 42 = .ok (.iaload, 1) := by decide +kernel
theorem dX6_through_43 : decode cX6_through 43 = .ok (.if_icmp .gt 7, 3) := by decide +kernel
theorem dX6_through_46 : decode cX6_through 46 = .ok (.iload_n 3, 1) := by decide +kernel
theorem dX6_through_47 : decode cX6_through 47 = .ok (.goto 4, 3) := by decide +kernel
theorem dX6_through_50 : decode cX6_through 50 = .ok (.iload_n 1, 1) := by decide +kernel
theorem dX6_through_51 : decode cX6_through 51 = .ok (.ireturn, 1) := by decide +kernel
theorem dX6_night_0 : decode cX6_night 0 = .ok (.aload_n 0, 1) := by decide +kernel
theorem dX6_night_1 : decode cX6_night 1 = .ok (.getfield 32, 3) := by decide +kernel
theorem dX6_night_4 : decode cX6_night 4 = .ok (.bipush 7, 2) := by decide +kernel
theorem dX6_night_6 : decode cX6_night 6 = .ok (.iaload, 1) := by decide +kernel
theorem dX6_night_7 : decode cX6_night 7 = .ok (.sipush 999, 3) := by decide +kernel
theorem dX6_night_10 : decode cX6_night 10 = .ok (.if_icmp .ne 6, 3) := by decide +kernel
theorem dX6_night_13 : decode cX6_night 13 = .ok (.bipush (-2), 2) := by decide +kernel
theorem dX6_night_15 : decode cX6_night 15 = .ok (.ireturn, 1) := by decide +kernel
theorem dX6_night_16 : decode cX6_night 16 = .ok (.aload_n 0, 1) := by decide +kernel
theorem dX6_night_17 : decode cX6_night 17 = .ok (.invokevirtual 211, 3) := by decide +kernel
theorem dX6_night_20 : decode cX6_night 20 = .ok (.iconst 0, 1) := by decide +kernel
theorem dX6_night_21 : decode cX6_night 21 = .ok (.istore_n 1, 1) := by decide +kernel
theorem dX6_night_22 : decode cX6_night 22 = .ok (.iconst 0, 1) := by decide +kernel
theorem dX6_night_23 : decode cX6_night 23 = .ok (.istore_n 2, 1) := by decide +kernel
theorem dX6_night_24 : decode cX6_night 24 = .ok (.iload_n 2, 1) := by decide +kernel
theorem dX6_night_25 : decode cX6_night 25 = .ok (.aload_n 0, 1) := by decide +kernel
theorem dX6_night_26 : decode cX6_night 26 = .ok (.getfield 86, 3) := by decide +kernel
theorem dX6_night_29 : decode cX6_night 29 = .ok (.if_icmp .ge 60, 3) := by decide +kernel
theorem dX6_night_32 : decode cX6_night 32 = .ok (.aload_n 0, 1) := by decide +kernel
theorem dX6_night_33 : decode cX6_night 33 = .ok (.aload_n 0, 1) := by decide +kernel
theorem dX6_night_34 : decode cX6_night 34 = .ok (.getfield 32, 3) := by decide +kernel
theorem dX6_night_37 : decode cX6_night 37 = .ok (.iload_n 2, 1) := by decide +kernel
theorem dX6_night_38 : decode cX6_night 38 = .ok (.iaload, 1) := by decide +kernel
theorem dX6_night_39 : decode cX6_night 39 = .ok (.aload_n 0, 1) := by decide +kernel
theorem dX6_night_40 : decode cX6_night 40 = .ok (.getfield 26, 3) := by decide +kernel
theorem dX6_night_43 : decode cX6_night 43 = .ok (.iload_n 2, 1) := by decide +kernel
theorem dX6_night_44 : decode cX6_night 44 = .ok (.iaload, 1) := by decide +kernel
theorem dX6_night_45 : decode cX6_night 45 = .ok (.invokevirtual 218, 3) := by decide +kernel
theorem dX6_night_48 : decode cX6_night 48 = .ok (.istore_n 3, 1) := by decide +kernel
theorem dX6_night_49 : decode cX6_night 49 = .ok (.iload_n 3, 1) := by decide +kernel
theorem dX6_night_50 : decode cX6_night 50 = .ok (.aload_n 0, 1) := by decide +kernel
theorem dX6_night_51 : decode cX6_night 51 = .ok (.getfield 32, 3) := by decide +kernel
theorem dX6_night_54 : decode cX6_night 54 = .ok (.iload_n 2, 1) := by decide +kernel
theorem dX6_night_55 : decode cX6_night 55 = .ok (.iaload, 1) := by decide +kernel
theorem dX6_night_56 : decode cX6_night 56 = .ok (.if_icmp .eq 27, 3) := by decide +kernel
theorem dX6_night_59 : decode cX6_night 59 = .ok (.aload_n 0, 1) := by decide +kernel
theorem dX6_night_60 : decode cX6_night 60 = .ok (.iload_n 3, 1) := by decide +kernel
theorem dX6_night_61 : decode cX6_night 61 = .ok (.aload_n 0, 1) := by decide +kernel
theorem dX6_night_62 : decode cX6_night 62 = .ok (.getfield 26, 3) := by decide +kernel
theorem dX6_night_65 : decode cX6_night 65 = .ok (.iload_n 2, 1) := by decide +kernel
theorem dX6_night_66 : decode cX6_night 66 = .ok (.iaload, 1) := by decide +kernel
theorem dX6_night_67 : decode cX6_night 67 = .ok (.invokevirtual 208, 3) := by decide +kernel
theorem dX6_night_70 : decode cX6_night 70 = .ok (.ifCond .eq 13, 3) := by decide +kernel
theorem dX6_night_73 : decode cX6_night 73 = .ok (.aload_n 0, 1) := by decide +kernel
theorem dX6_night_74 : decode cX6_night 74 = .ok (.getfield 32, 3) := by decide +kernel
theorem dX6_night_77 : decode cX6_night 77 = .ok (.iload_n 2, 1) := by decide +kernel
theorem dX6_night_78 : decode cX6_night 78 = .ok (.iload_n 3, 1) := by decide +kernel
theorem dX6_night_79 : decode cX6_night 79 = .ok (.iastore, 1) := by decide +kernel
theorem dX6_night_80 : decode cX6_night 80 = .ok (.iinc 1 1, 3) := by decide +kernel
theorem dX6_night_83 : decode cX6_night 83 = .ok (.iinc 2 1, 3) := by decide +kernel
theorem dX6_night_86 : decode cX6_night 86 = .ok (.goto (-62), 3) := by decide +kernel
theorem dX6_night_89 : decode cX6_night 89 = .ok (.aload_n 0, 1) := by decide +kernel
theorem dX6_night_90 : decode cX6_night 90 = .ok (.getfield 32, 3) := by decide +kernel
theorem dX6_night_93 : decode cX6_night 93 = .ok (.bipush 7, 2) := by decide +kernel
theorem dX6_night_95 : decode cX6_night 95 = .ok (.dup2, 1) := by decide +kernel
theorem dX6_night_96 : decode cX6_night 96 = .ok (.iaload, 1) := by decide +kernel
theorem dX6_night_97 : decode cX6_night 97 = .ok (.iconst 1, 1) := by decide +kernel
theorem dX6_night_98 : decode cX6_night 98 = .ok (.iadd, 1) := by decide +kernel
theorem dX6_night_99 : decode cX6_night 99 = .ok (.iastore, 1) := by decide +kernel
theorem dX6_night_100 : decode cX6_night 100 = .ok (.iload_n 1, 1) := by decide +kernel
theorem dX6_night_101 : decode cX6_night 101 = .ok (.ireturn, 1) := by decide +kernel
theorem dX6_undo_0 : decode cX6_undo 0 = .ok (.aload_n 0, 1) := by decide +kernel
theorem dX6_undo_1 : decode cX6_undo 1 = .ok (.getfield 162, 3) := by decide +kernel
theorem dX6_undo_4 : decode cX6_undo 4 = .ok (.ifCond .ne 6, 3) := by decide +kernel
theorem dX6_undo_7 : decode cX6_undo 7 = .ok (.bipush (-2), 2) := by decide +kernel
theorem dX6_undo_9 : decode cX6_undo 9 = .ok (.ireturn, 1) := by decide +kernel
theorem dX6_undo_10 : decode cX6_undo 10 = .ok (.aload_n 0, 1) := by decide +kernel
theorem dX6_undo_11 : decode cX6_undo 11 = .ok (.dup, 1) := by decide +kernel
theorem dX6_undo_12 : decode cX6_undo 12 = .ok (.getfield 162, 3) := by decide +kernel
theorem dX6_undo_15 : decode cX6_undo 15 = .ok (.iconst 1, 1) := by decide +kernel
theorem dX6_undo_16 : decode cX6_undo 16 = .ok (.isub, 1) := by decide +kernel
theorem dX6_undo_17 : decode cX6_undo 17 = .ok (.putfield 162, 3) := by decide +kernel
theorem dX6_undo_20 : decode cX6_undo 20 = .ok (.iconst 0, 1) := by decide +kernel
theorem dX6_undo_21 : decode cX6_undo 21 = .ok (.istore_n 1, 1) := by decide +kernel
theorem dX6_undo_22 : decode cX6_undo 22 = .ok (.iload_n 1, 1) := by decide +kernel
theorem dX6_undo_23 : decode cX6_undo 23 = .ok (.bipush 8, 2) := by decide +kernel
theorem dX6_undo_25 : decode cX6_undo 25 = .ok (.if_icmp .ge 29, 3) := by decide +kernel
theorem dX6_undo_28 : decode cX6_undo 28 = .ok (.aload_n 0, 1) := by decide +kernel
theorem dX6_undo_29 : decode cX6_undo 29 = .ok (.getfield 32, 3) := by decide +kernel
theorem dX6_undo_32 : decode cX6_undo 32 = .ok (.iload_n 1, 1) := by decide +kernel
theorem dX6_undo_33 : decode cX6_undo 33 = .ok (.aload_n 0, 1) := by decide +kernel
theorem dX6_undo_34 : decode cX6_undo 34 = .ok (.getfield 35, 3) := by decide +kernel
theorem dX6_undo_37 : decode cX6_undo 37 = .ok (.bipush 8, 2) := by decide +kernel
theorem dX6_undo_39 : decode cX6_undo 39 = .ok (.aload_n 0, 1) := by decide +kernel
theorem dX6_undo_40 : decode cX6_undo 40 = .ok (.getfield 162, 3) := by decide +kernel
theorem dX6_undo_43 : decode cX6_undo 43 = .ok (.imul, 1) := by decide +kernel
theorem dX6_undo_44 : decode cX6_undo 44 = .ok (.iload_n 1, 1) := by decide +kernel
theorem dX6_undo_45 : decode cX6_undo 45 = .ok (.iadd, 1) := by decide +kernel
theorem dX6_undo_46 : decode cX6_undo 46 = .ok (.iaload, 1) := by decide +kernel
theorem dX6_undo_47 : decode cX6_undo 47 = .ok (.iastore, 1) := by decide +kernel
theorem dX6_undo_48 : decode cX6_undo 48 = .ok (.iinc 1 1, 3) := by decide +kernel
theorem dX6_undo_51 : decode cX6_undo 51 = .ok (.goto (-29), 3) := by decide +kernel
theorem dX6_undo_54 : decode cX6_undo 54 = .ok (.aload_n 0, 1) := by decide +kernel
theorem dX6_undo_55 : decode cX6_undo 55 = .ok (.getfield 162, 3) := by decide +kernel
theorem dX6_undo_58 : decode cX6_undo 58 = .ok (.ireturn, 1) := by decide +kernel
theorem dX6_farOf_0 : decode cX6_farOf 0 = .ok (.aload_n 0, 1) := by decide +kernel
theorem dX6_farOf_1 : decode cX6_farOf 1 = .ok (.aload_n 0, 1) := by decide +kernel
theorem dX6_farOf_2 : decode cX6_farOf 2 = .ok (.getfield 23, 3) := by decide +kernel
theorem dX6_farOf_5 : decode cX6_farOf 5 = .ok (.iload_n 1, 1) := by decide +kernel
theorem dX6_farOf_6 : decode cX6_farOf 6 = .ok (.iaload, 1) := by decide +kernel
theorem dX6_farOf_7 : decode cX6_farOf 7 = .ok (.invokevirtual 190, 3) := by decide +kernel
theorem dX6_farOf_10 : decode cX6_farOf 10 = .ok (.istore 4, 2) := by decide +kernel
theorem dX6_farOf_12 : decode cX6_farOf 12 = .ok (.iconst 0, 1) := by decide +kernel
theorem dX6_farOf_13 : decode cX6_farOf 13 = .ok (.istore 5, 2) := by decide +kernel
theorem dX6_farOf_15 : decode cX6_farOf 15 = .ok (.iload 5, 2) := by decide +kernel
theorem dX6_farOf_17 : decode cX6_farOf 17 = .ok (.bipush 6, 2) := by decide +kernel
theorem dX6_farOf_19 : decode cX6_farOf 19 = .ok (.if_icmp .ge 33, 3) := by decide +kernel
theorem dX6_farOf_22 : decode cX6_farOf 22 = .ok (.aload_n 0, 1) := by decide +kernel
theorem dX6_farOf_23 : decode cX6_farOf 23 = .ok (.getfield 53, 3) := by decide +kernel
theorem dX6_farOf_26 : decode cX6_farOf 26 = .ok (.iload 5, 2) := by decide +kernel
theorem dX6_farOf_28 : decode cX6_farOf 28 = .ok (.iload 5, 2) := by decide +kernel
theorem dX6_farOf_30 : decode cX6_farOf 30 = .ok (.aload_n 0, 1) := by decide +kernel
theorem dX6_farOf_31 : decode cX6_farOf 31 = .ok (.getfield 32, 3) := by decide +kernel
theorem dX6_farOf_34 : decode cX6_farOf 34 = .ok (.iload_n 1, 1) := by decide +kernel
theorem dX6_farOf_35 : decode cX6_farOf 35 = .ok (.iaload, 1) := by decide +kernel
theorem dX6_farOf_36 : decode cX6_farOf 36 = .ok (.if_icmp .ne 7, 3) := by decide +kernel
theorem dX6_farOf_39 : decode cX6_farOf 39 = .ok (.iconst 0, 1) := by decide +kernel
theorem dX6_farOf_40 : decode cX6_farOf 40 = .ok (.goto 5, 3) := by decide +kernel
theorem dX6_farOf_43 : decode cX6_farOf 43 = .ok (.ldc 222, 2) := by decide +kernel
theorem dX6_farOf_45 : decode cX6_farOf 45 = .ok (.iastore, 1) := by decide +kernel
theorem dX6_farOf_46 : decode cX6_farOf 46 = .ok (.iinc 5 1, 3) := by decide +kernel
theorem dX6_farOf_49 : decode cX6_farOf 49 = .ok (.goto (-34), 3) := by decide +kernel
theorem dX6_farOf_52 : decode cX6_farOf 52 = .ok (.iconst 0, 1) := by decide +kernel
theorem dX6_farOf_53 : decode cX6_farOf 53 = .ok (.istore 5, 2) := by decide +kernel
theorem dX6_farOf_55 : decode cX6_farOf 55 = .ok (.iload 5, 2) := by decide +kernel
theorem dX6_farOf_57 : decode cX6_farOf 57 = .ok (.bipush 6, 2) := by decide +kernel
theorem dX6_farOf_59 : decode cX6_farOf 59 = .ok (.if_icmp .ge 122, 3) := by decide +kernel
theorem dX6_farOf_62 : decode cX6_farOf 62 = .ok (.iconst 0, 1) := by decide +kernel
theorem dX6_farOf_63 : decode cX6_farOf 63 = .ok (.istore 6, 2) := by decide +kernel
theorem dX6_farOf_65 : decode cX6_farOf 65 = .ok (.iload 6, 2) := by decide +kernel
theorem dX6_farOf_67 : decode cX6_farOf 67 = .ok (.bipush 36, 2) := by decide +kernel
theorem dX6_farOf_69 : decode cX6_farOf 69 = .ok (.if_icmp .ge 106, 3) := by decide +kernel
theorem dX6_farOf_72 : decode cX6_farOf 72 = .ok (.iload 6, 2) := by decide +kernel
theorem dX6_farOf_74 : decode cX6_farOf 74 = .ok (.bipush 6, 2) := by decide +kernel
theorem dX6_farOf_76 : decode cX6_farOf 76 = .ok (.idiv, 1) := by decide +kernel
theorem dX6_farOf_77 : decode cX6_farOf 77 = .ok (.istore 7, 2) := by decide +kernel
theorem dX6_farOf_79 : decode cX6_farOf 79 = .ok (.iload 6, 2) := by decide +kernel
theorem dX6_farOf_81 : decode cX6_farOf 81 = .ok (.bipush 6, 2) := by decide +kernel
theorem dX6_farOf_83 : decode cX6_farOf 83 = .ok (.irem, 1) := by decide +kernel
theorem dX6_farOf_84 : decode cX6_farOf 84 = .ok (.istore 8, 2) := by decide +kernel
theorem dX6_farOf_86 : decode cX6_farOf 86 = .ok (.aload_n 0, 1) := by decide +kernel
theorem dX6_farOf_87 : decode cX6_farOf 87 = .ok (.getfield 16, 3) := by decide +kernel
theorem dX6_farOf_90 : decode cX6_farOf 90 = .ok (.iload 6, 2) := by decide +kernel
theorem dX6_farOf_92 : decode cX6_farOf 92 = .ok (.baload, 1) := by decide +kernel
theorem dX6_farOf_93 : decode cX6_farOf 93 = .ok (.ifCond .eq 76, 3) := by decide +kernel
theorem dX6_farOf_96 : decode cX6_farOf 96 = .ok (.iload 4, 2) := by decide +kernel
theorem dX6_farOf_98 : decode cX6_farOf 98 = .ok (.iload 8, 2) := by decide +kernel
theorem dX6_farOf_100 : decode cX6_farOf 100 = .ok (.invokestatic 165, 3) := by decide +kernel
theorem dX6_farOf_103 : decode cX6_farOf 103 = .ok (.ifCond .eq 66, 3) := by decide +kernel
theorem dX6_farOf_106 : decode cX6_farOf 106 = .ok (.aload_n 0, 1) := by decide +kernel
theorem dX6_farOf_107 : decode cX6_farOf 107 = .ok (.getfield 53, 3) := by decide +kernel
theorem dX6_farOf_110 : decode cX6_farOf 110 = .ok (.iload 7, 2) := by decide +kernel
theorem dX6_farOf_112 : decode cX6_farOf 112 = .ok (.iaload, 1) := by decide +kernel
theorem dX6_farOf_113 : decode cX6_farOf 113 = .ok (.iload_n 3, 1) := by decide +kernel
theorem dX6_farOf_114 : decode cX6_farOf 114 = .ok (.ifCond .eq 20, 3) := by decide +kernel
theorem dX6_farOf_117 : decode cX6_farOf 117 = .ok (.aload_n 0, 1) := by decide +kernel
theorem dX6_farOf_118 : decode cX6_farOf 118 = .ok (.iload 7, 2) := by decide +kernel
theorem dX6_farOf_120 : decode cX6_farOf 120 = .ok (.iload 8, 2) := by decide +kernel
theorem dX6_farOf_122 : decode cX6_farOf 122 = .ok (.aload_n 0, 1) := by decide +kernel
theorem dX6_farOf_123 : decode cX6_farOf 123 = .ok (.getfield 23, 3) := by decide +kernel
theorem dX6_farOf_126 : decode cX6_farOf 126 = .ok (.iload_n 1, 1) := by decide +kernel
theorem dX6_farOf_127 : decode cX6_farOf 127 = .ok (.iaload, 1) := by decide +kernel
theorem dX6_farOf_128 : decode cX6_farOf 128 = .ok (.invokevirtual 214, 3) := by decide +kernel
theorem dX6_farOf_131 : decode cX6_farOf 131 = .ok (.goto 4, 3) := by decide +kernel
theorem dX6_farOf_134 : decode cX6_farOf 134 = .ok (.iconst 1, 1) := by decide +kernel
theorem dX6_farOf_135 : decode cX6_farOf 135 = .ok (.iadd, 1) := by decide +kernel
theorem dX6_farOf_136 : decode cX6_farOf 136 = .ok (.istore 9, 2) := by decide +kernel
theorem dX6_farOf_138 : decode cX6_farOf 138 = .ok (.aload_n 0, 1) := by decide +kernel
theorem dX6_farOf_139 : decode cX6_farOf 139 = .ok (.getfield 53, 3) := by decide +kernel
theorem dX6_farOf_142 : decode cX6_farOf 142 = .ok (.iload 8, 2) := by decide +kernel
theorem dX6_farOf_144 : decode cX6_farOf 144 = .ok (.iload 9, 2) := by decide +kernel
theorem dX6_farOf_146 : decode cX6_farOf 146 = .ok (.aload_n 0, 1) := by decide +kernel
theorem dX6_farOf_147 : decode cX6_farOf 147 = .ok (.getfield 53, 3) := by decide +kernel
theorem dX6_farOf_150 : decode cX6_farOf 150 = .ok (.iload 8, 2) := by decide +kernel
theorem dX6_farOf_152 : decode cX6_farOf 152 = .ok (.iaload, 1) := by decide +kernel
theorem dX6_farOf_153 : decode cX6_farOf 153 = .ok (.if_icmp .ge 8, 3) := by decide +kernel
theorem dX6_farOf_156 : decode cX6_farOf 156 = .ok (.iload 9, 2) := by decide +kernel
theorem dX6_farOf_158 : decode cX6_farOf 158 = .ok (.goto 10, 3) := by decide +kernel
theorem dX6_farOf_161 : decode cX6_farOf 161 = .ok (.aload_n 0, 1) := by decide +kernel
theorem dX6_farOf_162 : decode cX6_farOf 162 = .ok (.getfield 53, 3) := by decide +kernel
theorem dX6_farOf_165 : decode cX6_farOf 165 = .ok (.iload 8, 2) := by decide +kernel
theorem dX6_farOf_167 : decode cX6_farOf 167 = .ok (.iaload, 1) := by decide +kernel
theorem dX6_farOf_168 : decode cX6_farOf 168 = .ok (.iastore, 1) := by decide +kernel
theorem dX6_farOf_169 : decode cX6_farOf 169 = .ok (.iinc 6 1, 3) := by decide +kernel
theorem dX6_farOf_172 : decode cX6_farOf 172 = .ok (.goto (-107), 3) := by decide +kernel
theorem dX6_farOf_175 : decode cX6_farOf 175 = .ok (.iinc 5 1, 3) := by decide +kernel
theorem dX6_farOf_178 : decode cX6_farOf 178 = .ok (.goto (-123), 3) := by decide +kernel
theorem dX6_farOf_181 : decode cX6_farOf 181 = .ok (.aload_n 0, 1) := by decide +kernel
theorem dX6_farOf_182 : decode cX6_farOf 182 = .ok (.getfield 53, 3) := by decide +kernel
theorem dX6_farOf_185 : decode cX6_farOf 185 = .ok (.iload_n 2, 1) := by decide +kernel
theorem dX6_farOf_186 : decode cX6_farOf 186 = .ok (.iaload, 1) := by decide +kernel
theorem dX6_farOf_187 : decode cX6_farOf 187 = .ok (.ireturn, 1) := by decide +kernel
theorem dX6_way_0 : decode cX6_way 0 = .ok (.aload_n 0, 1) := by decide +kernel
theorem dX6_way_1 : decode cX6_way 1 = .ok (.iload_n 1, 1) := by decide +kernel
theorem dX6_way_2 : decode cX6_way 2 = .ok (.invokevirtual 193, 3) := by decide +kernel
theorem dX6_way_5 : decode cX6_way 5 = .ok (.ifCond .eq 21, 3) := by decide +kernel
theorem dX6_way_8 : decode cX6_way 8 = .ok (.aload_n 0, 1) := by decide +kernel
theorem dX6_way_9 : decode cX6_way 9 = .ok (.iload_n 2, 1) := by decide +kernel
theorem dX6_way_10 : decode cX6_way 10 = .ok (.invokevirtual 178, 3) := by decide +kernel
theorem dX6_way_13 : decode cX6_way 13 = .ok (.ifCond .eq 13, 3) := by decide +kernel
theorem dX6_way_16 : decode cX6_way 16 = .ok (.iload_n 3, 1) := by decide +kernel
theorem dX6_way_17 : decode cX6_way 17 = .ok (.i2l, 1) := by decide +kernel
theorem dX6_way_18 : decode cX6_way 18 = .ok (.lconst 0, 1) := by decide +kernel
theorem dX6_way_19 : decode cX6_way 19 = .ok (.lconst 1, 1) := by decide +kernel
theorem dX6_way_20 : decode cX6_way 20 = .ok (.invokestatic 82, 3) := by decide +kernel
theorem dX6_way_23 : decode cX6_way 23 = .ok (.ifCond .ne 5, 3) := by decide +kernel
theorem dX6_way_26 : decode cX6_way 26 = .ok (.iconst (-1), 1) := by decide +kernel
theorem dX6_way_27 : decode cX6_way 27 = .ok (.ireturn, 1) := by decide +kernel
theorem dX6_way_28 : decode cX6_way 28 = .ok (.aload_n 0, 1) := by decide +kernel
theorem dX6_way_29 : decode cX6_way 29 = .ok (.iload_n 1, 1) := by decide +kernel
theorem dX6_way_30 : decode cX6_way 30 = .ok (.iload_n 2, 1) := by decide +kernel
theorem dX6_way_31 : decode cX6_way 31 = .ok (.iload_n 3, 1) := by decide +kernel
theorem dX6_way_32 : decode cX6_way 32 = .ok (.iconst 1, 1) := by decide +kernel
theorem dX6_way_33 : decode cX6_way 33 = .ok (.if_icmp .ne 7, 3) := by decide +kernel
theorem dX6_way_36 : decode cX6_way 36 = .ok (.iconst 1, 1) := by decide +kernel
theorem dX6_way_37 : decode cX6_way 37 = .ok (.goto 4, 3) := by decide +kernel
theorem dX6_way_40 : decode cX6_way 40 = .ok (.iconst 0, 1) := by decide +kernel
theorem dX6_way_41 : decode cX6_way 41 = .ok (.invokevirtual 223, 3) := by decide +kernel
theorem dX6_way_44 : decode cX6_way 44 = .ok (.istore 4, 2) := by decide +kernel
theorem dX6_way_46 : decode cX6_way 46 = .ok (.iload 4, 2) := by decide +kernel
theorem dX6_way_48 : decode cX6_way 48 = .ok (.ldc 222, 2) := by decide +kernel
theorem dX6_way_50 : decode cX6_way 50 = .ok (.if_icmp .ge 8, 3) := by decide +kernel
theorem dX6_way_53 : decode cX6_way 53 = .ok (.iload 4, 2) := by decide +kernel
theorem dX6_way_55 : decode cX6_way 55 = .ok (.goto 5, 3) := by decide +kernel
theorem dX6_way_58 : decode cX6_way 58 = .ok (.bipush (-9), 2) := by decide +kernel
theorem dX6_way_60 : decode cX6_way 60 = .ok (.ireturn, 1) := by decide +kernel
theorem dX6_saves_0 : decode cX6_saves 0 = .ok (.aload_n 0, 1) := by decide +kernel
theorem dX6_saves_1 : decode cX6_saves 1 = .ok (.iload_n 1, 1) := by decide +kernel
theorem dX6_saves_2 : decode cX6_saves 2 = .ok (.invokevirtual 193, 3) := by decide +kernel
theorem dX6_saves_5 : decode cX6_saves 5 = .ok (.ifCond .eq 11, 3) := by decide +kernel
theorem dX6_saves_8 : decode cX6_saves 8 = .ok (.aload_n 0, 1) := by decide +kernel
theorem dX6_saves_9 : decode cX6_saves 9 = .ok (.iload_n 2, 1) := by decide +kernel
theorem dX6_saves_10 : decode cX6_saves 10 = .ok (.invokevirtual 178, 3) := by decide +kernel
theorem dX6_saves_13 : decode cX6_saves 13 = .ok (.ifCond .ne 5, 3) := by decide +kernel
theorem dX6_saves_16 : decode cX6_saves 16 = .ok (.iconst (-1), 1) := by decide +kernel
theorem dX6_saves_17 : decode cX6_saves 17 = .ok (.ireturn, 1) := by decide +kernel
theorem dX6_saves_18 : decode cX6_saves 18 = .ok (.aload_n 0, 1) := by decide +kernel
theorem dX6_saves_19 : decode cX6_saves 19 = .ok (.iload_n 1, 1) := by decide +kernel
theorem dX6_saves_20 : decode cX6_saves 20 = .ok (.iload_n 2, 1) := by decide +kernel
theorem dX6_saves_21 : decode cX6_saves 21 = .ok (.iconst 1, 1) := by decide +kernel
theorem dX6_saves_22 : decode cX6_saves 22 = .ok (.invokevirtual 223, 3) := by decide +kernel
theorem dX6_saves_25 : decode cX6_saves 25 = .ok (.istore_n 3, 1) := by decide +kernel
theorem dX6_saves_26 : decode cX6_saves 26 = .ok (.bipush (-9), 2) := by decide +kernel
theorem dX6_saves_28 : decode cX6_saves 28 = .ok (.istore 4, 2) := by decide +kernel
theorem dX6_saves_30 : decode cX6_saves 30 = .ok (.iconst 1, 1) := by decide +kernel
theorem dX6_saves_31 : decode cX6_saves 31 = .ok (.aload_n 0, 1) := by decide +kernel
theorem dX6_saves_32 : decode cX6_saves 32 = .ok (.getfield 23, 3) := by decide +kernel
theorem dX6_saves_35 : decode cX6_saves 35 = .ok (.iload_n 1, 1) := by decide +kernel
theorem dX6_saves_36 : decode cX6_saves 36 = .ok (.iaload, 1) := by decide +kernel
theorem dX6_saves_37 : decode cX6_saves 37 = .ok (.ishl, 1) := by decide +kernel
theorem dX6_saves_38 : decode cX6_saves 38 = .ok (.istore 5, 2) := by decide +kernel
theorem dX6_saves_40 : decode cX6_saves 40 = .ok (.iconst 0, 1) := by decide +kernel
theorem dX6_saves_41 : decode cX6_saves 41 = .ok (.istore 6, 2) := by decide +kernel
theorem dX6_saves_43 : decode cX6_saves 43 = .ok (.iload 6, 2) := by decide +kernel
theorem dX6_saves_45 : decode cX6_saves 45 = .ok (.bipush 36, 2) := by decide +kernel
theorem dX6_saves_47 : decode cX6_saves 47 = .ok (.if_icmp .ge 172, 3) := by decide +kernel
theorem dX6_saves_50 : decode cX6_saves 50 = .ok (.iload 6, 2) := by decide +kernel
theorem dX6_saves_52 : decode cX6_saves 52 = .ok (.bipush 6, 2) := by decide +kernel
theorem dX6_saves_54 : decode cX6_saves 54 = .ok (.irem, 1) := by decide +kernel
theorem dX6_saves_55 : decode cX6_saves 55 = .ok (.bipush 6, 2) := by decide +kernel
theorem dX6_saves_57 : decode cX6_saves 57 = .ok (.imul, 1) := by decide +kernel
theorem dX6_saves_58 : decode cX6_saves 58 = .ok (.iload 6, 2) := by decide +kernel
theorem dX6_saves_60 : decode cX6_saves 60 = .ok (.bipush 6, 2) := by decide +kernel
theorem dX6_saves_62 : decode cX6_saves 62 = .ok (.idiv, 1) := by decide +kernel
theorem dX6_saves_63 : decode cX6_saves 63 = .ok (.iadd, 1) := by decide +kernel
theorem dX6_saves_64 : decode cX6_saves 64 = .ok (.istore 7, 2) := by decide +kernel
theorem dX6_saves_66 : decode cX6_saves 66 = .ok (.iload 6, 2) := by decide +kernel
theorem dX6_saves_68 : decode cX6_saves 68 = .ok (.bipush 6, 2) := by decide +kernel
theorem dX6_saves_70 : decode cX6_saves 70 = .ok (.idiv, 1) := by decide +kernel
theorem dX6_saves_71 : decode cX6_saves 71 = .ok (.iload 6, 2) := by decide +kernel
theorem dX6_saves_73 : decode cX6_saves 73 = .ok (.bipush 6, 2) := by decide +kernel
theorem dX6_saves_75 : decode cX6_saves 75 = .ok (.irem, 1) := by decide +kernel
theorem dX6_saves_76 : decode cX6_saves 76 = .ok (.if_icmp .ge 137, 3) := by decide +kernel
theorem dX6_saves_79 : decode cX6_saves 79 = .ok (.aload_n 0, 1) := by decide +kernel
theorem dX6_saves_80 : decode cX6_saves 80 = .ok (.getfield 16, 3) := by decide +kernel
theorem dX6_saves_83 : decode cX6_saves 83 = .ok (.iload 6, 2) := by decide +kernel
theorem dX6_saves_85 : decode cX6_saves 85 = .ok (.baload, 1) := by decide +kernel
theorem dX6_saves_86 : decode cX6_saves 86 = .ok (.ifCond .eq 127, 3) := by decide +kernel
theorem dX6_saves_89 : decode cX6_saves 89 = .ok (.aload_n 0, 1) := by decide +kernel
theorem dX6_saves_90 : decode cX6_saves 90 = .ok (.getfield 20, 3) := by decide +kernel
theorem dX6_saves_93 : decode cX6_saves 93 = .ok (.iload 6, 2) := by decide +kernel
theorem dX6_saves_95 : decode cX6_saves 95 = .ok (.iaload, 1) := by decide +kernel
theorem dX6_saves_96 : decode cX6_saves 96 = .ok (.iload 5, 2) := by decide +kernel
theorem dX6_saves_98 : decode cX6_saves 98 = .ok (.iand, 1) := by decide +kernel
theorem dX6_saves_99 : decode cX6_saves 99 = .ok (.ifCond .ne 114, 3) := by decide +kernel
theorem dX6_saves_102 : decode cX6_saves 102 = .ok (.aload_n 0, 1) := by decide +kernel
theorem dX6_saves_103 : decode cX6_saves 103 = .ok (.getfield 20, 3) := by decide +kernel
theorem dX6_saves_106 : decode cX6_saves 106 = .ok (.iload 6, 2) := by decide +kernel
theorem dX6_saves_108 : decode cX6_saves 108 = .ok (.dup2, 1) := by decide +kernel
theorem dX6_saves_109 : decode cX6_saves 109 = .ok (.iaload, 1) := by decide +kernel
theorem dX6_saves_110 : decode cX6_saves 110 = .ok (.iload 5, 2) := by decide +kernel
theorem dX6_saves_112 : decode cX6_saves 112 = .ok (.ior, 1) := by decide +kernel
theorem dX6_saves_113 : decode cX6_saves 113 = .ok (.iastore, 1) := by decide +kernel
theorem dX6_saves_114 : decode cX6_saves 114 = .ok (.aload_n 0, 1) := by decide +kernel
theorem dX6_saves_115 : decode cX6_saves 115 = .ok (.getfield 20, 3) := by decide +kernel
theorem dX6_saves_118 : decode cX6_saves 118 = .ok (.iload 7, 2) := by decide +kernel
theorem dX6_saves_120 : decode cX6_saves 120 = .ok (.dup2, 1) := by decide +kernel
theorem dX6_saves_121 : decode cX6_saves 121 = .ok (.iaload, 1) := by decide +kernel
theorem dX6_saves_122 : decode cX6_saves 122 = .ok (.iload 5, 2) := by decide +kernel
theorem dX6_saves_124 : decode cX6_saves 124 = .ok (.ior, 1) := by decide +kernel
theorem dX6_saves_125 : decode cX6_saves 125 = .ok (.iastore, 1) := by decide +kernel
theorem dX6_saves_126 : decode cX6_saves 126 = .ok (.aload_n 0, 1) := by decide +kernel
theorem dX6_saves_127 : decode cX6_saves 127 = .ok (.iload_n 1, 1) := by decide +kernel
theorem dX6_saves_128 : decode cX6_saves 128 = .ok (.iload_n 2, 1) := by decide +kernel
theorem dX6_saves_129 : decode cX6_saves 129 = .ok (.iconst 1, 1) := by decide +kernel
theorem dX6_saves_130 : decode cX6_saves 130 = .ok (.invokevirtual 223, 3) := by decide +kernel
theorem dX6_saves_133 : decode cX6_saves 133 = .ok (.istore 8, 2) := by decide +kernel
theorem dX6_saves_135 : decode cX6_saves 135 = .ok (.aload_n 0, 1) := by decide +kernel
theorem dX6_saves_136 : decode cX6_saves 136 = .ok (.getfield 20, 3) := by decide +kernel
theorem dX6_saves_139 : decode cX6_saves 139 = .ok (.iload 6, 2) := by decide +kernel
theorem dX6_saves_141 : decode cX6_saves 141 = .ok (.dup2, 1) := by decide +kernel
theorem dX6_saves_142 : decode cX6_saves 142 = .ok (.iaload, 1) := by decide +kernel
theorem dX6_saves_143 : decode cX6_saves 143 = .ok (.iload 5, 2) := by decide +kernel
theorem dX6_saves_145 : decode cX6_saves 145 = .ok (.iconst (-1), 1) := by decide +kernel
theorem dX6_saves_146 : decode cX6_saves 146 = .ok (.ixor, 1) := by decide +kernel
theorem dX6_saves_147 : decode cX6_saves 147 = .ok (.iand, 1) := by decide +kernel
theorem dX6_saves_148 : decode cX6_saves 148 = .ok (.iastore, 1) := by decide +kernel
theorem dX6_saves_149 : decode cX6_saves 149 = .ok (.aload_n 0, 1) := by decide +kernel
theorem dX6_saves_150 : decode cX6_saves 150 = .ok (.getfield 20, 3) := by decide +kernel
theorem dX6_saves_153 : decode cX6_saves 153 = .ok (.iload 7, 2) := by decide +kernel
theorem dX6_saves_155 : decode cX6_saves 155 = .ok (.dup2, 1) := by decide +kernel
theorem dX6_saves_156 : decode cX6_saves 156 = .ok (.iaload, 1) := by decide +kernel
theorem dX6_saves_157 : decode cX6_saves 157 = .ok (.iload 5, 2) := by decide +kernel
theorem dX6_saves_159 : decode cX6_saves 159 = .ok (.iconst (-1), 1) := by decide +kernel
theorem dX6_saves_160 : decode cX6_saves 160 = .ok (.ixor, 1) := by decide +kernel
theorem dX6_saves_161 : decode cX6_saves 161 = .ok (.iand, 1) := by decide +kernel
theorem dX6_saves_162 : decode cX6_saves 162 = .ok (.iastore, 1) := by decide +kernel
theorem dX6_saves_163 : decode cX6_saves 163 = .ok (.iload 8, 2) := by decide +kernel
theorem dX6_saves_165 : decode cX6_saves 165 = .ok (.iload_n 3, 1) := by decide +kernel
theorem dX6_saves_166 : decode cX6_saves 166 = .ok (.if_icmp .ge 30, 3) := by decide +kernel
theorem dX6_saves_169 : decode cX6_saves 169 = .ok (.bipush 100, 2) := by decide +kernel
theorem dX6_saves_171 : decode cX6_saves 171 = .ok (.iload 6, 2) := by decide +kernel
theorem dX6_saves_173 : decode cX6_saves 173 = .ok (.bipush 6, 2) := by decide +kernel
theorem dX6_saves_175 : decode cX6_saves 175 = .ok (.idiv, 1) := by decide +kernel
theorem dX6_saves_176 : decode cX6_saves 176 = .ok (.imul, 1) := by decide +kernel
theorem dX6_saves_177 : decode cX6_saves 177 = .ok (.bipush 10, 2) := by decide +kernel
theorem dX6_saves_179 : decode cX6_saves 179 = .ok (.iload 6, 2) := by decide +kernel
theorem dX6_saves_181 : decode cX6_saves 181 = .ok (.bipush 6, 2) := by decide +kernel
theorem dX6_saves_183 : decode cX6_saves 183 = .ok (.irem, 1) := by decide +kernel
theorem dX6_saves_184 : decode cX6_saves 184 = .ok (.imul, 1) := by decide +kernel
theorem dX6_saves_185 : decode cX6_saves 185 = .ok (.iadd, 1) := by decide +kernel
theorem dX6_saves_186 : decode cX6_saves 186 = .ok (.aload_n 0, 1) := by decide +kernel
theorem dX6_saves_187 : decode cX6_saves 187 = .ok (.getfield 23, 3) := by decide +kernel
theorem dX6_saves_190 : decode cX6_saves 190 = .ok (.iload_n 1, 1) := by decide +kernel
theorem dX6_saves_191 : decode cX6_saves 191 = .ok (.iaload, 1) := by decide +kernel
theorem dX6_saves_192 : decode cX6_saves 192 = .ok (.iadd, 1) := by decide +kernel
theorem dX6_saves_193 : decode cX6_saves 193 = .ok (.goto 5, 3) := by decide +kernel
theorem dX6_saves_196 : decode cX6_saves 196 = .ok (.iload 4, 2) := by decide +kernel
theorem dX6_saves_198 : decode cX6_saves 198 = .ok (.istore 4, 2) := by decide +kernel
theorem dX6_saves_200 : decode cX6_saves 200 = .ok (.iload 8, 2) := by decide +kernel
theorem dX6_saves_202 : decode cX6_saves 202 = .ok (.iload_n 3, 1) := by decide +kernel
theorem dX6_saves_203 : decode cX6_saves 203 = .ok (.if_icmp .ge 8, 3) := by decide +kernel
theorem dX6_saves_206 : decode cX6_saves 206 = .ok (.iload 8, 2) := by decide +kernel
theorem dX6_saves_208 : decode cX6_saves 208 = .ok (.goto 4, 3) := by decide +kernel
theorem dX6_saves_211 : decode cX6_saves 211 = .ok (.iload_n 3, 1) := by decide +kernel
theorem dX6_saves_212 : decode cX6_saves 212 = .ok (.istore_n 3, 1) := by decide +kernel
theorem dX6_saves_213 : decode cX6_saves 213 = .ok (.iinc 6 1, 3) := by decide +kernel
theorem dX6_saves_216 : decode cX6_saves 216 = .ok (.goto (-173), 3) := by decide +kernel
theorem dX6_saves_219 : decode cX6_saves 219 = .ok (.iload 4, 2) := by decide +kernel
theorem dX6_saves_221 : decode cX6_saves 221 = .ok (.ireturn, 1) := by decide +kernel
theorem dX6_elsewhere_0 : decode cX6_elsewhere 0 = .ok (.iconst 0, 1) := by decide +kernel
theorem dX6_elsewhere_1 : decode cX6_elsewhere 1 = .ok (.istore_n 1, 1) := by decide +kernel
theorem dX6_elsewhere_2 : decode cX6_elsewhere 2 = .ok (.iconst 0, 1) := by decide +kernel
theorem dX6_elsewhere_3 : decode cX6_elsewhere 3 = .ok (.istore_n 2, 1) := by decide +kernel
theorem dX6_elsewhere_4 : decode cX6_elsewhere 4 = .ok (.iload_n 2, 1) := by decide +kernel
theorem dX6_elsewhere_5 : decode cX6_elsewhere 5 = .ok (.aload_n 0, 1) := by decide +kernel
theorem dX6_elsewhere_6 : decode cX6_elsewhere 6 = .ok (.getfield 86, 3) := by decide +kernel
theorem dX6_elsewhere_9 : decode cX6_elsewhere 9 = .ok (.if_icmp .ge 52, 3) := by decide +kernel
theorem dX6_elsewhere_12 : decode cX6_elsewhere 12 = .ok (.aload_n 0, 1) := by decide +kernel
theorem dX6_elsewhere_13 : decode cX6_elsewhere 13 = .ok (.getfield 62, 3) := by decide +kernel
theorem dX6_elsewhere_16 : decode cX6_elsewhere 16 = .ok (.iload_n 2, 1) := by decide +kernel
theorem dX6_elsewhere_17 : decode cX6_elsewhere 17 = .ok (.iaload, 1) := by decide +kernel
theorem dX6_elsewhere_18 : decode cX6_elsewhere 18 = .ok (.aload_n 0, 1) := by decide +kernel
theorem dX6_elsewhere_19 : decode cX6_elsewhere 19 = .ok (.getfield 56, 3) := by decide +kernel
theorem dX6_elsewhere_22 : decode cX6_elsewhere 22 = .ok (.iload_n 2, 1) := by decide +kernel
theorem dX6_elsewhere_23 : decode cX6_elsewhere 23 = .ok (.iaload, 1) := by decide +kernel
theorem dX6_elsewhere_24 : decode cX6_elsewhere 24 = .ok (.invokestatic 165, 3) := by decide +kernel
theorem dX6_elsewhere_27 : decode cX6_elsewhere 27 = .ok (.ifCond .ne 5, 3) := by decide +kernel
theorem dX6_elsewhere_30 : decode cX6_elsewhere 30 = .ok (.iconst (-1), 1) := by decide +kernel
theorem dX6_elsewhere_31 : decode cX6_elsewhere 31 = .ok (.ireturn, 1) := by decide +kernel
theorem dX6_elsewhere_32 : decode cX6_elsewhere 32 = .ok (.iload_n 1, 1) := by decide +kernel
theorem dX6_elsewhere_33 : decode cX6_elsewhere 33 = .ok (.aload_n 0, 1) := by decide +kernel
theorem dX6_elsewhere_34 : decode cX6_elsewhere 34 = .ok (.getfield 56, 3) := by decide +kernel
theorem dX6_elsewhere_37 : decode cX6_elsewhere 37 = .ok (.iload_n 2, 1) := by decide +kernel
theorem dX6_elsewhere_38 : decode cX6_elsewhere 38 = .ok (.iaload, 1) := by decide +kernel
theorem dX6_elsewhere_39 : decode cX6_elsewhere 39 = .ok (.aload_n 0, 1) := by decide +kernel
theorem dX6_elsewhere_40 : decode cX6_elsewhere 40 = .ok (.getfield 32, 3) := by decide +kernel
theorem dX6_elsewhere_43 : decode cX6_elsewhere 43 = .ok (.iload_n 2, 1) := by decide +kernel
theorem dX6_elsewhere_44 : decode cX6_elsewhere 44 = .ok (.iaload, 1) := by decide +kernel
theorem dX6_elsewhere_45 : decode cX6_elsewhere 45 = .ok (.if_icmp .ne 7, 3) := by decide +kernel
theorem dX6_elsewhere_48 : decode cX6_elsewhere 48 = .ok (.iconst 0, 1) := by decide +kernel
theorem dX6_elsewhere_49 : decode cX6_elsewhere 49 = .ok (.goto 4, 3) := by decide +kernel
theorem dX6_elsewhere_52 : decode cX6_elsewhere 52 = .ok (.iconst 1, 1) := by decide +kernel
theorem dX6_elsewhere_53 : decode cX6_elsewhere 53 = .ok (.iadd, 1) := by decide +kernel
theorem dX6_elsewhere_54 : decode cX6_elsewhere 54 = .ok (.istore_n 1, 1) := by decide +kernel
theorem dX6_elsewhere_55 : decode cX6_elsewhere 55 = .ok (.iinc 2 1, 3) := by decide +kernel
theorem dX6_elsewhere_58 : decode cX6_elsewhere 58 = .ok (.goto (-54), 3) := by decide +kernel
theorem dX6_elsewhere_61 : decode cX6_elsewhere 61 = .ok (.iconst 0, 1) := by decide +kernel
theorem dX6_elsewhere_62 : decode cX6_elsewhere 62 = .ok (.istore_n 2, 1) := by decide +kernel
theorem dX6_elsewhere_63 : decode cX6_elsewhere 63 = .ok (.iload_n 2, 1) := by decide +kernel
theorem dX6_elsewhere_64 : decode cX6_elsewhere 64 = .ok (.aload_n 0, 1) := by decide +kernel
theorem dX6_elsewhere_65 : decode cX6_elsewhere 65 = .ok (.getfield 78, 3) := by decide +kernel
theorem dX6_elsewhere_68 : decode cX6_elsewhere 68 = .ok (.if_icmp .ge 69, 3) := by decide +kernel
theorem dX6_elsewhere_71 : decode cX6_elsewhere 71 = .ok (.iconst 0, 1) := by decide +kernel
theorem dX6_elsewhere_72 : decode cX6_elsewhere 72 = .ok (.istore_n 3, 1) := by decide +kernel
theorem dX6_elsewhere_73 : decode cX6_elsewhere 73 = .ok (.iconst 0, 1) := by decide +kernel
theorem dX6_elsewhere_74 : decode cX6_elsewhere 74 = .ok (.istore 4, 2) := by decide +kernel
theorem dX6_elsewhere_76 : decode cX6_elsewhere 76 = .ok (.iload 4, 2) := by decide +kernel
theorem dX6_elsewhere_78 : decode cX6_elsewhere 78 = .ok (.aload_n 0, 1) := by decide +kernel
theorem dX6_elsewhere_79 : decode cX6_elsewhere 79 = .ok (.getfield 86, 3) := by decide +kernel
theorem dX6_elsewhere_82 : decode cX6_elsewhere 82 = .ok (.if_icmp .ge 34, 3) := by decide +kernel
theorem dX6_elsewhere_85 : decode cX6_elsewhere 85 = .ok (.iload_n 3, 1) := by decide +kernel
theorem dX6_elsewhere_86 : decode cX6_elsewhere 86 = .ok (.aload_n 0, 1) := by decide +kernel
theorem dX6_elsewhere_87 : decode cX6_elsewhere 87 = .ok (.getfield 56, 3) := by decide +kernel
theorem dX6_elsewhere_90 : decode cX6_elsewhere 90 = .ok (.iload 4, 2) := by decide +kernel
theorem dX6_elsewhere_92 : decode cX6_elsewhere 92 = .ok (.iaload, 1) := by decide +kernel
theorem dX6_elsewhere_93 : decode cX6_elsewhere 93 = .ok (.iload_n 2, 1) := by decide +kernel
theorem dX6_elsewhere_94 : decode cX6_elsewhere 94 = .ok (.if_icmp .ne 13, 3) := by decide +kernel
theorem dX6_elsewhere_97 : decode cX6_elsewhere 97 = .ok (.aload_n 0, 1) := by decide +kernel
theorem dX6_elsewhere_98 : decode cX6_elsewhere 98 = .ok (.getfield 26, 3) := by decide +kernel
theorem dX6_elsewhere_101 : decode cX6_elsewhere 101 = .ok (.iload 4, 2) := by decide +kernel
theorem dX6_elsewhere_103 : decode cX6_elsewhere 103 = .ok (.iaload, 1) := by decide +kernel
theorem dX6_elsewhere_104 : decode cX6_elsewhere 104 = .ok (.goto 4, 3) := by decide +kernel
theorem dX6_elsewhere_107 : decode cX6_elsewhere 107 = .ok (.iconst 0, 1) := by decide +kernel
theorem dX6_elsewhere_108 : decode cX6_elsewhere 108 = .ok (.iadd, 1) := by decide +kernel
theorem dX6_elsewhere_109 : decode cX6_elsewhere 109 = .ok (.istore_n 3, 1) := by decide +kernel
theorem dX6_elsewhere_110 : decode cX6_elsewhere 110 = .ok (.iinc 4 1, 3) := by decide +kernel
theorem dX6_elsewhere_113 : decode cX6_elsewhere 113 = .ok (.goto (-37), 3) := by decide +kernel
theorem dX6_elsewhere_116 : decode cX6_elsewhere 116 = .ok (.iload_n 3, 1) := by decide +kernel
theorem dX6_elsewhere_117 : decode cX6_elsewhere 117 = .ok (.aload_n 0, 1) := by decide +kernel
theorem dX6_elsewhere_118 : decode cX6_elsewhere 118 = .ok (.getfield 13, 3) := by decide +kernel
theorem dX6_elsewhere_121 : decode cX6_elsewhere 121 = .ok (.bipush 8, 2) := by decide +kernel
theorem dX6_elsewhere_123 : decode cX6_elsewhere 123 = .ok (.iload_n 2, 1) := by decide +kernel
theorem dX6_elsewhere_124 : decode cX6_elsewhere 124 = .ok (.imul, 1) := by decide +kernel
theorem dX6_elsewhere_125 : decode cX6_elsewhere 125 = .ok (.iaload, 1) := by decide +kernel
