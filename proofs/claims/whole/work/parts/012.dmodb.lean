/-! A row that decodes each instruction. Printed. -/
theorem kd_Mo_turn_14 : decode kc_Mo_turn 14 = .ok (.if_icmp .le 7, 3) := by decide +kernel
theorem kd_Mo_turn_17 : decode kc_Mo_turn 17 = .ok (.iconst 1, 1) := by decide +kernel
theorem kd_Mo_turn_18 : decode kc_Mo_turn 18 = .ok (.goto 4, 3) := by decide +kernel
theorem kd_Mo_turn_21 : decode kc_Mo_turn 21 = .ok (.iconst 0, 1) := by decide +kernel
theorem kd_Mo_turn_22 : decode kc_Mo_turn 22 = .ok (.putfield 101, 3) := by decide +kernel
theorem kd_Mo_turn_25 : decode kc_Mo_turn 25 = .ok (.aload_n 0, 1) := by decide +kernel
theorem kd_Mo_turn_26 : decode kc_Mo_turn 26 = .ok (.getfield 101, 3) := by decide +kernel
theorem kd_Mo_turn_29 : decode kc_Mo_turn 29 = .ok (.ifCond .le 5, 3) := by decide +kernel
theorem kd_Mo_turn_32 : decode kc_Mo_turn 32 = .ok (.iconst 0, 1) := by decide +kernel
theorem kd_Mo_turn_33 : decode kc_Mo_turn 33 = .ok (.ireturn, 1) := by decide +kernel
theorem kd_Mo_turn_34 : decode kc_Mo_turn 34 = .ok (.iload_n 2, 1) := by decide +kernel
theorem kd_Mo_turn_35 : decode kc_Mo_turn 35 = .ok (.ifCond .ne 19, 3) := by decide +kernel
theorem kd_Mo_turn_38 : decode kc_Mo_turn 38 = .ok (.aload_n 0, 1) := by decide +kernel
theorem kd_Mo_turn_39 : decode kc_Mo_turn 39 = .ok (.getfield 62, 3) := by decide +kernel
theorem kd_Mo_turn_42 : decode kc_Mo_turn 42 = .ok (.iload_n 1, 1) := by decide +kernel
theorem kd_Mo_turn_43 : decode kc_Mo_turn 43 = .ok (.iaload, 1) := by decide +kernel
theorem kd_Mo_turn_44 : decode kc_Mo_turn 44 = .ok (.istore_n 3, 1) := by decide +kernel
theorem kd_Mo_turn_45 : decode kc_Mo_turn 45 = .ok (.aload_n 0, 1) := by decide +kernel
theorem kd_Mo_turn_46 : decode kc_Mo_turn 46 = .ok (.getfield 62, 3) := by decide +kernel
theorem kd_Mo_turn_49 : decode kc_Mo_turn 49 = .ok (.iload_n 1, 1) := by decide +kernel
theorem kd_Mo_turn_50 : decode kc_Mo_turn 50 = .ok (.iconst 0, 1) := by decide +kernel
theorem kd_Mo_turn_51 : decode kc_Mo_turn 51 = .ok (.iastore, 1) := by decide +kernel
theorem kd_Mo_turn_52 : decode kc_Mo_turn 52 = .ok (.iload_n 3, 1) := by decide +kernel
theorem kd_Mo_turn_53 : decode kc_Mo_turn 53 = .ok (.ireturn, 1) := by decide +kernel
theorem kd_Mo_turn_54 : decode kc_Mo_turn 54 = .ok (.iload_n 2, 1) := by decide +kernel
theorem kd_Mo_turn_55 : decode kc_Mo_turn 55 = .ok (.iconst 1, 1) := by decide +kernel
theorem kd_Mo_turn_56 : decode kc_Mo_turn 56 = .ok (.if_icmp .eq 8, 3) := by decide +kernel
theorem kd_Mo_turn_59 : decode kc_Mo_turn 59 = .ok (.iload_n 2, 1) := by decide +kernel
theorem kd_Mo_turn_60 : decode kc_Mo_turn 60 = .ok (.iconst 3, 1) := by decide +kernel
theorem kd_Mo_turn_61 : decode kc_Mo_turn 61 = .ok (.if_icmp .ne 7, 3) := by decide +kernel
theorem kd_Mo_turn_64 : decode kc_Mo_turn 64 = .ok (.iconst 1, 1) := by decide +kernel
theorem kd_Mo_turn_65 : decode kc_Mo_turn 65 = .ok (.goto 4, 3) := by decide +kernel
theorem kd_Mo_turn_68 : decode kc_Mo_turn 68 = .ok (.iconst 0, 1) := by decide +kernel
theorem kd_Mo_turn_69 : decode kc_Mo_turn 69 = .ok (.istore_n 3, 1) := by decide +kernel
theorem kd_Mo_turn_70 : decode kc_Mo_turn 70 = .ok (.iload_n 2, 1) := by decide +kernel
theorem kd_Mo_turn_71 : decode kc_Mo_turn 71 = .ok (.iconst 3, 1) := by decide +kernel
theorem kd_Mo_turn_72 : decode kc_Mo_turn 72 = .ok (.if_icmp .ge 12, 3) := by decide +kernel
theorem kd_Mo_turn_75 : decode kc_Mo_turn 75 = .ok (.aload_n 0, 1) := by decide +kernel
theorem kd_Mo_turn_76 : decode kc_Mo_turn 76 = .ok (.getfield 74, 3) := by decide +kernel
theorem kd_Mo_turn_79 : decode kc_Mo_turn 79 = .ok (.iload_n 1, 1) := by decide +kernel
theorem kd_Mo_turn_80 : decode kc_Mo_turn 80 = .ok (.baload, 1) := by decide +kernel
theorem kd_Mo_turn_81 : decode kc_Mo_turn 81 = .ok (.goto 9, 3) := by decide +kernel
theorem kd_Mo_turn_84 : decode kc_Mo_turn 84 = .ok (.aload_n 0, 1) := by decide +kernel
theorem kd_Mo_turn_85 : decode kc_Mo_turn 85 = .ok (.getfield 77, 3) := by decide +kernel
theorem kd_Mo_turn_88 : decode kc_Mo_turn 88 = .ok (.iload_n 1, 1) := by decide +kernel
theorem kd_Mo_turn_89 : decode kc_Mo_turn 89 = .ok (.baload, 1) := by decide +kernel
theorem kd_Mo_turn_90 : decode kc_Mo_turn 90 = .ok (.istore 4, 2) := by decide +kernel
theorem kd_Mo_turn_92 : decode kc_Mo_turn 92 = .ok (.iload_n 2, 1) := by decide +kernel
theorem kd_Mo_turn_93 : decode kc_Mo_turn 93 = .ok (.iconst 3, 1) := by decide +kernel
theorem kd_Mo_turn_94 : decode kc_Mo_turn 94 = .ok (.if_icmp .ge 13, 3) := by decide +kernel
theorem kd_Mo_turn_97 : decode kc_Mo_turn 97 = .ok (.aload_n 0, 1) := by decide +kernel
theorem kd_Mo_turn_98 : decode kc_Mo_turn 98 = .ok (.getfield 74, 3) := by decide +kernel
theorem kd_Mo_turn_101 : decode kc_Mo_turn 101 = .ok (.iload_n 1, 1) := by decide +kernel
theorem kd_Mo_turn_102 : decode kc_Mo_turn 102 = .ok (.iload_n 3, 1) := by decide +kernel
theorem kd_Mo_turn_103 : decode kc_Mo_turn 103 = .ok (.bastore, 1) := by decide +kernel
theorem kd_Mo_turn_104 : decode kc_Mo_turn 104 = .ok (.goto 10, 3) := by decide +kernel
theorem kd_Mo_turn_107 : decode kc_Mo_turn 107 = .ok (.aload_n 0, 1) := by decide +kernel
theorem kd_Mo_turn_108 : decode kc_Mo_turn 108 = .ok (.getfield 77, 3) := by decide +kernel
theorem kd_Mo_turn_111 : decode kc_Mo_turn 111 = .ok (.iload_n 1, 1) := by decide +kernel
theorem kd_Mo_turn_112 : decode kc_Mo_turn 112 = .ok (.iload_n 3, 1) := by decide +kernel
theorem kd_Mo_turn_113 : decode kc_Mo_turn 113 = .ok (.bastore, 1) := by decide +kernel
theorem kd_Mo_turn_114 : decode kc_Mo_turn 114 = .ok (.iload 4, 2) := by decide +kernel
theorem kd_Mo_turn_116 : decode kc_Mo_turn 116 = .ok (.iload_n 3, 1) := by decide +kernel
theorem kd_Mo_turn_117 : decode kc_Mo_turn 117 = .ok (.if_icmp .ne 7, 3) := by decide +kernel
theorem kd_Mo_turn_120 : decode kc_Mo_turn 120 = .ok (.iconst 0, 1) := by decide +kernel
theorem kd_Mo_turn_121 : decode kc_Mo_turn 121 = .ok (.goto 4, 3) := by decide +kernel
theorem kd_Mo_turn_124 : decode kc_Mo_turn 124 = .ok (.iconst 1, 1) := by decide +kernel
theorem kd_Mo_turn_125 : decode kc_Mo_turn 125 = .ok (.ireturn, 1) := by decide +kernel
theorem kd_Mo_clipSample_0 : decode kc_Mo_clipSample 0 = .ok (.aload_n 0, 1) := by decide +kernel
theorem kd_Mo_clipSample_1 : decode kc_Mo_clipSample 1 = .ok (.getfield 7, 3) := by decide +kernel
theorem kd_Mo_clipSample_4 : decode kc_Mo_clipSample 4 = .ok (.bipush 64, 2) := by decide +kernel
theorem kd_Mo_clipSample_6 : decode kc_Mo_clipSample 6 = .ok (.aload_n 0, 1) := by decide +kernel
theorem kd_Mo_clipSample_7 : decode kc_Mo_clipSample 7 = .ok (.getfield 26, 3) := by decide +kernel
theorem kd_Mo_clipSample_10 : decode kc_Mo_clipSample 10 = .ok (.iload_n 1, 1) := by decide +kernel
theorem kd_Mo_clipSample_11 : decode kc_Mo_clipSample 11 = .ok (.iaload, 1) := by decide +kernel
theorem kd_Mo_clipSample_12 : decode kc_Mo_clipSample 12 = .ok (.imul, 1) := by decide +kernel
theorem kd_Mo_clipSample_13 : decode kc_Mo_clipSample 13 = .ok (.aload_n 0, 1) := by decide +kernel
theorem kd_Mo_clipSample_14 : decode kc_Mo_clipSample 14 = .ok (.getfield 29, 3) := by decide +kernel
theorem kd_Mo_clipSample_17 : decode kc_Mo_clipSample 17 = .ok (.iload_n 1, 1) := by decide +kernel
theorem kd_Mo_clipSample_18 : decode kc_Mo_clipSample 18 = .ok (.iaload, 1) := by decide +kernel
theorem kd_Mo_clipSample_19 : decode kc_Mo_clipSample 19 = .ok (.iadd, 1) := by decide +kernel
theorem kd_Mo_clipSample_20 : decode kc_Mo_clipSample 20 = .ok (.iload_n 2, 1) := by decide +kernel
theorem kd_Mo_clipSample_21 : decode kc_Mo_clipSample 21 = .ok (.iadd, 1) := by decide +kernel
theorem kd_Mo_clipSample_22 : decode kc_Mo_clipSample 22 = .ok (.iaload, 1) := by decide +kernel
theorem kd_Mo_clipSample_23 : decode kc_Mo_clipSample 23 = .ok (.i2l, 1) := by decide +kernel
theorem kd_Mo_clipSample_24 : decode kc_Mo_clipSample 24 = .ok (.aload_n 0, 1) := by decide +kernel
theorem kd_Mo_clipSample_25 : decode kc_Mo_clipSample 25 = .ok (.getfield 35, 3) := by decide +kernel
theorem kd_Mo_clipSample_28 : decode kc_Mo_clipSample 28 = .ok (.iload_n 1, 1) := by decide +kernel
theorem kd_Mo_clipSample_29 : decode kc_Mo_clipSample 29 = .ok (.iaload, 1) := by decide +kernel
theorem kd_Mo_clipSample_30 : decode kc_Mo_clipSample 30 = .ok (.i2l, 1) := by decide +kernel
theorem kd_Mo_clipSample_31 : decode kc_Mo_clipSample 31 = .ok (.invokestatic 148, 3) := by decide +kernel
theorem kd_Mo_clipSample_34 : decode kc_Mo_clipSample 34 = .ok (.lstore_n 3, 1) := by decide +kernel
theorem kd_Mo_clipSample_35 : decode kc_Mo_clipSample 35 = .ok (.iload_n 2, 1) := by decide +kernel
theorem kd_Mo_clipSample_36 : decode kc_Mo_clipSample 36 = .ok (.aload_n 0, 1) := by decide +kernel
theorem kd_Mo_clipSample_37 : decode kc_Mo_clipSample 37 = .ok (.getfield 38, 3) := by decide +kernel
theorem kd_Mo_clipSample_40 : decode kc_Mo_clipSample 40 = .ok (.iload_n 1, 1) := by decide +kernel
theorem kd_Mo_clipSample_41 : decode kc_Mo_clipSample 41 = .ok (.iaload, 1) := by decide +kernel
theorem kd_Mo_clipSample_42 : decode kc_Mo_clipSample 42 = .ok (.if_icmp .ge 24, 3) := by decide +kernel
theorem kd_Mo_clipSample_45 : decode kc_Mo_clipSample 45 = .ok (.lload_n 3, 1) := by decide +kernel
theorem kd_Mo_clipSample_46 : decode kc_Mo_clipSample 46 = .ok (.iload_n 2, 1) := by decide +kernel
theorem kd_Mo_clipSample_47 : decode kc_Mo_clipSample 47 = .ok (.iconst 1, 1) := by decide +kernel
theorem kd_Mo_clipSample_48 : decode kc_Mo_clipSample 48 = .ok (.iadd, 1) := by decide +kernel
theorem kd_Mo_clipSample_49 : decode kc_Mo_clipSample 49 = .ok (.i2l, 1) := by decide +kernel
theorem kd_Mo_clipSample_50 : decode kc_Mo_clipSample 50 = .ok (.lmul, 1) := by decide +kernel
theorem kd_Mo_clipSample_51 : decode kc_Mo_clipSample 51 = .ok (.aload_n 0, 1) := by decide +kernel
theorem kd_Mo_clipSample_52 : decode kc_Mo_clipSample 52 = .ok (.getfield 38, 3) := by decide +kernel
theorem kd_Mo_clipSample_55 : decode kc_Mo_clipSample 55 = .ok (.iload_n 1, 1) := by decide +kernel
theorem kd_Mo_clipSample_56 : decode kc_Mo_clipSample 56 = .ok (.iaload, 1) := by decide +kernel
theorem kd_Mo_clipSample_57 : decode kc_Mo_clipSample 57 = .ok (.iconst 1, 1) := by decide +kernel
theorem kd_Mo_clipSample_58 : decode kc_Mo_clipSample 58 = .ok (.iadd, 1) := by decide +kernel
theorem kd_Mo_clipSample_59 : decode kc_Mo_clipSample 59 = .ok (.i2l, 1) := by decide +kernel
theorem kd_Mo_clipSample_60 : decode kc_Mo_clipSample 60 = .ok (.invokestatic 111, 3) := by decide +kernel
theorem kd_Mo_clipSample_63 : decode kc_Mo_clipSample 63 = .ok (.goto 4, 3) := by decide +kernel
theorem kd_Mo_clipSample_66 : decode kc_Mo_clipSample 66 = .ok (.lload_n 3, 1) := by decide +kernel
theorem kd_Mo_clipSample_67 : decode kc_Mo_clipSample 67 = .ok (.lstore_n 3, 1) := by decide +kernel
theorem kd_Mo_clipSample_68 : decode kc_Mo_clipSample 68 = .ok (.aload_n 0, 1) := by decide +kernel
theorem kd_Mo_clipSample_69 : decode kc_Mo_clipSample 69 = .ok (.getfield 32, 3) := by decide +kernel
theorem kd_Mo_clipSample_72 : decode kc_Mo_clipSample 72 = .ok (.iload_n 1, 1) := by decide +kernel
theorem kd_Mo_clipSample_73 : decode kc_Mo_clipSample 73 = .ok (.iaload, 1) := by decide +kernel
theorem kd_Mo_clipSample_74 : decode kc_Mo_clipSample 74 = .ok (.iconst 1, 1) := by decide +kernel
theorem kd_Mo_clipSample_75 : decode kc_Mo_clipSample 75 = .ok (.isub, 1) := by decide +kernel
theorem kd_Mo_clipSample_76 : decode kc_Mo_clipSample 76 = .ok (.iload_n 2, 1) := by decide +kernel
theorem kd_Mo_clipSample_77 : decode kc_Mo_clipSample 77 = .ok (.isub, 1) := by decide +kernel
theorem kd_Mo_clipSample_78 : decode kc_Mo_clipSample 78 = .ok (.aload_n 0, 1) := by decide +kernel
theorem kd_Mo_clipSample_79 : decode kc_Mo_clipSample 79 = .ok (.getfield 41, 3) := by decide +kernel
theorem kd_Mo_clipSample_82 : decode kc_Mo_clipSample 82 = .ok (.iload_n 1, 1) := by decide +kernel
theorem kd_Mo_clipSample_83 : decode kc_Mo_clipSample 83 = .ok (.iaload, 1) := by decide +kernel
theorem kd_Mo_clipSample_84 : decode kc_Mo_clipSample 84 = .ok (.if_icmp .ge 29, 3) := by decide +kernel
theorem kd_Mo_clipSample_87 : decode kc_Mo_clipSample 87 = .ok (.lload_n 3, 1) := by decide +kernel
theorem kd_Mo_clipSample_88 : decode kc_Mo_clipSample 88 = .ok (.aload_n 0, 1) := by decide +kernel
theorem kd_Mo_clipSample_89 : decode kc_Mo_clipSample 89 = .ok (.getfield 32, 3) := by decide +kernel
theorem kd_Mo_clipSample_92 : decode kc_Mo_clipSample 92 = .ok (.iload_n 1, 1) := by decide +kernel
theorem kd_Mo_clipSample_93 : decode kc_Mo_clipSample 93 = .ok (.iaload, 1) := by decide +kernel
theorem kd_Mo_clipSample_94 : decode kc_Mo_clipSample 94 = .ok (.iload_n 2, 1) := by decide +kernel
theorem kd_Mo_clipSample_95 : decode kc_Mo_clipSample 95 = .ok (.isub, 1) := by decide +kernel
theorem kd_Mo_clipSample_96 : decode kc_Mo_clipSample 96 = .ok (.i2l, 1) := by decide +kernel
theorem kd_Mo_clipSample_97 : decode kc_Mo_clipSample 97 = .ok (.lmul, 1) := by decide +kernel
theorem kd_Mo_clipSample_98 : decode kc_Mo_clipSample 98 = .ok (.aload_n 0, 1) := by decide +kernel
theorem kd_Mo_clipSample_99 : decode kc_Mo_clipSample 99 = .ok (.getfield 41, 3) := by decide +kernel
theorem kd_Mo_clipSample_102 : decode kc_Mo_clipSample 102 = .ok (.iload_n 1, 1) := by decide +kernel
theorem kd_Mo_clipSample_103 : decode kc_Mo_clipSample 103 = .ok (.iaload, 1) := by decide +kernel
theorem kd_Mo_clipSample_104 : decode kc_Mo_clipSample 104 = .ok (.iconst 1, 1) := by decide +kernel
theorem kd_Mo_clipSample_105 : decode kc_Mo_clipSample 105 = .ok (.iadd, 1) := by decide +kernel
theorem kd_Mo_clipSample_106 : decode kc_Mo_clipSample 106 = .ok (.i2l, 1) := by decide +kernel
theorem kd_Mo_clipSample_107 : decode kc_Mo_clipSample 107 = .ok (.invokestatic 111, 3) := by decide +kernel
theorem kd_Mo_clipSample_110 : decode kc_Mo_clipSample 110 = .ok (.goto 4, 3) := by decide +kernel
theorem kd_Mo_clipSample_113 : decode kc_Mo_clipSample 113 = .ok (.lload_n 3, 1) := by decide +kernel
theorem kd_Mo_clipSample_114 : decode kc_Mo_clipSample 114 = .ok (.lreturn, 1) := by decide +kernel
theorem kd_Mo_trackIn_0 : decode kc_Mo_trackIn 0 = .ok (.iconst 0, 1) := by decide +kernel
theorem kd_Mo_trackIn_1 : decode kc_Mo_trackIn 1 = .ok (.istore_n 3, 1) := by decide +kernel
theorem kd_Mo_trackIn_2 : decode kc_Mo_trackIn 2 = .ok (.iload_n 3, 1) := by decide +kernel
theorem kd_Mo_trackIn_3 : decode kc_Mo_trackIn 3 = .ok (.iload_n 2, 1) := by decide +kernel
theorem kd_Mo_trackIn_4 : decode kc_Mo_trackIn 4 = .ok (.if_icmp .ge 105, 3) := by decide +kernel
theorem kd_Mo_trackIn_7 : decode kc_Mo_trackIn 7 = .ok (.aload_n 0, 1) := by decide +kernel
theorem kd_Mo_trackIn_8 : decode kc_Mo_trackIn 8 = .ok (.getfield 92, 3) := by decide +kernel
theorem kd_Mo_trackIn_11 : decode kc_Mo_trackIn 11 = .ok (.iload_n 3, 1) := by decide +kernel
theorem kd_Mo_trackIn_12 : decode kc_Mo_trackIn 12 = .ok (.iconst 0, 1) := by decide +kernel
theorem kd_Mo_trackIn_13 : decode kc_Mo_trackIn 13 = .ok (.iastore, 1) := by decide +kernel
theorem kd_Mo_trackIn_14 : decode kc_Mo_trackIn 14 = .ok (.iconst 0, 1) := by decide +kernel
theorem kd_Mo_trackIn_15 : decode kc_Mo_trackIn 15 = .ok (.istore 4, 2) := by decide +kernel
theorem kd_Mo_trackIn_17 : decode kc_Mo_trackIn 17 = .ok (.iload 4, 2) := by decide +kernel
theorem kd_Mo_trackIn_19 : decode kc_Mo_trackIn 19 = .ok (.bipush 16, 2) := by decide +kernel
theorem kd_Mo_trackIn_21 : decode kc_Mo_trackIn 21 = .ok (.if_icmp .ge 82, 3) := by decide +kernel
theorem kd_Mo_trackIn_24 : decode kc_Mo_trackIn 24 = .ok (.aload_n 0, 1) := by decide +kernel
theorem kd_Mo_trackIn_25 : decode kc_Mo_trackIn 25 = .ok (.getfield 16, 3) := by decide +kernel
theorem kd_Mo_trackIn_28 : decode kc_Mo_trackIn 28 = .ok (.iload 4, 2) := by decide +kernel
theorem kd_Mo_trackIn_30 : decode kc_Mo_trackIn 30 = .ok (.baload, 1) := by decide +kernel
theorem kd_Mo_trackIn_31 : decode kc_Mo_trackIn 31 = .ok (.ifCond .eq 66, 3) := by decide +kernel
theorem kd_Mo_trackIn_34 : decode kc_Mo_trackIn 34 = .ok (.aload_n 0, 1) := by decide +kernel
theorem kd_Mo_trackIn_35 : decode kc_Mo_trackIn 35 = .ok (.getfield 20, 3) := by decide +kernel
theorem kd_Mo_trackIn_38 : decode kc_Mo_trackIn 38 = .ok (.iload 4, 2) := by decide +kernel
theorem kd_Mo_trackIn_40 : decode kc_Mo_trackIn 40 = .ok (.iaload, 1) := by decide +kernel
theorem kd_Mo_trackIn_41 : decode kc_Mo_trackIn 41 = .ok (.iload_n 1, 1) := by decide +kernel
theorem kd_Mo_trackIn_42 : decode kc_Mo_trackIn 42 = .ok (.if_icmp .ne 55, 3) := by decide +kernel
theorem kd_Mo_trackIn_45 : decode kc_Mo_trackIn 45 = .ok (.iload_n 3, 1) := by decide +kernel
theorem kd_Mo_trackIn_46 : decode kc_Mo_trackIn 46 = .ok (.aload_n 0, 1) := by decide +kernel
theorem kd_Mo_trackIn_47 : decode kc_Mo_trackIn 47 = .ok (.getfield 23, 3) := by decide +kernel
theorem kd_Mo_trackIn_50 : decode kc_Mo_trackIn 50 = .ok (.iload 4, 2) := by decide +kernel
theorem kd_Mo_trackIn_52 : decode kc_Mo_trackIn 52 = .ok (.iaload, 1) := by decide +kernel
theorem kd_Mo_trackIn_53 : decode kc_Mo_trackIn 53 = .ok (.if_icmp .lt 44, 3) := by decide +kernel
theorem kd_Mo_trackIn_56 : decode kc_Mo_trackIn 56 = .ok (.iload_n 3, 1) := by decide +kernel
theorem kd_Mo_trackIn_57 : decode kc_Mo_trackIn 57 = .ok (.aload_n 0, 1) := by decide +kernel
theorem kd_Mo_trackIn_58 : decode kc_Mo_trackIn 58 = .ok (.getfield 23, 3) := by decide +kernel
theorem kd_Mo_trackIn_61 : decode kc_Mo_trackIn 61 = .ok (.iload 4, 2) := by decide +kernel
theorem kd_Mo_trackIn_63 : decode kc_Mo_trackIn 63 = .ok (.iaload, 1) := by decide +kernel
theorem kd_Mo_trackIn_64 : decode kc_Mo_trackIn 64 = .ok (.aload_n 0, 1) := by decide +kernel
theorem kd_Mo_trackIn_65 : decode kc_Mo_trackIn 65 = .ok (.getfield 32, 3) := by decide +kernel
theorem kd_Mo_trackIn_68 : decode kc_Mo_trackIn 68 = .ok (.iload 4, 2) := by decide +kernel
theorem kd_Mo_trackIn_70 : decode kc_Mo_trackIn 70 = .ok (.iaload, 1) := by decide +kernel
theorem kd_Mo_trackIn_71 : decode kc_Mo_trackIn 71 = .ok (.iadd, 1) := by decide +kernel
theorem kd_Mo_trackIn_72 : decode kc_Mo_trackIn 72 = .ok (.if_icmp .ge 25, 3) := by decide +kernel
theorem kd_Mo_trackIn_75 : decode kc_Mo_trackIn 75 = .ok (.aload_n 0, 1) := by decide +kernel
theorem kd_Mo_trackIn_76 : decode kc_Mo_trackIn 76 = .ok (.getfield 92, 3) := by decide +kernel
theorem kd_Mo_trackIn_79 : decode kc_Mo_trackIn 79 = .ok (.iload_n 3, 1) := by decide +kernel
theorem kd_Mo_trackIn_80 : decode kc_Mo_trackIn 80 = .ok (.aload_n 0, 1) := by decide +kernel
theorem kd_Mo_trackIn_81 : decode kc_Mo_trackIn 81 = .ok (.iload 4, 2) := by decide +kernel
theorem kd_Mo_trackIn_83 : decode kc_Mo_trackIn 83 = .ok (.iload_n 3, 1) := by decide +kernel
theorem kd_Mo_trackIn_84 : decode kc_Mo_trackIn 84 = .ok (.aload_n 0, 1) := by decide +kernel
theorem kd_Mo_trackIn_85 : decode kc_Mo_trackIn 85 = .ok (.getfield 23, 3) := by decide +kernel
theorem kd_Mo_trackIn_88 : decode kc_Mo_trackIn 88 = .ok (.iload 4, 2) := by decide +kernel
theorem kd_Mo_trackIn_90 : decode kc_Mo_trackIn 90 = .ok (.iaload, 1) := by decide +kernel
theorem kd_Mo_trackIn_91 : decode kc_Mo_trackIn 91 = .ok (.isub, 1) := by decide +kernel
theorem kd_Mo_trackIn_92 : decode kc_Mo_trackIn 92 = .ok (.invokevirtual 151, 3) := by decide +kernel
theorem kd_Mo_trackIn_95 : decode kc_Mo_trackIn 95 = .ok (.l2i, 1) := by decide +kernel
theorem kd_Mo_trackIn_96 : decode kc_Mo_trackIn 96 = .ok (.iastore, 1) := by decide +kernel
theorem kd_Mo_trackIn_97 : decode kc_Mo_trackIn 97 = .ok (.iinc 4 1, 3) := by decide +kernel
theorem kd_Mo_trackIn_100 : decode kc_Mo_trackIn 100 = .ok (.goto (-83), 3) := by decide +kernel
theorem kd_Mo_trackIn_103 : decode kc_Mo_trackIn 103 = .ok (.iinc 3 1, 3) := by decide +kernel
theorem kd_Mo_trackIn_106 : decode kc_Mo_trackIn 106 = .ok (.goto (-104), 3) := by decide +kernel
theorem kd_Mo_trackIn_109 : decode kc_Mo_trackIn 109 = .ok (.return_, 1) := by decide +kernel
theorem kd_Mo_findDelays_0 : decode kc_Mo_findDelays 0 = .ok (.iconst 0, 1) := by decide +kernel
theorem kd_Mo_findDelays_1 : decode kc_Mo_findDelays 1 = .ok (.istore_n 1, 1) := by decide +kernel
theorem kd_Mo_findDelays_2 : decode kc_Mo_findDelays 2 = .ok (.iload_n 1, 1) := by decide +kernel
theorem kd_Mo_findDelays_3 : decode kc_Mo_findDelays 3 = .ok (.bipush 8, 2) := by decide +kernel
theorem kd_Mo_findDelays_5 : decode kc_Mo_findDelays 5 = .ok (.if_icmp .ge 16, 3) := by decide +kernel
theorem kd_Mo_findDelays_8 : decode kc_Mo_findDelays 8 = .ok (.aload_n 0, 1) := by decide +kernel
theorem kd_Mo_findDelays_9 : decode kc_Mo_findDelays 9 = .ok (.getfield 83, 3) := by decide +kernel
theorem kd_Mo_findDelays_12 : decode kc_Mo_findDelays 12 = .ok (.iload_n 1, 1) := by decide +kernel
theorem kd_Mo_findDelays_13 : decode kc_Mo_findDelays 13 = .ok (.iconst 0, 1) := by decide +kernel
theorem kd_Mo_findDelays_14 : decode kc_Mo_findDelays 14 = .ok (.iastore, 1) := by decide +kernel
theorem kd_Mo_findDelays_15 : decode kc_Mo_findDelays 15 = .ok (.iinc 1 1, 3) := by decide +kernel
theorem kd_Mo_findDelays_18 : decode kc_Mo_findDelays 18 = .ok (.goto (-16), 3) := by decide +kernel
theorem kd_Mo_findDelays_21 : decode kc_Mo_findDelays 21 = .ok (.iconst 0, 1) := by decide +kernel
theorem kd_Mo_findDelays_22 : decode kc_Mo_findDelays 22 = .ok (.istore_n 1, 1) := by decide +kernel
theorem kd_Mo_findDelays_23 : decode kc_Mo_findDelays 23 = .ok (.iload_n 1, 1) := by decide +kernel
theorem kd_Mo_findDelays_24 : decode kc_Mo_findDelays 24 = .ok (.bipush 8, 2) := by decide +kernel
theorem kd_Mo_findDelays_26 : decode kc_Mo_findDelays 26 = .ok (.if_icmp .ge 93, 3) := by decide +kernel
theorem kd_Mo_findDelays_29 : decode kc_Mo_findDelays 29 = .ok (.iconst 0, 1) := by decide +kernel
theorem kd_Mo_findDelays_30 : decode kc_Mo_findDelays 30 = .ok (.istore_n 2, 1) := by decide +kernel
theorem kd_Mo_findDelays_31 : decode kc_Mo_findDelays 31 = .ok (.iload_n 2, 1) := by decide +kernel
theorem kd_Mo_findDelays_32 : decode kc_Mo_findDelays 32 = .ok (.bipush 8, 2) := by decide +kernel
theorem kd_Mo_findDelays_34 : decode kc_Mo_findDelays 34 = .ok (.if_icmp .ge 79, 3) := by decide +kernel
theorem kd_Mo_findDelays_37 : decode kc_Mo_findDelays 37 = .ok (.aload_n 0, 1) := by decide +kernel
theorem kd_Mo_findDelays_38 : decode kc_Mo_findDelays 38 = .ok (.getfield 83, 3) := by decide +kernel
theorem kd_Mo_findDelays_41 : decode kc_Mo_findDelays 41 = .ok (.iload_n 2, 1) := by decide +kernel
theorem kd_Mo_findDelays_42 : decode kc_Mo_findDelays 42 = .ok (.aload_n 0, 1) := by decide +kernel
theorem kd_Mo_findDelays_43 : decode kc_Mo_findDelays 43 = .ok (.iload_n 2, 1) := by decide +kernel
theorem kd_Mo_findDelays_44 : decode kc_Mo_findDelays 44 = .ok (.invokevirtual 155, 3) := by decide +kernel
theorem kd_Mo_findDelays_47 : decode kc_Mo_findDelays 47 = .ok (.iastore, 1) := by decide +kernel
theorem kd_Mo_findDelays_48 : decode kc_Mo_findDelays 48 = .ok (.iconst 0, 1) := by decide +kernel
theorem kd_Mo_findDelays_49 : decode kc_Mo_findDelays 49 = .ok (.istore_n 3, 1) := by decide +kernel
theorem kd_Mo_findDelays_50 : decode kc_Mo_findDelays 50 = .ok (.iload_n 3, 1) := by decide +kernel
theorem kd_Mo_findDelays_51 : decode kc_Mo_findDelays 51 = .ok (.iconst 3, 1) := by decide +kernel
theorem kd_Mo_findDelays_52 : decode kc_Mo_findDelays 52 = .ok (.if_icmp .ge 55, 3) := by decide +kernel
theorem kd_Mo_findDelays_55 : decode kc_Mo_findDelays 55 = .ok (.aload_n 0, 1) := by decide +kernel
theorem kd_Mo_findDelays_56 : decode kc_Mo_findDelays 56 = .ok (.getfield 83, 3) := by decide +kernel
theorem kd_Mo_findDelays_59 : decode kc_Mo_findDelays 59 = .ok (.iload_n 2, 1) := by decide +kernel
theorem kd_Mo_findDelays_60 : decode kc_Mo_findDelays 60 = .ok (.aload_n 0, 1) := by decide +kernel
theorem kd_Mo_findDelays_61 : decode kc_Mo_findDelays 61 = .ok (.getfield 50, 3) := by decide +kernel
theorem kd_Mo_findDelays_64 : decode kc_Mo_findDelays 64 = .ok (.iconst 3, 1) := by decide +kernel
theorem kd_Mo_findDelays_65 : decode kc_Mo_findDelays 65 = .ok (.iload_n 2, 1) := by decide +kernel
theorem kd_Mo_findDelays_66 : decode kc_Mo_findDelays 66 = .ok (.imul, 1) := by decide +kernel
theorem kd_Mo_findDelays_67 : decode kc_Mo_findDelays 67 = .ok (.iload_n 3, 1) := by decide +kernel
theorem kd_Mo_findDelays_68 : decode kc_Mo_findDelays 68 = .ok (.iadd, 1) := by decide +kernel
theorem kd_Mo_findDelays_69 : decode kc_Mo_findDelays 69 = .ok (.iaload, 1) := by decide +kernel
theorem kd_Mo_findDelays_70 : decode kc_Mo_findDelays 70 = .ok (.iconst 4, 1) := by decide +kernel
theorem kd_Mo_findDelays_71 : decode kc_Mo_findDelays 71 = .ok (.if_icmp .ne 23, 3) := by decide +kernel
theorem kd_Mo_findDelays_74 : decode kc_Mo_findDelays 74 = .ok (.aload_n 0, 1) := by decide +kernel
theorem kd_Mo_findDelays_75 : decode kc_Mo_findDelays 75 = .ok (.getfield 83, 3) := by decide +kernel
theorem kd_Mo_findDelays_78 : decode kc_Mo_findDelays 78 = .ok (.iload_n 2, 1) := by decide +kernel
theorem kd_Mo_findDelays_79 : decode kc_Mo_findDelays 79 = .ok (.iaload, 1) := by decide +kernel
theorem kd_Mo_findDelays_80 : decode kc_Mo_findDelays 80 = .ok (.aload_n 0, 1) := by decide +kernel
theorem kd_Mo_findDelays_81 : decode kc_Mo_findDelays 81 = .ok (.getfield 56, 3) := by decide +kernel
theorem kd_Mo_findDelays_84 : decode kc_Mo_findDelays 84 = .ok (.iconst 3, 1) := by decide +kernel
theorem kd_Mo_findDelays_85 : decode kc_Mo_findDelays 85 = .ok (.iload_n 2, 1) := by decide +kernel
theorem kd_Mo_findDelays_86 : decode kc_Mo_findDelays 86 = .ok (.imul, 1) := by decide +kernel
theorem kd_Mo_findDelays_87 : decode kc_Mo_findDelays 87 = .ok (.iload_n 3, 1) := by decide +kernel
theorem kd_Mo_findDelays_88 : decode kc_Mo_findDelays 88 = .ok (.iadd, 1) := by decide +kernel
theorem kd_Mo_findDelays_89 : decode kc_Mo_findDelays 89 = .ok (.iaload, 1) := by decide +kernel
theorem kd_Mo_findDelays_90 : decode kc_Mo_findDelays 90 = .ok (.iadd, 1) := by decide +kernel
theorem kd_Mo_findDelays_91 : decode kc_Mo_findDelays 91 = .ok (.goto 9, 3) := by decide +kernel
theorem kd_Mo_findDelays_94 : decode kc_Mo_findDelays 94 = .ok (.aload_n 0, 1) := by decide +kernel
theorem kd_Mo_findDelays_95 : decode kc_Mo_findDelays 95 = .ok (.getfield 83, 3) := by decide +kernel
theorem kd_Mo_findDelays_98 : decode kc_Mo_findDelays 98 = .ok (.iload_n 2, 1) := by decide +kernel
theorem kd_Mo_findDelays_99 : decode kc_Mo_findDelays 99 = .ok (.iaload, 1) := by decide +kernel
theorem kd_Mo_findDelays_100 : decode kc_Mo_findDelays 100 = .ok (.iastore, 1) := by decide +kernel
theorem kd_Mo_findDelays_101 : decode kc_Mo_findDelays 101 = .ok (.iinc 3 1, 3) := by decide +kernel
theorem kd_Mo_findDelays_104 : decode kc_Mo_findDelays 104 = .ok (.goto (-54), 3) := by decide +kernel
theorem kd_Mo_findDelays_107 : decode kc_Mo_findDelays 107 = .ok (.iinc 2 1, 3) := by decide +kernel
theorem kd_Mo_findDelays_110 : decode kc_Mo_findDelays 110 = .ok (.goto (-79), 3) := by decide +kernel
theorem kd_Mo_findDelays_113 : decode kc_Mo_findDelays 113 = .ok (.iinc 1 1, 3) := by decide +kernel
theorem kd_Mo_findDelays_116 : decode kc_Mo_findDelays 116 = .ok (.goto (-93), 3) := by decide +kernel
theorem kd_Mo_findDelays_119 : decode kc_Mo_findDelays 119 = .ok (.return_, 1) := by decide +kernel
theorem kd_Mo_delayIn_0 : decode kc_Mo_delayIn 0 = .ok (.iconst 0, 1) := by decide +kernel
theorem kd_Mo_delayIn_1 : decode kc_Mo_delayIn 1 = .ok (.istore_n 2, 1) := by decide +kernel
theorem kd_Mo_delayIn_2 : decode kc_Mo_delayIn 2 = .ok (.iconst 0, 1) := by decide +kernel
theorem kd_Mo_delayIn_3 : decode kc_Mo_delayIn 3 = .ok (.istore_n 3, 1) := by decide +kernel
theorem kd_Mo_delayIn_4 : decode kc_Mo_delayIn 4 = .ok (.iload_n 3, 1) := by decide +kernel
theorem kd_Mo_delayIn_5 : decode kc_Mo_delayIn 5 = .ok (.bipush 8, 2) := by decide +kernel
theorem kd_Mo_delayIn_7 : decode kc_Mo_delayIn 7 = .ok (.if_icmp .ge 39, 3) := by decide +kernel
theorem kd_Mo_delayIn_10 : decode kc_Mo_delayIn 10 = .ok (.aload_n 0, 1) := by decide +kernel
theorem kd_Mo_delayIn_11 : decode kc_Mo_delayIn 11 = .ok (.iload_n 3, 1) := by decide +kernel
theorem kd_Mo_delayIn_12 : decode kc_Mo_delayIn 12 = .ok (.iload_n 1, 1) := by decide +kernel
theorem kd_Mo_delayIn_13 : decode kc_Mo_delayIn 13 = .ok (.invokevirtual 133, 3) := by decide +kernel
theorem kd_Mo_delayIn_16 : decode kc_Mo_delayIn 16 = .ok (.ifCond .eq 22, 3) := by decide +kernel
theorem kd_Mo_delayIn_19 : decode kc_Mo_delayIn 19 = .ok (.aload_n 0, 1) := by decide +kernel
theorem kd_Mo_delayIn_20 : decode kc_Mo_delayIn 20 = .ok (.getfield 83, 3) := by decide +kernel
theorem kd_Mo_delayIn_23 : decode kc_Mo_delayIn 23 = .ok (.iload_n 3, 1) := by decide +kernel
theorem kd_Mo_delayIn_24 : decode kc_Mo_delayIn 24 = .ok (.iaload, 1) := by decide +kernel
theorem kd_Mo_delayIn_25 : decode kc_Mo_delayIn 25 = .ok (.iload_n 2, 1) := by decide +kernel
theorem kd_Mo_delayIn_26 : decode kc_Mo_delayIn 26 = .ok (.if_icmp .le 12, 3) := by decide +kernel
theorem kd_Mo_delayIn_29 : decode kc_Mo_delayIn 29 = .ok (.aload_n 0, 1) := by decide +kernel
theorem kd_Mo_delayIn_30 : decode kc_Mo_delayIn 30 = .ok (.getfield 83, 3) := by decide +kernel
theorem kd_Mo_delayIn_33 : decode kc_Mo_delayIn 33 = .ok (.iload_n 3, 1) := by decide +kernel
theorem kd_Mo_delayIn_34 : decode kc_Mo_delayIn 34 = .ok (.iaload, 1) := by decide +kernel
theorem kd_Mo_delayIn_35 : decode kc_Mo_delayIn 35 = .ok (.goto 4, 3) := by decide +kernel
theorem kd_Mo_delayIn_38 : decode kc_Mo_delayIn 38 = .ok (.iload_n 2, 1) := by decide +kernel
theorem kd_Mo_delayIn_39 : decode kc_Mo_delayIn 39 = .ok (.istore_n 2, 1) := by decide +kernel
theorem kd_Mo_delayIn_40 : decode kc_Mo_delayIn 40 = .ok (.iinc 3 1, 3) := by decide +kernel
theorem kd_Mo_delayIn_43 : decode kc_Mo_delayIn 43 = .ok (.goto (-39), 3) := by decide +kernel
theorem kd_Mo_delayIn_46 : decode kc_Mo_delayIn 46 = .ok (.iload_n 2, 1) := by decide +kernel
theorem kd_Mo_delayIn_47 : decode kc_Mo_delayIn 47 = .ok (.ireturn, 1) := by decide +kernel
theorem kd_Mo_mixIn_0 : decode kc_Mo_mixIn 0 = .ok (.aload_n 0, 1) := by decide +kernel
theorem kd_Mo_mixIn_1 : decode kc_Mo_mixIn 1 = .ok (.iload_n 1, 1) := by decide +kernel
theorem kd_Mo_mixIn_2 : decode kc_Mo_mixIn 2 = .ok (.invokevirtual 155, 3) := by decide +kernel
theorem kd_Mo_mixIn_5 : decode kc_Mo_mixIn 5 = .ok (.istore_n 3, 1) := by decide +kernel
theorem kd_Mo_mixIn_6 : decode kc_Mo_mixIn 6 = .ok (.iconst 0, 1) := by decide +kernel
theorem kd_Mo_mixIn_7 : decode kc_Mo_mixIn 7 = .ok (.istore 4, 2) := by decide +kernel
theorem kd_Mo_mixIn_9 : decode kc_Mo_mixIn 9 = .ok (.iload 4, 2) := by decide +kernel
theorem kd_Mo_mixIn_11 : decode kc_Mo_mixIn 11 = .ok (.iload_n 2, 1) := by decide +kernel
theorem kd_Mo_mixIn_12 : decode kc_Mo_mixIn 12 = .ok (.if_icmp .ge 148, 3) := by decide +kernel
theorem kd_Mo_mixIn_15 : decode kc_Mo_mixIn 15 = .ok (.lconst 0, 1) := by decide +kernel
theorem kd_Mo_mixIn_16 : decode kc_Mo_mixIn 16 = .ok (.lstore 5, 2) := by decide +kernel
theorem kd_Mo_mixIn_18 : decode kc_Mo_mixIn 18 = .ok (.iconst 0, 1) := by decide +kernel
theorem kd_Mo_mixIn_19 : decode kc_Mo_mixIn 19 = .ok (.istore 7, 2) := by decide +kernel
theorem kd_Mo_mixIn_21 : decode kc_Mo_mixIn 21 = .ok (.iload 7, 2) := by decide +kernel
theorem kd_Mo_mixIn_23 : decode kc_Mo_mixIn 23 = .ok (.bipush 7, 2) := by decide +kernel
theorem kd_Mo_mixIn_25 : decode kc_Mo_mixIn 25 = .ok (.if_icmp .ge 117, 3) := by decide +kernel
theorem kd_Mo_mixIn_28 : decode kc_Mo_mixIn 28 = .ok (.iload 4, 2) := by decide +kernel
theorem kd_Mo_mixIn_30 : decode kc_Mo_mixIn 30 = .ok (.iload_n 3, 1) := by decide +kernel
theorem kd_Mo_mixIn_31 : decode kc_Mo_mixIn 31 = .ok (.isub, 1) := by decide +kernel
theorem kd_Mo_mixIn_32 : decode kc_Mo_mixIn 32 = .ok (.aload_n 0, 1) := by decide +kernel
theorem kd_Mo_mixIn_33 : decode kc_Mo_mixIn 33 = .ok (.getfield 83, 3) := by decide +kernel
theorem kd_Mo_mixIn_36 : decode kc_Mo_mixIn 36 = .ok (.iload 7, 2) := by decide +kernel
theorem kd_Mo_mixIn_38 : decode kc_Mo_mixIn 38 = .ok (.iaload, 1) := by decide +kernel
theorem kd_Mo_mixIn_39 : decode kc_Mo_mixIn 39 = .ok (.iadd, 1) := by decide +kernel
theorem kd_Mo_mixIn_40 : decode kc_Mo_mixIn 40 = .ok (.istore 8, 2) := by decide +kernel
theorem kd_Mo_mixIn_42 : decode kc_Mo_mixIn 42 = .ok (.aload_n 0, 1) := by decide +kernel
theorem kd_Mo_mixIn_43 : decode kc_Mo_mixIn 43 = .ok (.iload 7, 2) := by decide +kernel
theorem kd_Mo_mixIn_45 : decode kc_Mo_mixIn 45 = .ok (.iload_n 1, 1) := by decide +kernel
theorem kd_Mo_mixIn_46 : decode kc_Mo_mixIn 46 = .ok (.invokevirtual 133, 3) := by decide +kernel
theorem kd_Mo_mixIn_49 : decode kc_Mo_mixIn 49 = .ok (.ifCond .eq 26, 3) := by decide +kernel
theorem kd_Mo_mixIn_52 : decode kc_Mo_mixIn 52 = .ok (.iload 8, 2) := by decide +kernel
theorem kd_Mo_mixIn_54 : decode kc_Mo_mixIn 54 = .ok (.ifCond .lt 21, 3) := by decide +kernel
theorem kd_Mo_mixIn_57 : decode kc_Mo_mixIn 57 = .ok (.aload_n 0, 1) := by decide +kernel
theorem kd_Mo_mixIn_58 : decode kc_Mo_mixIn 58 = .ok (.getfield 89, 3) := by decide +kernel
theorem kd_Mo_mixIn_61 : decode kc_Mo_mixIn 61 = .ok (.sipush 1024, 3) := by decide +kernel
theorem kd_Mo_mixIn_64 : decode kc_Mo_mixIn 64 = .ok (.iload 7, 2) := by decide +kernel
theorem kd_Mo_mixIn_66 : decode kc_Mo_mixIn 66 = .ok (.imul, 1) := by decide +kernel
theorem kd_Mo_mixIn_67 : decode kc_Mo_mixIn 67 = .ok (.iload 8, 2) := by decide +kernel
theorem kd_Mo_mixIn_69 : decode kc_Mo_mixIn 69 = .ok (.iadd, 1) := by decide +kernel
theorem kd_Mo_mixIn_70 : decode kc_Mo_mixIn 70 = .ok (.iaload, 1) := by decide +kernel
theorem kd_Mo_mixIn_71 : decode kc_Mo_mixIn 71 = .ok (.i2l, 1) := by decide +kernel
theorem kd_Mo_mixIn_72 : decode kc_Mo_mixIn 72 = .ok (.goto 4, 3) := by decide +kernel
theorem kd_Mo_mixIn_75 : decode kc_Mo_mixIn 75 = .ok (.lconst 0, 1) := by decide +kernel
theorem kd_Mo_mixIn_76 : decode kc_Mo_mixIn 76 = .ok (.lstore 9, 2) := by decide +kernel
theorem kd_Mo_mixIn_78 : decode kc_Mo_mixIn 78 = .ok (.aload_n 0, 1) := by decide +kernel
theorem kd_Mo_mixIn_79 : decode kc_Mo_mixIn 79 = .ok (.getfield 44, 3) := by decide +kernel
theorem kd_Mo_mixIn_82 : decode kc_Mo_mixIn 82 = .ok (.iload 7, 2) := by decide +kernel
theorem kd_Mo_mixIn_84 : decode kc_Mo_mixIn 84 = .ok (.iaload, 1) := by decide +kernel
theorem kd_Mo_mixIn_85 : decode kc_Mo_mixIn 85 = .ok (.iload_n 1, 1) := by decide +kernel
theorem kd_Mo_mixIn_86 : decode kc_Mo_mixIn 86 = .ok (.if_icmp .ne 11, 3) := by decide +kernel
theorem kd_Mo_mixIn_89 : decode kc_Mo_mixIn 89 = .ok (.lload 5, 2) := by decide +kernel
theorem kd_Mo_mixIn_91 : decode kc_Mo_mixIn 91 = .ok (.lload 9, 2) := by decide +kernel
theorem kd_Mo_mixIn_93 : decode kc_Mo_mixIn 93 = .ok (.ladd, 1) := by decide +kernel
theorem kd_Mo_mixIn_94 : decode kc_Mo_mixIn 94 = .ok (.goto 5, 3) := by decide +kernel
theorem kd_Mo_mixIn_97 : decode kc_Mo_mixIn 97 = .ok (.lload 5, 2) := by decide +kernel
theorem kd_Mo_mixIn_99 : decode kc_Mo_mixIn 99 = .ok (.lstore 5, 2) := by decide +kernel
theorem kd_Mo_mixIn_101 : decode kc_Mo_mixIn 101 = .ok (.iload_n 1, 1) := by decide +kernel
theorem kd_Mo_mixIn_102 : decode kc_Mo_mixIn 102 = .ok (.bipush 7, 2) := by decide +kernel
theorem kd_Mo_mixIn_104 : decode kc_Mo_mixIn 104 = .ok (.if_icmp .ge 28, 3) := by decide +kernel
theorem kd_Mo_mixIn_107 : decode kc_Mo_mixIn 107 = .ok (.lload 5, 2) := by decide +kernel
theorem kd_Mo_mixIn_109 : decode kc_Mo_mixIn 109 = .ok (.lload 9, 2) := by decide +kernel
theorem kd_Mo_mixIn_111 : decode kc_Mo_mixIn 111 = .ok (.aload_n 0, 1) := by decide +kernel
theorem kd_Mo_mixIn_112 : decode kc_Mo_mixIn 112 = .ok (.getfield 47, 3) := by decide +kernel
theorem kd_Mo_mixIn_115 : decode kc_Mo_mixIn 115 = .ok (.iconst 3, 1) := by decide +kernel
theorem kd_Mo_mixIn_116 : decode kc_Mo_mixIn 116 = .ok (.iload 7, 2) := by decide +kernel
theorem kd_Mo_mixIn_118 : decode kc_Mo_mixIn 118 = .ok (.imul, 1) := by decide +kernel
theorem kd_Mo_mixIn_119 : decode kc_Mo_mixIn 119 = .ok (.iload_n 1, 1) := by decide +kernel
theorem kd_Mo_mixIn_120 : decode kc_Mo_mixIn 120 = .ok (.iadd, 1) := by decide +kernel
theorem kd_Mo_mixIn_121 : decode kc_Mo_mixIn 121 = .ok (.iconst 4, 1) := by decide +kernel
theorem kd_Mo_mixIn_122 : decode kc_Mo_mixIn 122 = .ok (.isub, 1) := by decide +kernel
theorem kd_Mo_mixIn_123 : decode kc_Mo_mixIn 123 = .ok (.iaload, 1) := by decide +kernel
theorem kd_Mo_mixIn_124 : decode kc_Mo_mixIn 124 = .ok (.i2l, 1) := by decide +kernel
theorem kd_Mo_mixIn_125 : decode kc_Mo_mixIn 125 = .ok (.invokestatic 148, 3) := by decide +kernel
theorem kd_Mo_mixIn_128 : decode kc_Mo_mixIn 128 = .ok (.ladd, 1) := by decide +kernel
theorem kd_Mo_mixIn_129 : decode kc_Mo_mixIn 129 = .ok (.goto 5, 3) := by decide +kernel
theorem kd_Mo_mixIn_132 : decode kc_Mo_mixIn 132 = .ok (.lload 5, 2) := by decide +kernel
theorem kd_Mo_mixIn_134 : decode kc_Mo_mixIn 134 = .ok (.lstore 5, 2) := by decide +kernel
theorem kd_Mo_mixIn_136 : decode kc_Mo_mixIn 136 = .ok (.iinc 7 1, 3) := by decide +kernel
theorem kd_Mo_mixIn_139 : decode kc_Mo_mixIn 139 = .ok (.goto (-118), 3) := by decide +kernel
theorem kd_Mo_mixIn_142 : decode kc_Mo_mixIn 142 = .ok (.aload_n 0, 1) := by decide +kernel
theorem kd_Mo_mixIn_143 : decode kc_Mo_mixIn 143 = .ok (.getfield 92, 3) := by decide +kernel
theorem kd_Mo_mixIn_146 : decode kc_Mo_mixIn 146 = .ok (.iload 4, 2) := by decide +kernel
theorem kd_Mo_mixIn_148 : decode kc_Mo_mixIn 148 = .ok (.lload 5, 2) := by decide +kernel
theorem kd_Mo_mixIn_150 : decode kc_Mo_mixIn 150 = .ok (.invokestatic 159, 3) := by decide +kernel
theorem kd_Mo_mixIn_153 : decode kc_Mo_mixIn 153 = .ok (.iastore, 1) := by decide +kernel
theorem kd_Mo_mixIn_154 : decode kc_Mo_mixIn 154 = .ok (.iinc 4 1, 3) := by decide +kernel
theorem kd_Mo_mixIn_157 : decode kc_Mo_mixIn 157 = .ok (.goto (-148), 3) := by decide +kernel
theorem kd_Mo_mixIn_160 : decode kc_Mo_mixIn 160 = .ok (.return_, 1) := by decide +kernel
theorem kd_Mo_size_0 : decode kc_Mo_size 0 = .ok (.aload_n 0, 1) := by decide +kernel
theorem kd_Mo_size_1 : decode kc_Mo_size 1 = .ok (.getfield 92, 3) := by decide +kernel
theorem kd_Mo_size_4 : decode kc_Mo_size 4 = .ok (.iload_n 1, 1) := by decide +kernel
theorem kd_Mo_size_5 : decode kc_Mo_size 5 = .ok (.iaload, 1) := by decide +kernel
theorem kd_Mo_size_6 : decode kc_Mo_size 6 = .ok (.ifCond .ge 14, 3) := by decide +kernel
theorem kd_Mo_size_9 : decode kc_Mo_size 9 = .ok (.aload_n 0, 1) := by decide +kernel
theorem kd_Mo_size_10 : decode kc_Mo_size 10 = .ok (.getfield 92, 3) := by decide +kernel
theorem kd_Mo_size_13 : decode kc_Mo_size 13 = .ok (.iload_n 1, 1) := by decide +kernel
theorem kd_Mo_size_14 : decode kc_Mo_size 14 = .ok (.iaload, 1) := by decide +kernel
theorem kd_Mo_size_15 : decode kc_Mo_size 15 = .ok (.ineg, 1) := by decide +kernel
theorem kd_Mo_size_16 : decode kc_Mo_size 16 = .ok (.i2l, 1) := by decide +kernel
theorem kd_Mo_size_17 : decode kc_Mo_size 17 = .ok (.goto 10, 3) := by decide +kernel
theorem kd_Mo_size_20 : decode kc_Mo_size 20 = .ok (.aload_n 0, 1) := by decide +kernel
theorem kd_Mo_size_21 : decode kc_Mo_size 21 = .ok (.getfield 92, 3) := by decide +kernel
theorem kd_Mo_size_24 : decode kc_Mo_size 24 = .ok (.iload_n 1, 1) := by decide +kernel
theorem kd_Mo_size_25 : decode kc_Mo_size 25 = .ok (.iaload, 1) := by decide +kernel
theorem kd_Mo_size_26 : decode kc_Mo_size 26 = .ok (.i2l, 1) := by decide +kernel
theorem kd_Mo_size_27 : decode kc_Mo_size 27 = .ok (.lreturn, 1) := by decide +kernel
theorem kd_Mo_limited_0 : decode kc_Mo_limited 0 = .ok (.lconst 0, 1) := by decide +kernel
theorem kd_Mo_limited_1 : decode kc_Mo_limited 1 = .ok (.lstore 4, 2) := by decide +kernel
theorem kd_Mo_limited_3 : decode kc_Mo_limited 3 = .ok (.iconst 0, 1) := by decide +kernel
theorem kd_Mo_limited_4 : decode kc_Mo_limited 4 = .ok (.istore 6, 2) := by decide +kernel
theorem kd_Mo_limited_6 : decode kc_Mo_limited 6 = .ok (.iload 6, 2) := by decide +kernel
theorem kd_Mo_limited_8 : decode kc_Mo_limited 8 = .ok (.iload_n 3, 1) := by decide +kernel
theorem kd_Mo_limited_9 : decode kc_Mo_limited 9 = .ok (.if_icmp .gt 44, 3) := by decide +kernel
theorem kd_Mo_limited_12 : decode kc_Mo_limited 12 = .ok (.iload 6, 2) := by decide +kernel
theorem kd_Mo_limited_14 : decode kc_Mo_limited 14 = .ok (.iload_n 1, 1) := by decide +kernel
theorem kd_Mo_limited_15 : decode kc_Mo_limited 15 = .ok (.if_icmp .gt 38, 3) := by decide +kernel
theorem kd_Mo_limited_18 : decode kc_Mo_limited 18 = .ok (.aload_n 0, 1) := by decide +kernel
theorem kd_Mo_limited_19 : decode kc_Mo_limited 19 = .ok (.iload_n 1, 1) := by decide +kernel
theorem kd_Mo_limited_20 : decode kc_Mo_limited 20 = .ok (.iload 6, 2) := by decide +kernel
theorem kd_Mo_limited_22 : decode kc_Mo_limited 22 = .ok (.isub, 1) := by decide +kernel
theorem kd_Mo_limited_23 : decode kc_Mo_limited 23 = .ok (.invokevirtual 163, 3) := by decide +kernel
theorem kd_Mo_limited_26 : decode kc_Mo_limited 26 = .ok (.lload 4, 2) := by decide +kernel
theorem kd_Mo_limited_28 : decode kc_Mo_limited 28 = .ok (.lcmp, 1) := by decide +kernel
theorem kd_Mo_limited_29 : decode kc_Mo_limited 29 = .ok (.ifCond .le 14, 3) := by decide +kernel
theorem kd_Mo_limited_32 : decode kc_Mo_limited 32 = .ok (.aload_n 0, 1) := by decide +kernel
theorem kd_Mo_limited_33 : decode kc_Mo_limited 33 = .ok (.iload_n 1, 1) := by decide +kernel
theorem kd_Mo_limited_34 : decode kc_Mo_limited 34 = .ok (.iload 6, 2) := by decide +kernel
theorem kd_Mo_limited_36 : decode kc_Mo_limited 36 = .ok (.isub, 1) := by decide +kernel
theorem kd_Mo_limited_37 : decode kc_Mo_limited 37 = .ok (.invokevirtual 163, 3) := by decide +kernel
theorem kd_Mo_limited_40 : decode kc_Mo_limited 40 = .ok (.goto 5, 3) := by decide +kernel
theorem kd_Mo_limited_43 : decode kc_Mo_limited 43 = .ok (.lload 4, 2) := by decide +kernel
theorem kd_Mo_limited_45 : decode kc_Mo_limited 45 = .ok (.lstore 4, 2) := by decide +kernel
theorem kd_Mo_limited_47 : decode kc_Mo_limited 47 = .ok (.iinc 6 1, 3) := by decide +kernel
theorem kd_Mo_limited_50 : decode kc_Mo_limited 50 = .ok (.goto (-44), 3) := by decide +kernel
theorem kd_Mo_limited_53 : decode kc_Mo_limited 53 = .ok (.iload_n 1, 1) := by decide +kernel
theorem kd_Mo_limited_54 : decode kc_Mo_limited 54 = .ok (.iload_n 3, 1) := by decide +kernel
theorem kd_Mo_limited_55 : decode kc_Mo_limited 55 = .ok (.if_icmp .ge 7, 3) := by decide +kernel
theorem kd_Mo_limited_58 : decode kc_Mo_limited 58 = .ok (.lconst 0, 1) := by decide +kernel
theorem kd_Mo_limited_59 : decode kc_Mo_limited 59 = .ok (.goto 12, 3) := by decide +kernel
theorem kd_Mo_limited_62 : decode kc_Mo_limited 62 = .ok (.aload_n 0, 1) := by decide +kernel
theorem kd_Mo_limited_63 : decode kc_Mo_limited 63 = .ok (.getfield 92, 3) := by decide +kernel
theorem kd_Mo_limited_66 : decode kc_Mo_limited 66 = .ok (.iload_n 1, 1) := by decide +kernel
theorem kd_Mo_limited_67 : decode kc_Mo_limited 67 = .ok (.iload_n 3, 1) := by decide +kernel
theorem kd_Mo_limited_68 : decode kc_Mo_limited 68 = .ok (.isub, 1) := by decide +kernel
theorem kd_Mo_limited_69 : decode kc_Mo_limited 69 = .ok (.iaload, 1) := by decide +kernel
theorem kd_Mo_limited_70 : decode kc_Mo_limited 70 = .ok (.i2l, 1) := by decide +kernel
theorem kd_Mo_limited_71 : decode kc_Mo_limited 71 = .ok (.lstore 6, 2) := by decide +kernel
theorem kd_Mo_limited_73 : decode kc_Mo_limited 73 = .ok (.lload 4, 2) := by decide +kernel
theorem kd_Mo_limited_75 : decode kc_Mo_limited 75 = .ok (.iload_n 2, 1) := by decide +kernel
theorem kd_Mo_limited_76 : decode kc_Mo_limited 76 = .ok (.i2l, 1) := by decide +kernel
theorem kd_Mo_limited_77 : decode kc_Mo_limited 77 = .ok (.lcmp, 1) := by decide +kernel
theorem kd_Mo_limited_78 : decode kc_Mo_limited 78 = .ok (.ifCond .gt 8, 3) := by decide +kernel
theorem kd_Mo_limited_81 : decode kc_Mo_limited 81 = .ok (.lload 6, 2) := by decide +kernel
theorem kd_Mo_limited_83 : decode kc_Mo_limited 83 = .ok (.goto 11, 3) := by decide +kernel
theorem kd_Mo_limited_86 : decode kc_Mo_limited 86 = .ok (.lload 6, 2) := by decide +kernel
theorem kd_Mo_limited_88 : decode kc_Mo_limited 88 = .ok (.iload_n 2, 1) := by decide +kernel
theorem kd_Mo_limited_89 : decode kc_Mo_limited 89 = .ok (.i2l, 1) := by decide +kernel
theorem kd_Mo_limited_90 : decode kc_Mo_limited 90 = .ok (.lmul, 1) := by decide +kernel
theorem kd_Mo_limited_91 : decode kc_Mo_limited 91 = .ok (.lload 4, 2) := by decide +kernel
theorem kd_Mo_limited_93 : decode kc_Mo_limited 93 = .ok (.ldiv, 1) := by decide +kernel
theorem kd_Mo_limited_94 : decode kc_Mo_limited 94 = .ok (.lreturn, 1) := by decide +kernel
theorem kd_Mo_work_0 : decode kc_Mo_work 0 = .ok (.lconst 0, 1) := by decide +kernel
theorem kd_Mo_work_1 : decode kc_Mo_work 1 = .ok (.lstore 5, 2) := by decide +kernel
theorem kd_Mo_work_3 : decode kc_Mo_work 3 = .ok (.iconst 0, 1) := by decide +kernel
theorem kd_Mo_work_4 : decode kc_Mo_work 4 = .ok (.istore 7, 2) := by decide +kernel
theorem kd_Mo_work_6 : decode kc_Mo_work 6 = .ok (.iload 7, 2) := by decide +kernel
theorem kd_Mo_work_8 : decode kc_Mo_work 8 = .ok (.iload 4, 2) := by decide +kernel
theorem kd_Mo_work_10 : decode kc_Mo_work 10 = .ok (.if_icmp .ge 246, 3) := by decide +kernel
theorem kd_Mo_work_13 : decode kc_Mo_work 13 = .ok (.aload_n 0, 1) := by decide +kernel
theorem kd_Mo_work_14 : decode kc_Mo_work 14 = .ok (.getfield 92, 3) := by decide +kernel
theorem kd_Mo_work_17 : decode kc_Mo_work 17 = .ok (.iload 7, 2) := by decide +kernel
theorem kd_Mo_work_19 : decode kc_Mo_work 19 = .ok (.iaload, 1) := by decide +kernel
theorem kd_Mo_work_20 : decode kc_Mo_work 20 = .ok (.i2l, 1) := by decide +kernel
theorem kd_Mo_work_21 : decode kc_Mo_work 21 = .ok (.lstore 8, 2) := by decide +kernel
theorem kd_Mo_work_23 : decode kc_Mo_work 23 = .ok (.iload_n 1, 1) := by decide +kernel
theorem kd_Mo_work_24 : decode kc_Mo_work 24 = .ok (.tableswitch 214 1 6 #[40, 52, 74, 107, 120, 179], 40) := by decide +kernel
theorem kd_Mo_work_64 : decode kc_Mo_work 64 = .ok (.lload 8, 2) := by decide +kernel
theorem kd_Mo_work_66 : decode kc_Mo_work 66 = .ok (.iload_n 2, 1) := by decide +kernel
theorem kd_Mo_work_67 : decode kc_Mo_work 67 = .ok (.i2l, 1) := by decide +kernel
theorem kd_Mo_work_68 : decode kc_Mo_work 68 = .ok (.invokestatic 148, 3) := by decide +kernel
theorem kd_Mo_work_71 : decode kc_Mo_work 71 = .ok (.lstore 8, 2) := by decide +kernel
theorem kd_Mo_work_73 : decode kc_Mo_work 73 = .ok (.goto 165, 3) := by decide +kernel
theorem kd_Mo_work_76 : decode kc_Mo_work 76 = .ok (.lload 5, 2) := by decide +kernel
theorem kd_Mo_work_78 : decode kc_Mo_work 78 = .ok (.lload 8, 2) := by decide +kernel
theorem kd_Mo_work_80 : decode kc_Mo_work 80 = .ok (.lload 5, 2) := by decide +kernel
theorem kd_Mo_work_82 : decode kc_Mo_work 82 = .ok (.lsub, 1) := by decide +kernel
theorem kd_Mo_work_83 : decode kc_Mo_work 83 = .ok (.iload_n 2, 1) := by decide +kernel
theorem kd_Mo_work_84 : decode kc_Mo_work 84 = .ok (.i2l, 1) := by decide +kernel
theorem kd_Mo_work_85 : decode kc_Mo_work 85 = .ok (.invokestatic 148, 3) := by decide +kernel
theorem kd_Mo_work_88 : decode kc_Mo_work 88 = .ok (.ladd, 1) := by decide +kernel
theorem kd_Mo_work_89 : decode kc_Mo_work 89 = .ok (.lstore 5, 2) := by decide +kernel
theorem kd_Mo_work_91 : decode kc_Mo_work 91 = .ok (.lload 5, 2) := by decide +kernel
theorem kd_Mo_work_93 : decode kc_Mo_work 93 = .ok (.lstore 8, 2) := by decide +kernel
theorem kd_Mo_work_95 : decode kc_Mo_work 95 = .ok (.goto 143, 3) := by decide +kernel
theorem kd_Mo_work_98 : decode kc_Mo_work 98 = .ok (.lload 8, 2) := by decide +kernel
theorem kd_Mo_work_100 : decode kc_Mo_work 100 = .ok (.iload 7, 2) := by decide +kernel
theorem kd_Mo_work_102 : decode kc_Mo_work 102 = .ok (.iload_n 2, 1) := by decide +kernel
theorem kd_Mo_work_103 : decode kc_Mo_work 103 = .ok (.if_icmp .ge 7, 3) := by decide +kernel
theorem kd_Mo_work_106 : decode kc_Mo_work 106 = .ok (.lconst 0, 1) := by decide +kernel
theorem kd_Mo_work_107 : decode kc_Mo_work 107 = .ok (.goto 18, 3) := by decide +kernel
theorem kd_Mo_work_110 : decode kc_Mo_work 110 = .ok (.aload_n 0, 1) := by decide +kernel
theorem kd_Mo_work_111 : decode kc_Mo_work 111 = .ok (.getfield 95, 3) := by decide +kernel
theorem kd_Mo_work_114 : decode kc_Mo_work 114 = .ok (.iload 7, 2) := by decide +kernel
theorem kd_Mo_work_116 : decode kc_Mo_work 116 = .ok (.iload_n 2, 1) := by decide +kernel
theorem kd_Mo_work_117 : decode kc_Mo_work 117 = .ok (.isub, 1) := by decide +kernel
theorem kd_Mo_work_118 : decode kc_Mo_work 118 = .ok (.iaload, 1) := by decide +kernel
theorem kd_Mo_work_119 : decode kc_Mo_work 119 = .ok (.i2l, 1) := by decide +kernel
theorem kd_Mo_work_120 : decode kc_Mo_work 120 = .ok (.iload_n 3, 1) := by decide +kernel
theorem kd_Mo_work_121 : decode kc_Mo_work 121 = .ok (.i2l, 1) := by decide +kernel
theorem kd_Mo_work_122 : decode kc_Mo_work 122 = .ok (.invokestatic 148, 3) := by decide +kernel
theorem kd_Mo_work_125 : decode kc_Mo_work 125 = .ok (.ladd, 1) := by decide +kernel
theorem kd_Mo_work_126 : decode kc_Mo_work 126 = .ok (.lstore 8, 2) := by decide +kernel
theorem kd_Mo_work_128 : decode kc_Mo_work 128 = .ok (.goto 110, 3) := by decide +kernel
theorem kd_Mo_work_131 : decode kc_Mo_work 131 = .ok (.aload_n 0, 1) := by decide +kernel
theorem kd_Mo_work_132 : decode kc_Mo_work 132 = .ok (.iload 7, 2) := by decide +kernel
theorem kd_Mo_work_134 : decode kc_Mo_work 134 = .ok (.iload_n 2, 1) := by decide +kernel
theorem kd_Mo_work_135 : decode kc_Mo_work 135 = .ok (.iload_n 3, 1) := by decide +kernel
theorem kd_Mo_work_136 : decode kc_Mo_work 136 = .ok (.invokevirtual 167, 3) := by decide +kernel
theorem kd_Mo_work_139 : decode kc_Mo_work 139 = .ok (.lstore 8, 2) := by decide +kernel
theorem kd_Mo_work_141 : decode kc_Mo_work 141 = .ok (.goto 97, 3) := by decide +kernel
theorem kd_Mo_work_144 : decode kc_Mo_work 144 = .ok (.aload_n 0, 1) := by decide +kernel
theorem kd_Mo_work_145 : decode kc_Mo_work 145 = .ok (.iload 7, 2) := by decide +kernel
theorem kd_Mo_work_147 : decode kc_Mo_work 147 = .ok (.invokevirtual 163, 3) := by decide +kernel
theorem kd_Mo_work_150 : decode kc_Mo_work 150 = .ok (.iload_n 2, 1) := by decide +kernel
theorem kd_Mo_work_151 : decode kc_Mo_work 151 = .ok (.i2l, 1) := by decide +kernel
theorem kd_Mo_work_152 : decode kc_Mo_work 152 = .ok (.lcmp, 1) := by decide +kernel
theorem kd_Mo_work_153 : decode kc_Mo_work 153 = .ok (.ifCond .lt 10, 3) := by decide +kernel
theorem kd_Mo_work_156 : decode kc_Mo_work 156 = .ok (.iload_n 3, 1) := by decide +kernel
theorem kd_Mo_work_157 : decode kc_Mo_work 157 = .ok (.iconst 1, 1) := by decide +kernel
theorem kd_Mo_work_158 : decode kc_Mo_work 158 = .ok (.iadd, 1) := by decide +kernel
theorem kd_Mo_work_159 : decode kc_Mo_work 159 = .ok (.i2l, 1) := by decide +kernel
theorem kd_Mo_work_160 : decode kc_Mo_work 160 = .ok (.goto 5, 3) := by decide +kernel
theorem kd_Mo_work_163 : decode kc_Mo_work 163 = .ok (.lload 5, 2) := by decide +kernel
theorem kd_Mo_work_165 : decode kc_Mo_work 165 = .ok (.lstore 5, 2) := by decide +kernel
theorem kd_Mo_work_167 : decode kc_Mo_work 167 = .ok (.lload 5, 2) := by decide +kernel
theorem kd_Mo_work_169 : decode kc_Mo_work 169 = .ok (.lconst 0, 1) := by decide +kernel
theorem kd_Mo_work_170 : decode kc_Mo_work 170 = .ok (.lcmp, 1) := by decide +kernel
theorem kd_Mo_work_171 : decode kc_Mo_work 171 = .ok (.ifCond .le 8, 3) := by decide +kernel
theorem kd_Mo_work_174 : decode kc_Mo_work 174 = .ok (.lload 8, 2) := by decide +kernel
theorem kd_Mo_work_176 : decode kc_Mo_work 176 = .ok (.goto 4, 3) := by decide +kernel
theorem kd_Mo_work_179 : decode kc_Mo_work 179 = .ok (.lconst 0, 1) := by decide +kernel
theorem kd_Mo_work_180 : decode kc_Mo_work 180 = .ok (.lstore 8, 2) := by decide +kernel
theorem kd_Mo_work_182 : decode kc_Mo_work 182 = .ok (.lload 5, 2) := by decide +kernel
theorem kd_Mo_work_184 : decode kc_Mo_work 184 = .ok (.lconst 0, 1) := by decide +kernel
theorem kd_Mo_work_185 : decode kc_Mo_work 185 = .ok (.lcmp, 1) := by decide +kernel
theorem kd_Mo_work_186 : decode kc_Mo_work 186 = .ok (.ifCond .le 10, 3) := by decide +kernel
theorem kd_Mo_work_189 : decode kc_Mo_work 189 = .ok (.lload 5, 2) := by decide +kernel
theorem kd_Mo_work_191 : decode kc_Mo_work 191 = .ok (.lconst 1, 1) := by decide +kernel
theorem kd_Mo_work_192 : decode kc_Mo_work 192 = .ok (.lsub, 1) := by decide +kernel
theorem kd_Mo_work_193 : decode kc_Mo_work 193 = .ok (.goto 5, 3) := by decide +kernel
theorem kd_Mo_work_196 : decode kc_Mo_work 196 = .ok (.lload 5, 2) := by decide +kernel
theorem kd_Mo_work_198 : decode kc_Mo_work 198 = .ok (.lstore 5, 2) := by decide +kernel
theorem kd_Mo_work_200 : decode kc_Mo_work 200 = .ok (.goto 38, 3) := by decide +kernel
theorem kd_Mo_work_203 : decode kc_Mo_work 203 = .ok (.lload 8, 2) := by decide +kernel
theorem kd_Mo_work_205 : decode kc_Mo_work 205 = .ok (.iload_n 2, 1) := by decide +kernel
theorem kd_Mo_work_206 : decode kc_Mo_work 206 = .ok (.ineg, 1) := by decide +kernel
theorem kd_Mo_work_207 : decode kc_Mo_work 207 = .ok (.i2l, 1) := by decide +kernel
theorem kd_Mo_work_208 : decode kc_Mo_work 208 = .ok (.lcmp, 1) := by decide +kernel
theorem kd_Mo_work_209 : decode kc_Mo_work 209 = .ok (.ifCond .ge 9, 3) := by decide +kernel
theorem kd_Mo_work_212 : decode kc_Mo_work 212 = .ok (.iload_n 2, 1) := by decide +kernel
theorem kd_Mo_work_213 : decode kc_Mo_work 213 = .ok (.ineg, 1) := by decide +kernel
theorem kd_Mo_work_214 : decode kc_Mo_work 214 = .ok (.i2l, 1) := by decide +kernel
theorem kd_Mo_work_215 : decode kc_Mo_work 215 = .ok (.goto 18, 3) := by decide +kernel
theorem kd_Mo_work_218 : decode kc_Mo_work 218 = .ok (.lload 8, 2) := by decide +kernel
theorem kd_Mo_work_220 : decode kc_Mo_work 220 = .ok (.iload_n 2, 1) := by decide +kernel
theorem kd_Mo_work_221 : decode kc_Mo_work 221 = .ok (.i2l, 1) := by decide +kernel
theorem kd_Mo_work_222 : decode kc_Mo_work 222 = .ok (.lcmp, 1) := by decide +kernel
theorem kd_Mo_work_223 : decode kc_Mo_work 223 = .ok (.ifCond .le 8, 3) := by decide +kernel
theorem kd_Mo_work_226 : decode kc_Mo_work 226 = .ok (.iload_n 2, 1) := by decide +kernel
theorem kd_Mo_work_227 : decode kc_Mo_work 227 = .ok (.i2l, 1) := by decide +kernel
theorem kd_Mo_work_228 : decode kc_Mo_work 228 = .ok (.goto 5, 3) := by decide +kernel
theorem kd_Mo_work_231 : decode kc_Mo_work 231 = .ok (.lload 8, 2) := by decide +kernel
theorem kd_Mo_work_233 : decode kc_Mo_work 233 = .ok (.lstore 8, 2) := by decide +kernel
theorem kd_Mo_work_235 : decode kc_Mo_work 235 = .ok (.goto 3, 3) := by decide +kernel
theorem kd_Mo_work_238 : decode kc_Mo_work 238 = .ok (.aload_n 0, 1) := by decide +kernel
theorem kd_Mo_work_239 : decode kc_Mo_work 239 = .ok (.getfield 95, 3) := by decide +kernel
theorem kd_Mo_work_242 : decode kc_Mo_work 242 = .ok (.iload 7, 2) := by decide +kernel
theorem kd_Mo_work_244 : decode kc_Mo_work 244 = .ok (.lload 8, 2) := by decide +kernel
theorem kd_Mo_work_246 : decode kc_Mo_work 246 = .ok (.invokestatic 159, 3) := by decide +kernel
theorem kd_Mo_work_249 : decode kc_Mo_work 249 = .ok (.iastore, 1) := by decide +kernel
theorem kd_Mo_work_250 : decode kc_Mo_work 250 = .ok (.iinc 7 1, 3) := by decide +kernel
theorem kd_Mo_work_253 : decode kc_Mo_work 253 = .ok (.goto (-247), 3) := by decide +kernel
theorem kd_Mo_work_256 : decode kc_Mo_work 256 = .ok (.iconst 0, 1) := by decide +kernel
theorem kd_Mo_work_257 : decode kc_Mo_work 257 = .ok (.istore 7, 2) := by decide +kernel
theorem kd_Mo_work_259 : decode kc_Mo_work 259 = .ok (.iload 7, 2) := by decide +kernel
theorem kd_Mo_work_261 : decode kc_Mo_work 261 = .ok (.iload 4, 2) := by decide +kernel
theorem kd_Mo_work_263 : decode kc_Mo_work 263 = .ok (.if_icmp .ge 23, 3) := by decide +kernel
theorem kd_Mo_work_266 : decode kc_Mo_work 266 = .ok (.aload_n 0, 1) := by decide +kernel
theorem kd_Mo_work_267 : decode kc_Mo_work 267 = .ok (.getfield 92, 3) := by decide +kernel
theorem kd_Mo_work_270 : decode kc_Mo_work 270 = .ok (.iload 7, 2) := by decide +kernel
theorem kd_Mo_work_272 : decode kc_Mo_work 272 = .ok (.aload_n 0, 1) := by decide +kernel
theorem kd_Mo_work_273 : decode kc_Mo_work 273 = .ok (.getfield 95, 3) := by decide +kernel
theorem kd_Mo_work_276 : decode kc_Mo_work 276 = .ok (.iload 7, 2) := by decide +kernel
theorem kd_Mo_work_278 : decode kc_Mo_work 278 = .ok (.iaload, 1) := by decide +kernel
theorem kd_Mo_work_279 : decode kc_Mo_work 279 = .ok (.iastore, 1) := by decide +kernel
theorem kd_Mo_work_280 : decode kc_Mo_work 280 = .ok (.iinc 7 1, 3) := by decide +kernel
theorem kd_Mo_work_283 : decode kc_Mo_work 283 = .ok (.goto (-24), 3) := by decide +kernel
theorem kd_Mo_work_286 : decode kc_Mo_work 286 = .ok (.return_, 1) := by decide +kernel
theorem kd_Mo_levelAt_0 : decode kc_Mo_levelAt 0 = .ok (.iload_n 2, 1) := by decide +kernel
theorem kd_Mo_levelAt_1 : decode kc_Mo_levelAt 1 = .ok (.bipush 16, 2) := by decide +kernel
theorem kd_Mo_levelAt_3 : decode kc_Mo_levelAt 3 = .ok (.idiv, 1) := by decide +kernel
theorem kd_Mo_levelAt_4 : decode kc_Mo_levelAt 4 = .ok (.bipush 16, 2) := by decide +kernel
theorem kd_Mo_levelAt_6 : decode kc_Mo_levelAt 6 = .ok (.imul, 1) := by decide +kernel
theorem kd_Mo_levelAt_7 : decode kc_Mo_levelAt 7 = .ok (.istore_n 3, 1) := by decide +kernel
theorem kd_Mo_levelAt_8 : decode kc_Mo_levelAt 8 = .ok (.aload_n 0, 1) := by decide +kernel
theorem kd_Mo_levelAt_9 : decode kc_Mo_levelAt 9 = .ok (.getfield 62, 3) := by decide +kernel
theorem kd_Mo_levelAt_12 : decode kc_Mo_levelAt 12 = .ok (.iload_n 1, 1) := by decide +kernel
theorem kd_Mo_levelAt_13 : decode kc_Mo_levelAt 13 = .ok (.iaload, 1) := by decide +kernel
theorem kd_Mo_levelAt_14 : decode kc_Mo_levelAt 14 = .ok (.istore 4, 2) := by decide +kernel
theorem kd_Mo_levelAt_16 : decode kc_Mo_levelAt 16 = .ok (.iload 4, 2) := by decide +kernel
theorem kd_Mo_levelAt_18 : decode kc_Mo_levelAt 18 = .ok (.ifCond .ne 11, 3) := by decide +kernel
theorem kd_Mo_levelAt_21 : decode kc_Mo_levelAt 21 = .ok (.aload_n 0, 1) := by decide +kernel
theorem kd_Mo_levelAt_22 : decode kc_Mo_levelAt 22 = .ok (.getfield 59, 3) := by decide +kernel
theorem kd_Mo_levelAt_25 : decode kc_Mo_levelAt 25 = .ok (.iload_n 1, 1) := by decide +kernel
theorem kd_Mo_levelAt_26 : decode kc_Mo_levelAt 26 = .ok (.iaload, 1) := by decide +kernel
theorem kd_Mo_levelAt_27 : decode kc_Mo_levelAt 27 = .ok (.i2l, 1) := by decide +kernel
theorem kd_Mo_levelAt_28 : decode kc_Mo_levelAt 28 = .ok (.lreturn, 1) := by decide +kernel
theorem kd_Mo_levelAt_29 : decode kc_Mo_levelAt 29 = .ok (.iconst 0, 1) := by decide +kernel
theorem kd_Mo_levelAt_30 : decode kc_Mo_levelAt 30 = .ok (.istore 5, 2) := by decide +kernel
theorem kd_Mo_levelAt_32 : decode kc_Mo_levelAt 32 = .ok (.iload 5, 2) := by decide +kernel
theorem kd_Mo_levelAt_34 : decode kc_Mo_levelAt 34 = .ok (.iconst 1, 1) := by decide +kernel
theorem kd_Mo_levelAt_35 : decode kc_Mo_levelAt 35 = .ok (.iadd, 1) := by decide +kernel
theorem kd_Mo_levelAt_36 : decode kc_Mo_levelAt 36 = .ok (.iload 4, 2) := by decide +kernel
theorem kd_Mo_levelAt_38 : decode kc_Mo_levelAt 38 = .ok (.if_icmp .ge 27, 3) := by decide +kernel
theorem kd_Mo_levelAt_41 : decode kc_Mo_levelAt 41 = .ok (.aload_n 0, 1) := by decide +kernel
theorem kd_Mo_levelAt_42 : decode kc_Mo_levelAt 42 = .ok (.getfield 65, 3) := by decide +kernel
theorem kd_Mo_levelAt_45 : decode kc_Mo_levelAt 45 = .ok (.bipush 8, 2) := by decide +kernel
theorem kd_Mo_levelAt_47 : decode kc_Mo_levelAt 47 = .ok (.iload_n 1, 1) := by decide +kernel
theorem kd_Mo_levelAt_48 : decode kc_Mo_levelAt 48 = .ok (.imul, 1) := by decide +kernel
theorem kd_Mo_levelAt_49 : decode kc_Mo_levelAt 49 = .ok (.iload 5, 2) := by decide +kernel
theorem kd_Mo_levelAt_51 : decode kc_Mo_levelAt 51 = .ok (.iadd, 1) := by decide +kernel
theorem kd_Mo_levelAt_52 : decode kc_Mo_levelAt 52 = .ok (.iconst 1, 1) := by decide +kernel
theorem kd_Mo_levelAt_53 : decode kc_Mo_levelAt 53 = .ok (.iadd, 1) := by decide +kernel
theorem kd_Mo_levelAt_54 : decode kc_Mo_levelAt 54 = .ok (.iaload, 1) := by decide +kernel
theorem kd_Mo_levelAt_55 : decode kc_Mo_levelAt 55 = .ok (.iload_n 3, 1) := by decide +kernel
theorem kd_Mo_levelAt_56 : decode kc_Mo_levelAt 56 = .ok (.if_icmp .gt 9, 3) := by decide +kernel
theorem kd_Mo_levelAt_59 : decode kc_Mo_levelAt 59 = .ok (.iinc 5 1, 3) := by decide +kernel
theorem kd_Mo_levelAt_62 : decode kc_Mo_levelAt 62 = .ok (.goto (-30), 3) := by decide +kernel
theorem kd_Mo_levelAt_65 : decode kc_Mo_levelAt 65 = .ok (.bipush 8, 2) := by decide +kernel
theorem kd_Mo_levelAt_67 : decode kc_Mo_levelAt 67 = .ok (.iload_n 1, 1) := by decide +kernel
theorem kd_Mo_levelAt_68 : decode kc_Mo_levelAt 68 = .ok (.imul, 1) := by decide +kernel
theorem kd_Mo_levelAt_69 : decode kc_Mo_levelAt 69 = .ok (.iload 5, 2) := by decide +kernel
theorem kd_Mo_levelAt_71 : decode kc_Mo_levelAt 71 = .ok (.iadd, 1) := by decide +kernel
theorem kd_Mo_levelAt_72 : decode kc_Mo_levelAt 72 = .ok (.istore 6, 2) := by decide +kernel
theorem kd_Mo_levelAt_74 : decode kc_Mo_levelAt 74 = .ok (.aload_n 0, 1) := by decide +kernel
theorem kd_Mo_levelAt_75 : decode kc_Mo_levelAt 75 = .ok (.getfield 65, 3) := by decide +kernel
theorem kd_Mo_levelAt_78 : decode kc_Mo_levelAt 78 = .ok (.iload 6, 2) := by decide +kernel
theorem kd_Mo_levelAt_80 : decode kc_Mo_levelAt 80 = .ok (.iaload, 1) := by decide +kernel
theorem kd_Mo_levelAt_81 : decode kc_Mo_levelAt 81 = .ok (.iload_n 3, 1) := by decide +kernel
theorem kd_Mo_levelAt_82 : decode kc_Mo_levelAt 82 = .ok (.if_icmp .gt 22, 3) := by decide +kernel
theorem kd_Mo_levelAt_85 : decode kc_Mo_levelAt 85 = .ok (.aload_n 0, 1) := by decide +kernel
theorem kd_Mo_levelAt_86 : decode kc_Mo_levelAt 86 = .ok (.getfield 71, 3) := by decide +kernel
theorem kd_Mo_levelAt_89 : decode kc_Mo_levelAt 89 = .ok (.iload 6, 2) := by decide +kernel
theorem kd_Mo_levelAt_91 : decode kc_Mo_levelAt 91 = .ok (.baload, 1) := by decide +kernel
theorem kd_Mo_levelAt_92 : decode kc_Mo_levelAt 92 = .ok (.ifCond .eq 12, 3) := by decide +kernel
theorem kd_Mo_levelAt_95 : decode kc_Mo_levelAt 95 = .ok (.iload 5, 2) := by decide +kernel
theorem kd_Mo_levelAt_97 : decode kc_Mo_levelAt 97 = .ok (.iconst 1, 1) := by decide +kernel
theorem kd_Mo_levelAt_98 : decode kc_Mo_levelAt 98 = .ok (.iadd, 1) := by decide +kernel
theorem kd_Mo_levelAt_99 : decode kc_Mo_levelAt 99 = .ok (.iload 4, 2) := by decide +kernel
theorem kd_Mo_levelAt_101 : decode kc_Mo_levelAt 101 = .ok (.if_icmp .ne 12, 3) := by decide +kernel
theorem kd_Mo_levelAt_104 : decode kc_Mo_levelAt 104 = .ok (.aload_n 0, 1) := by decide +kernel
theorem kd_Mo_levelAt_105 : decode kc_Mo_levelAt 105 = .ok (.getfield 68, 3) := by decide +kernel
theorem kd_Mo_levelAt_108 : decode kc_Mo_levelAt 108 = .ok (.iload 6, 2) := by decide +kernel
theorem kd_Mo_levelAt_110 : decode kc_Mo_levelAt 110 = .ok (.iaload, 1) := by decide +kernel
theorem kd_Mo_levelAt_111 : decode kc_Mo_levelAt 111 = .ok (.i2l, 1) := by decide +kernel
theorem kd_Mo_levelAt_112 : decode kc_Mo_levelAt 112 = .ok (.lreturn, 1) := by decide +kernel
theorem kd_Mo_levelAt_113 : decode kc_Mo_levelAt 113 = .ok (.aload_n 0, 1) := by decide +kernel
theorem kd_Mo_levelAt_114 : decode kc_Mo_levelAt 114 = .ok (.getfield 68, 3) := by decide +kernel
theorem kd_Mo_levelAt_117 : decode kc_Mo_levelAt 117 = .ok (.iload 6, 2) := by decide +kernel
theorem kd_Mo_levelAt_119 : decode kc_Mo_levelAt 119 = .ok (.iaload, 1) := by decide +kernel
theorem kd_Mo_levelAt_120 : decode kc_Mo_levelAt 120 = .ok (.i2l, 1) := by decide +kernel
theorem kd_Mo_levelAt_121 : decode kc_Mo_levelAt 121 = .ok (.aload_n 0, 1) := by decide +kernel
theorem kd_Mo_levelAt_122 : decode kc_Mo_levelAt 122 = .ok (.getfield 68, 3) := by decide +kernel
theorem kd_Mo_levelAt_125 : decode kc_Mo_levelAt 125 = .ok (.iload 6, 2) := by decide +kernel
theorem kd_Mo_levelAt_127 : decode kc_Mo_levelAt 127 = .ok (.iconst 1, 1) := by decide +kernel
theorem kd_Mo_levelAt_128 : decode kc_Mo_levelAt 128 = .ok (.iadd, 1) := by decide +kernel
theorem kd_Mo_levelAt_129 : decode kc_Mo_levelAt 129 = .ok (.iaload, 1) := by decide +kernel
theorem kd_Mo_levelAt_130 : decode kc_Mo_levelAt 130 = .ok (.aload_n 0, 1) := by decide +kernel
theorem kd_Mo_levelAt_131 : decode kc_Mo_levelAt 131 = .ok (.getfield 68, 3) := by decide +kernel
theorem kd_Mo_levelAt_134 : decode kc_Mo_levelAt 134 = .ok (.iload 6, 2) := by decide +kernel
theorem kd_Mo_levelAt_136 : decode kc_Mo_levelAt 136 = .ok (.iaload, 1) := by decide +kernel
theorem kd_Mo_levelAt_137 : decode kc_Mo_levelAt 137 = .ok (.isub, 1) := by decide +kernel
theorem kd_Mo_levelAt_138 : decode kc_Mo_levelAt 138 = .ok (.i2l, 1) := by decide +kernel
theorem kd_Mo_levelAt_139 : decode kc_Mo_levelAt 139 = .ok (.iload_n 3, 1) := by decide +kernel
theorem kd_Mo_levelAt_140 : decode kc_Mo_levelAt 140 = .ok (.aload_n 0, 1) := by decide +kernel
theorem kd_Mo_levelAt_141 : decode kc_Mo_levelAt 141 = .ok (.getfield 65, 3) := by decide +kernel
theorem kd_Mo_levelAt_144 : decode kc_Mo_levelAt 144 = .ok (.iload 6, 2) := by decide +kernel
theorem kd_Mo_levelAt_146 : decode kc_Mo_levelAt 146 = .ok (.iaload, 1) := by decide +kernel
theorem kd_Mo_levelAt_147 : decode kc_Mo_levelAt 147 = .ok (.isub, 1) := by decide +kernel
theorem kd_Mo_levelAt_148 : decode kc_Mo_levelAt 148 = .ok (.i2l, 1) := by decide +kernel
theorem kd_Mo_levelAt_149 : decode kc_Mo_levelAt 149 = .ok (.lmul, 1) := by decide +kernel
theorem kd_Mo_levelAt_150 : decode kc_Mo_levelAt 150 = .ok (.aload_n 0, 1) := by decide +kernel
theorem kd_Mo_levelAt_151 : decode kc_Mo_levelAt 151 = .ok (.getfield 65, 3) := by decide +kernel
theorem kd_Mo_levelAt_154 : decode kc_Mo_levelAt 154 = .ok (.iload 6, 2) := by decide +kernel
theorem kd_Mo_levelAt_156 : decode kc_Mo_levelAt 156 = .ok (.iconst 1, 1) := by decide +kernel
theorem kd_Mo_levelAt_157 : decode kc_Mo_levelAt 157 = .ok (.iadd, 1) := by decide +kernel
theorem kd_Mo_levelAt_158 : decode kc_Mo_levelAt 158 = .ok (.iaload, 1) := by decide +kernel
theorem kd_Mo_levelAt_159 : decode kc_Mo_levelAt 159 = .ok (.aload_n 0, 1) := by decide +kernel
theorem kd_Mo_levelAt_160 : decode kc_Mo_levelAt 160 = .ok (.getfield 65, 3) := by decide +kernel
theorem kd_Mo_levelAt_163 : decode kc_Mo_levelAt 163 = .ok (.iload 6, 2) := by decide +kernel
theorem kd_Mo_levelAt_165 : decode kc_Mo_levelAt 165 = .ok (.iaload, 1) := by decide +kernel
theorem kd_Mo_levelAt_166 : decode kc_Mo_levelAt 166 = .ok (.isub, 1) := by decide +kernel
theorem kd_Mo_levelAt_167 : decode kc_Mo_levelAt 167 = .ok (.i2l, 1) := by decide +kernel
theorem kd_Mo_levelAt_168 : decode kc_Mo_levelAt 168 = .ok (.invokestatic 111, 3) := by decide +kernel
theorem kd_Mo_levelAt_171 : decode kc_Mo_levelAt 171 = .ok (.ladd, 1) := by decide +kernel
theorem kd_Mo_levelAt_172 : decode kc_Mo_levelAt 172 = .ok (.lreturn, 1) := by decide +kernel
theorem kd_Mo_isHeard_0 : decode kc_Mo_isHeard 0 = .ok (.iconst 0, 1) := by decide +kernel
theorem kd_Mo_isHeard_1 : decode kc_Mo_isHeard 1 = .ok (.istore_n 2, 1) := by decide +kernel
theorem kd_Mo_isHeard_2 : decode kc_Mo_isHeard 2 = .ok (.aload_n 0, 1) := by decide +kernel
theorem kd_Mo_isHeard_3 : decode kc_Mo_isHeard 3 = .ok (.getfield 77, 3) := by decide +kernel
theorem kd_Mo_isHeard_6 : decode kc_Mo_isHeard 6 = .ok (.iload_n 1, 1) := by decide +kernel
theorem kd_Mo_isHeard_7 : decode kc_Mo_isHeard 7 = .ok (.baload, 1) := by decide +kernel
theorem kd_Mo_isHeard_8 : decode kc_Mo_isHeard 8 = .ok (.istore_n 3, 1) := by decide +kernel
theorem kd_Mo_isHeard_9 : decode kc_Mo_isHeard 9 = .ok (.iconst 0, 1) := by decide +kernel
theorem kd_Mo_isHeard_10 : decode kc_Mo_isHeard 10 = .ok (.istore 4, 2) := by decide +kernel
theorem kd_Mo_isHeard_12 : decode kc_Mo_isHeard 12 = .ok (.iload 4, 2) := by decide +kernel
theorem kd_Mo_isHeard_14 : decode kc_Mo_isHeard 14 = .ok (.bipush 8, 2) := by decide +kernel
theorem kd_Mo_isHeard_16 : decode kc_Mo_isHeard 16 = .ok (.if_icmp .ge 79, 3) := by decide +kernel
theorem kd_Mo_isHeard_19 : decode kc_Mo_isHeard 19 = .ok (.iload_n 2, 1) := by decide +kernel
theorem kd_Mo_isHeard_20 : decode kc_Mo_isHeard 20 = .ok (.ifCond .ne 13, 3) := by decide +kernel
theorem kd_Mo_isHeard_23 : decode kc_Mo_isHeard 23 = .ok (.aload_n 0, 1) := by decide +kernel
theorem kd_Mo_isHeard_24 : decode kc_Mo_isHeard 24 = .ok (.getfield 77, 3) := by decide +kernel
theorem kd_Mo_isHeard_27 : decode kc_Mo_isHeard 27 = .ok (.iload 4, 2) := by decide +kernel
theorem kd_Mo_isHeard_29 : decode kc_Mo_isHeard 29 = .ok (.baload, 1) := by decide +kernel
theorem kd_Mo_isHeard_30 : decode kc_Mo_isHeard 30 = .ok (.ifCond .eq 7, 3) := by decide +kernel
theorem kd_Mo_isHeard_33 : decode kc_Mo_isHeard 33 = .ok (.iconst 1, 1) := by decide +kernel
theorem kd_Mo_isHeard_34 : decode kc_Mo_isHeard 34 = .ok (.goto 4, 3) := by decide +kernel
theorem kd_Mo_isHeard_37 : decode kc_Mo_isHeard 37 = .ok (.iconst 0, 1) := by decide +kernel
theorem kd_Mo_isHeard_38 : decode kc_Mo_isHeard 38 = .ok (.istore_n 2, 1) := by decide +kernel
theorem kd_Mo_isHeard_39 : decode kc_Mo_isHeard 39 = .ok (.iload_n 3, 1) := by decide +kernel
theorem kd_Mo_isHeard_40 : decode kc_Mo_isHeard 40 = .ok (.ifCond .ne 43, 3) := by decide +kernel
theorem kd_Mo_isHeard_43 : decode kc_Mo_isHeard 43 = .ok (.aload_n 0, 1) := by decide +kernel
theorem kd_Mo_isHeard_44 : decode kc_Mo_isHeard 44 = .ok (.getfield 77, 3) := by decide +kernel
theorem kd_Mo_isHeard_47 : decode kc_Mo_isHeard 47 = .ok (.iload 4, 2) := by decide +kernel
theorem kd_Mo_isHeard_49 : decode kc_Mo_isHeard 49 = .ok (.baload, 1) := by decide +kernel
theorem kd_Mo_isHeard_50 : decode kc_Mo_isHeard 50 = .ok (.ifCond .eq 37, 3) := by decide +kernel
theorem kd_Mo_isHeard_53 : decode kc_Mo_isHeard 53 = .ok (.aload_n 0, 1) := by decide +kernel
theorem kd_Mo_isHeard_54 : decode kc_Mo_isHeard 54 = .ok (.getfield 80, 3) := by decide +kernel
theorem kd_Mo_isHeard_57 : decode kc_Mo_isHeard 57 = .ok (.bipush 8, 2) := by decide +kernel
theorem kd_Mo_isHeard_59 : decode kc_Mo_isHeard 59 = .ok (.iload_n 1, 1) := by decide +kernel
theorem kd_Mo_isHeard_60 : decode kc_Mo_isHeard 60 = .ok (.imul, 1) := by decide +kernel
theorem kd_Mo_isHeard_61 : decode kc_Mo_isHeard 61 = .ok (.iload 4, 2) := by decide +kernel
theorem kd_Mo_isHeard_63 : decode kc_Mo_isHeard 63 = .ok (.iadd, 1) := by decide +kernel
theorem kd_Mo_isHeard_64 : decode kc_Mo_isHeard 64 = .ok (.baload, 1) := by decide +kernel
theorem kd_Mo_isHeard_65 : decode kc_Mo_isHeard 65 = .ok (.ifCond .ne 18, 3) := by decide +kernel
theorem kd_Mo_isHeard_68 : decode kc_Mo_isHeard 68 = .ok (.aload_n 0, 1) := by decide +kernel
theorem kd_Mo_isHeard_69 : decode kc_Mo_isHeard 69 = .ok (.getfield 80, 3) := by decide +kernel
theorem kd_Mo_isHeard_72 : decode kc_Mo_isHeard 72 = .ok (.bipush 8, 2) := by decide +kernel
theorem kd_Mo_isHeard_74 : decode kc_Mo_isHeard 74 = .ok (.iload 4, 2) := by decide +kernel
theorem kd_Mo_isHeard_76 : decode kc_Mo_isHeard 76 = .ok (.imul, 1) := by decide +kernel
theorem kd_Mo_isHeard_77 : decode kc_Mo_isHeard 77 = .ok (.iload_n 1, 1) := by decide +kernel
theorem kd_Mo_isHeard_78 : decode kc_Mo_isHeard 78 = .ok (.iadd, 1) := by decide +kernel
theorem kd_Mo_isHeard_79 : decode kc_Mo_isHeard 79 = .ok (.baload, 1) := by decide +kernel
theorem kd_Mo_isHeard_80 : decode kc_Mo_isHeard 80 = .ok (.ifCond .eq 7, 3) := by decide +kernel
theorem kd_Mo_isHeard_83 : decode kc_Mo_isHeard 83 = .ok (.iconst 1, 1) := by decide +kernel
theorem kd_Mo_isHeard_84 : decode kc_Mo_isHeard 84 = .ok (.goto 4, 3) := by decide +kernel
theorem kd_Mo_isHeard_87 : decode kc_Mo_isHeard 87 = .ok (.iconst 0, 1) := by decide +kernel
theorem kd_Mo_isHeard_88 : decode kc_Mo_isHeard 88 = .ok (.istore_n 3, 1) := by decide +kernel
theorem kd_Mo_isHeard_89 : decode kc_Mo_isHeard 89 = .ok (.iinc 4 1, 3) := by decide +kernel
theorem kd_Mo_isHeard_92 : decode kc_Mo_isHeard 92 = .ok (.goto (-80), 3) := by decide +kernel
theorem kd_Mo_isHeard_95 : decode kc_Mo_isHeard 95 = .ok (.aload_n 0, 1) := by decide +kernel
theorem kd_Mo_isHeard_96 : decode kc_Mo_isHeard 96 = .ok (.getfield 74, 3) := by decide +kernel
theorem kd_Mo_isHeard_99 : decode kc_Mo_isHeard 99 = .ok (.iload_n 1, 1) := by decide +kernel
theorem kd_Mo_isHeard_100 : decode kc_Mo_isHeard 100 = .ok (.baload, 1) := by decide +kernel
theorem kd_Mo_isHeard_101 : decode kc_Mo_isHeard 101 = .ok (.ifCond .ne 15, 3) := by decide +kernel
theorem kd_Mo_isHeard_104 : decode kc_Mo_isHeard 104 = .ok (.iload_n 2, 1) := by decide +kernel
theorem kd_Mo_isHeard_105 : decode kc_Mo_isHeard 105 = .ok (.ifCond .eq 7, 3) := by decide +kernel
theorem kd_Mo_isHeard_108 : decode kc_Mo_isHeard 108 = .ok (.iload_n 3, 1) := by decide +kernel
theorem kd_Mo_isHeard_109 : decode kc_Mo_isHeard 109 = .ok (.ifCond .eq 7, 3) := by decide +kernel
theorem kd_Mo_isHeard_112 : decode kc_Mo_isHeard 112 = .ok (.iconst 1, 1) := by decide +kernel
theorem kd_Mo_isHeard_113 : decode kc_Mo_isHeard 113 = .ok (.goto 4, 3) := by decide +kernel
theorem kd_Mo_isHeard_116 : decode kc_Mo_isHeard 116 = .ok (.iconst 0, 1) := by decide +kernel
theorem kd_Mo_isHeard_117 : decode kc_Mo_isHeard 117 = .ok (.ireturn, 1) := by decide +kernel
theorem kd_Mo_workOut_0 : decode kc_Mo_workOut 0 = .ok (.iload_n 1, 1) := by decide +kernel
theorem kd_Mo_workOut_1 : decode kc_Mo_workOut 1 = .ok (.iconst 4, 1) := by decide +kernel
theorem kd_Mo_workOut_2 : decode kc_Mo_workOut 2 = .ok (.if_icmp .ge 12, 3) := by decide +kernel
theorem kd_Mo_workOut_5 : decode kc_Mo_workOut 5 = .ok (.aload_n 0, 1) := by decide +kernel
theorem kd_Mo_workOut_6 : decode kc_Mo_workOut 6 = .ok (.iload_n 1, 1) := by decide +kernel
theorem kd_Mo_workOut_7 : decode kc_Mo_workOut 7 = .ok (.iload_n 2, 1) := by decide +kernel
theorem kd_Mo_workOut_8 : decode kc_Mo_workOut 8 = .ok (.invokevirtual 171, 3) := by decide +kernel
theorem kd_Mo_workOut_11 : decode kc_Mo_workOut 11 = .ok (.goto 9, 3) := by decide +kernel
theorem kd_Mo_workOut_14 : decode kc_Mo_workOut 14 = .ok (.aload_n 0, 1) := by decide +kernel
theorem kd_Mo_workOut_15 : decode kc_Mo_workOut 15 = .ok (.iload_n 1, 1) := by decide +kernel
theorem kd_Mo_workOut_16 : decode kc_Mo_workOut 16 = .ok (.iload_n 2, 1) := by decide +kernel
theorem kd_Mo_workOut_17 : decode kc_Mo_workOut 17 = .ok (.invokevirtual 175, 3) := by decide +kernel
theorem kd_Mo_workOut_20 : decode kc_Mo_workOut 20 = .ok (.iconst 0, 1) := by decide +kernel
theorem kd_Mo_workOut_21 : decode kc_Mo_workOut 21 = .ok (.istore_n 3, 1) := by decide +kernel
theorem kd_Mo_workOut_22 : decode kc_Mo_workOut 22 = .ok (.iload_n 3, 1) := by decide +kernel
theorem kd_Mo_workOut_23 : decode kc_Mo_workOut 23 = .ok (.iconst 3, 1) := by decide +kernel
theorem kd_Mo_workOut_24 : decode kc_Mo_workOut 24 = .ok (.if_icmp .ge 44, 3) := by decide +kernel
theorem kd_Mo_workOut_27 : decode kc_Mo_workOut 27 = .ok (.aload_n 0, 1) := by decide +kernel
theorem kd_Mo_workOut_28 : decode kc_Mo_workOut 28 = .ok (.aload_n 0, 1) := by decide +kernel
theorem kd_Mo_workOut_29 : decode kc_Mo_workOut 29 = .ok (.getfield 50, 3) := by decide +kernel
theorem kd_Mo_workOut_32 : decode kc_Mo_workOut 32 = .ok (.iconst 3, 1) := by decide +kernel
theorem kd_Mo_workOut_33 : decode kc_Mo_workOut 33 = .ok (.iload_n 1, 1) := by decide +kernel
theorem kd_Mo_workOut_34 : decode kc_Mo_workOut 34 = .ok (.imul, 1) := by decide +kernel
theorem kd_Mo_workOut_35 : decode kc_Mo_workOut 35 = .ok (.iload_n 3, 1) := by decide +kernel
theorem kd_Mo_workOut_36 : decode kc_Mo_workOut 36 = .ok (.iadd, 1) := by decide +kernel
theorem kd_Mo_workOut_37 : decode kc_Mo_workOut 37 = .ok (.iaload, 1) := by decide +kernel
theorem kd_Mo_workOut_38 : decode kc_Mo_workOut 38 = .ok (.aload_n 0, 1) := by decide +kernel
theorem kd_Mo_workOut_39 : decode kc_Mo_workOut 39 = .ok (.getfield 53, 3) := by decide +kernel
theorem kd_Mo_workOut_42 : decode kc_Mo_workOut 42 = .ok (.iconst 3, 1) := by decide +kernel
theorem kd_Mo_workOut_43 : decode kc_Mo_workOut 43 = .ok (.iload_n 1, 1) := by decide +kernel
theorem kd_Mo_workOut_44 : decode kc_Mo_workOut 44 = .ok (.imul, 1) := by decide +kernel
theorem kd_Mo_workOut_45 : decode kc_Mo_workOut 45 = .ok (.iload_n 3, 1) := by decide +kernel
theorem kd_Mo_workOut_46 : decode kc_Mo_workOut 46 = .ok (.iadd, 1) := by decide +kernel
theorem kd_Mo_workOut_47 : decode kc_Mo_workOut 47 = .ok (.iaload, 1) := by decide +kernel
theorem kd_Mo_workOut_48 : decode kc_Mo_workOut 48 = .ok (.aload_n 0, 1) := by decide +kernel
theorem kd_Mo_workOut_49 : decode kc_Mo_workOut 49 = .ok (.getfield 56, 3) := by decide +kernel
theorem kd_Mo_workOut_52 : decode kc_Mo_workOut 52 = .ok (.iconst 3, 1) := by decide +kernel
theorem kd_Mo_workOut_53 : decode kc_Mo_workOut 53 = .ok (.iload_n 1, 1) := by decide +kernel
theorem kd_Mo_workOut_54 : decode kc_Mo_workOut 54 = .ok (.imul, 1) := by decide +kernel
theorem kd_Mo_workOut_55 : decode kc_Mo_workOut 55 = .ok (.iload_n 3, 1) := by decide +kernel
theorem kd_Mo_workOut_56 : decode kc_Mo_workOut 56 = .ok (.iadd, 1) := by decide +kernel
theorem kd_Mo_workOut_57 : decode kc_Mo_workOut 57 = .ok (.iaload, 1) := by decide +kernel
theorem kd_Mo_workOut_58 : decode kc_Mo_workOut 58 = .ok (.iload_n 2, 1) := by decide +kernel
theorem kd_Mo_workOut_59 : decode kc_Mo_workOut 59 = .ok (.invokevirtual 178, 3) := by decide +kernel
theorem kd_Mo_workOut_62 : decode kc_Mo_workOut 62 = .ok (.iinc 3 1, 3) := by decide +kernel
theorem kd_Mo_workOut_65 : decode kc_Mo_workOut 65 = .ok (.goto (-43), 3) := by decide +kernel
theorem kd_Mo_workOut_68 : decode kc_Mo_workOut 68 = .ok (.aload_n 0, 1) := by decide +kernel
theorem kd_Mo_workOut_69 : decode kc_Mo_workOut 69 = .ok (.iload_n 1, 1) := by decide +kernel
theorem kd_Mo_workOut_70 : decode kc_Mo_workOut 70 = .ok (.invokevirtual 182, 3) := by decide +kernel
theorem kd_Mo_workOut_73 : decode kc_Mo_workOut 73 = .ok (.istore_n 3, 1) := by decide +kernel
theorem kd_Mo_workOut_74 : decode kc_Mo_workOut 74 = .ok (.iconst 0, 1) := by decide +kernel
theorem kd_Mo_workOut_75 : decode kc_Mo_workOut 75 = .ok (.istore 4, 2) := by decide +kernel
theorem kd_Mo_workOut_77 : decode kc_Mo_workOut 77 = .ok (.iload 4, 2) := by decide +kernel
theorem kd_Mo_workOut_79 : decode kc_Mo_workOut 79 = .ok (.iload_n 2, 1) := by decide +kernel
theorem kd_Mo_workOut_80 : decode kc_Mo_workOut 80 = .ok (.if_icmp .ge 51, 3) := by decide +kernel
theorem kd_Mo_workOut_83 : decode kc_Mo_workOut 83 = .ok (.aload_n 0, 1) := by decide +kernel
theorem kd_Mo_workOut_84 : decode kc_Mo_workOut 84 = .ok (.getfield 89, 3) := by decide +kernel
theorem kd_Mo_workOut_87 : decode kc_Mo_workOut 87 = .ok (.sipush 1024, 3) := by decide +kernel
theorem kd_Mo_workOut_90 : decode kc_Mo_workOut 90 = .ok (.iload_n 1, 1) := by decide +kernel
theorem kd_Mo_workOut_91 : decode kc_Mo_workOut 91 = .ok (.imul, 1) := by decide +kernel
theorem kd_Mo_workOut_92 : decode kc_Mo_workOut 92 = .ok (.iload 4, 2) := by decide +kernel
theorem kd_Mo_workOut_94 : decode kc_Mo_workOut 94 = .ok (.iadd, 1) := by decide +kernel
theorem kd_Mo_workOut_95 : decode kc_Mo_workOut 95 = .ok (.iload_n 3, 1) := by decide +kernel
theorem kd_Mo_workOut_96 : decode kc_Mo_workOut 96 = .ok (.ifCond .eq 27, 3) := by decide +kernel
theorem kd_Mo_workOut_99 : decode kc_Mo_workOut 99 = .ok (.aload_n 0, 1) := by decide +kernel
theorem kd_Mo_workOut_100 : decode kc_Mo_workOut 100 = .ok (.getfield 92, 3) := by decide +kernel
theorem kd_Mo_workOut_103 : decode kc_Mo_workOut 103 = .ok (.iload 4, 2) := by decide +kernel
theorem kd_Mo_workOut_105 : decode kc_Mo_workOut 105 = .ok (.iaload, 1) := by decide +kernel
theorem kd_Mo_workOut_106 : decode kc_Mo_workOut 106 = .ok (.i2l, 1) := by decide +kernel
theorem kd_Mo_workOut_107 : decode kc_Mo_workOut 107 = .ok (.aload_n 0, 1) := by decide +kernel
theorem kd_Mo_workOut_108 : decode kc_Mo_workOut 108 = .ok (.iload_n 1, 1) := by decide +kernel
theorem kd_Mo_workOut_109 : decode kc_Mo_workOut 109 = .ok (.iload 4, 2) := by decide +kernel
theorem kd_Mo_workOut_111 : decode kc_Mo_workOut 111 = .ok (.invokevirtual 185, 3) := by decide +kernel
theorem kd_Mo_workOut_114 : decode kc_Mo_workOut 114 = .ok (.invokestatic 148, 3) := by decide +kernel
theorem kd_Mo_workOut_117 : decode kc_Mo_workOut 117 = .ok (.invokestatic 159, 3) := by decide +kernel
theorem kd_Mo_workOut_120 : decode kc_Mo_workOut 120 = .ok (.goto 4, 3) := by decide +kernel
theorem kd_Mo_workOut_123 : decode kc_Mo_workOut 123 = .ok (.iconst 0, 1) := by decide +kernel
theorem kd_Mo_workOut_124 : decode kc_Mo_workOut 124 = .ok (.iastore, 1) := by decide +kernel
theorem kd_Mo_workOut_125 : decode kc_Mo_workOut 125 = .ok (.iinc 4 1, 3) := by decide +kernel
theorem kd_Mo_workOut_128 : decode kc_Mo_workOut 128 = .ok (.goto (-51), 3) := by decide +kernel
theorem kd_Mo_workOut_131 : decode kc_Mo_workOut 131 = .ok (.aload_n 0, 1) := by decide +kernel
theorem kd_Mo_workOut_132 : decode kc_Mo_workOut 132 = .ok (.getfield 86, 3) := by decide +kernel
theorem kd_Mo_workOut_135 : decode kc_Mo_workOut 135 = .ok (.iload_n 1, 1) := by decide +kernel
theorem kd_Mo_workOut_136 : decode kc_Mo_workOut 136 = .ok (.iconst 1, 1) := by decide +kernel
theorem kd_Mo_workOut_137 : decode kc_Mo_workOut 137 = .ok (.bastore, 1) := by decide +kernel
theorem kd_Mo_workOut_138 : decode kc_Mo_workOut 138 = .ok (.return_, 1) := by decide +kernel
theorem kd_Mo_isReady_0 : decode kc_Mo_isReady 0 = .ok (.aload_n 0, 1) := by decide +kernel
theorem kd_Mo_isReady_1 : decode kc_Mo_isReady 1 = .ok (.getfield 86, 3) := by decide +kernel
theorem kd_Mo_isReady_4 : decode kc_Mo_isReady 4 = .ok (.iload_n 1, 1) := by decide +kernel
theorem kd_Mo_isReady_5 : decode kc_Mo_isReady 5 = .ok (.baload, 1) := by decide +kernel
theorem kd_Mo_isReady_6 : decode kc_Mo_isReady 6 = .ok (.ifCond .ne 7, 3) := by decide +kernel
theorem kd_Mo_isReady_9 : decode kc_Mo_isReady 9 = .ok (.iconst 1, 1) := by decide +kernel
theorem kd_Mo_isReady_10 : decode kc_Mo_isReady 10 = .ok (.goto 4, 3) := by decide +kernel
theorem kd_Mo_isReady_13 : decode kc_Mo_isReady 13 = .ok (.iconst 0, 1) := by decide +kernel
theorem kd_Mo_isReady_14 : decode kc_Mo_isReady 14 = .ok (.istore_n 2, 1) := by decide +kernel
theorem kd_Mo_isReady_15 : decode kc_Mo_isReady 15 = .ok (.iconst 0, 1) := by decide +kernel
theorem kd_Mo_isReady_16 : decode kc_Mo_isReady 16 = .ok (.istore_n 3, 1) := by decide +kernel
theorem kd_Mo_isReady_17 : decode kc_Mo_isReady 17 = .ok (.iload_n 3, 1) := by decide +kernel
theorem kd_Mo_isReady_18 : decode kc_Mo_isReady 18 = .ok (.bipush 8, 2) := by decide +kernel
theorem kd_Mo_isReady_20 : decode kc_Mo_isReady 20 = .ok (.if_icmp .ge 37, 3) := by decide +kernel
theorem kd_Mo_isReady_23 : decode kc_Mo_isReady 23 = .ok (.iload_n 2, 1) := by decide +kernel
theorem kd_Mo_isReady_24 : decode kc_Mo_isReady 24 = .ok (.ifCond .eq 25, 3) := by decide +kernel
theorem kd_Mo_isReady_27 : decode kc_Mo_isReady 27 = .ok (.aload_n 0, 1) := by decide +kernel
theorem kd_Mo_isReady_28 : decode kc_Mo_isReady 28 = .ok (.getfield 86, 3) := by decide +kernel
theorem kd_Mo_isReady_31 : decode kc_Mo_isReady 31 = .ok (.iload_n 3, 1) := by decide +kernel
theorem kd_Mo_isReady_32 : decode kc_Mo_isReady 32 = .ok (.baload, 1) := by decide +kernel
theorem kd_Mo_isReady_33 : decode kc_Mo_isReady 33 = .ok (.ifCond .ne 12, 3) := by decide +kernel
theorem kd_Mo_isReady_36 : decode kc_Mo_isReady 36 = .ok (.aload_n 0, 1) := by decide +kernel
theorem kd_Mo_isReady_37 : decode kc_Mo_isReady 37 = .ok (.iload_n 3, 1) := by decide +kernel
theorem kd_Mo_isReady_38 : decode kc_Mo_isReady 38 = .ok (.iload_n 1, 1) := by decide +kernel
theorem kd_Mo_isReady_39 : decode kc_Mo_isReady 39 = .ok (.invokevirtual 133, 3) := by decide +kernel
theorem kd_Mo_isReady_42 : decode kc_Mo_isReady 42 = .ok (.ifCond .ne 7, 3) := by decide +kernel
theorem kd_Mo_isReady_45 : decode kc_Mo_isReady 45 = .ok (.iconst 1, 1) := by decide +kernel
theorem kd_Mo_isReady_46 : decode kc_Mo_isReady 46 = .ok (.goto 4, 3) := by decide +kernel
theorem kd_Mo_isReady_49 : decode kc_Mo_isReady 49 = .ok (.iconst 0, 1) := by decide +kernel
theorem kd_Mo_isReady_50 : decode kc_Mo_isReady 50 = .ok (.istore_n 2, 1) := by decide +kernel
theorem kd_Mo_isReady_51 : decode kc_Mo_isReady 51 = .ok (.iinc 3 1, 3) := by decide +kernel
theorem kd_Mo_isReady_54 : decode kc_Mo_isReady 54 = .ok (.goto (-37), 3) := by decide +kernel
theorem kd_Mo_isReady_57 : decode kc_Mo_isReady 57 = .ok (.iload_n 2, 1) := by decide +kernel
theorem kd_Mo_isReady_58 : decode kc_Mo_isReady 58 = .ok (.ireturn, 1) := by decide +kernel
theorem kd_Mo_renderAll_0 : decode kc_Mo_renderAll 0 = .ok (.aload_n 0, 1) := by decide +kernel
theorem kd_Mo_renderAll_1 : decode kc_Mo_renderAll 1 = .ok (.invokevirtual 137, 3) := by decide +kernel
theorem kd_Mo_renderAll_4 : decode kc_Mo_renderAll 4 = .ok (.aload_n 0, 1) := by decide +kernel
theorem kd_Mo_renderAll_5 : decode kc_Mo_renderAll 5 = .ok (.invokevirtual 188, 3) := by decide +kernel
theorem kd_Mo_renderAll_8 : decode kc_Mo_renderAll 8 = .ok (.iconst 0, 1) := by decide +kernel
theorem kd_Mo_renderAll_9 : decode kc_Mo_renderAll 9 = .ok (.istore_n 3, 1) := by decide +kernel
theorem kd_Mo_renderAll_10 : decode kc_Mo_renderAll 10 = .ok (.iload_n 3, 1) := by decide +kernel
theorem kd_Mo_renderAll_11 : decode kc_Mo_renderAll 11 = .ok (.bipush 8, 2) := by decide +kernel
theorem kd_Mo_renderAll_13 : decode kc_Mo_renderAll 13 = .ok (.if_icmp .ge 16, 3) := by decide +kernel
theorem kd_Mo_renderAll_16 : decode kc_Mo_renderAll 16 = .ok (.aload_n 0, 1) := by decide +kernel
theorem kd_Mo_renderAll_17 : decode kc_Mo_renderAll 17 = .ok (.getfield 86, 3) := by decide +kernel
theorem kd_Mo_renderAll_20 : decode kc_Mo_renderAll 20 = .ok (.iload_n 3, 1) := by decide +kernel
theorem kd_Mo_renderAll_21 : decode kc_Mo_renderAll 21 = .ok (.iconst 0, 1) := by decide +kernel
theorem kd_Mo_renderAll_22 : decode kc_Mo_renderAll 22 = .ok (.bastore, 1) := by decide +kernel
theorem kd_Mo_renderAll_23 : decode kc_Mo_renderAll 23 = .ok (.iinc 3 1, 3) := by decide +kernel
theorem kd_Mo_renderAll_26 : decode kc_Mo_renderAll 26 = .ok (.goto (-16), 3) := by decide +kernel
theorem kd_Mo_renderAll_29 : decode kc_Mo_renderAll 29 = .ok (.iconst 0, 1) := by decide +kernel
theorem kd_Mo_renderAll_30 : decode kc_Mo_renderAll 30 = .ok (.istore_n 3, 1) := by decide +kernel
theorem kd_Mo_renderAll_31 : decode kc_Mo_renderAll 31 = .ok (.iload_n 3, 1) := by decide +kernel
theorem kd_Mo_renderAll_32 : decode kc_Mo_renderAll 32 = .ok (.bipush 8, 2) := by decide +kernel
theorem kd_Mo_renderAll_34 : decode kc_Mo_renderAll 34 = .ok (.if_icmp .ge 43, 3) := by decide +kernel
theorem kd_Mo_renderAll_37 : decode kc_Mo_renderAll 37 = .ok (.iconst 0, 1) := by decide +kernel
theorem kd_Mo_renderAll_38 : decode kc_Mo_renderAll 38 = .ok (.istore 4, 2) := by decide +kernel
theorem kd_Mo_renderAll_40 : decode kc_Mo_renderAll 40 = .ok (.iload 4, 2) := by decide +kernel
theorem kd_Mo_renderAll_42 : decode kc_Mo_renderAll 42 = .ok (.bipush 8, 2) := by decide +kernel
theorem kd_Mo_renderAll_44 : decode kc_Mo_renderAll 44 = .ok (.if_icmp .ge 27, 3) := by decide +kernel
theorem kd_Mo_renderAll_47 : decode kc_Mo_renderAll 47 = .ok (.aload_n 0, 1) := by decide +kernel
theorem kd_Mo_renderAll_48 : decode kc_Mo_renderAll 48 = .ok (.iload 4, 2) := by decide +kernel
theorem kd_Mo_renderAll_50 : decode kc_Mo_renderAll 50 = .ok (.invokevirtual 191, 3) := by decide +kernel
theorem kd_Mo_renderAll_53 : decode kc_Mo_renderAll 53 = .ok (.ifCond .eq 12, 3) := by decide +kernel
theorem kd_Mo_renderAll_56 : decode kc_Mo_renderAll 56 = .ok (.aload_n 0, 1) := by decide +kernel
theorem kd_Mo_renderAll_57 : decode kc_Mo_renderAll 57 = .ok (.iload 4, 2) := by decide +kernel
theorem kd_Mo_renderAll_59 : decode kc_Mo_renderAll 59 = .ok (.iload_n 1, 1) := by decide +kernel
theorem kd_Mo_renderAll_60 : decode kc_Mo_renderAll 60 = .ok (.iload_n 2, 1) := by decide +kernel
theorem kd_Mo_renderAll_61 : decode kc_Mo_renderAll 61 = .ok (.iadd, 1) := by decide +kernel
theorem kd_Mo_renderAll_62 : decode kc_Mo_renderAll 62 = .ok (.invokevirtual 194, 3) := by decide +kernel
theorem kd_Mo_renderAll_65 : decode kc_Mo_renderAll 65 = .ok (.iinc 4 1, 3) := by decide +kernel
theorem kd_Mo_renderAll_68 : decode kc_Mo_renderAll 68 = .ok (.goto (-28), 3) := by decide +kernel
theorem kd_Mo_renderAll_71 : decode kc_Mo_renderAll 71 = .ok (.iinc 3 1, 3) := by decide +kernel
theorem kd_Mo_renderAll_74 : decode kc_Mo_renderAll 74 = .ok (.goto (-43), 3) := by decide +kernel
theorem kd_Mo_renderAll_77 : decode kc_Mo_renderAll 77 = .ok (.aload_n 0, 1) := by decide +kernel
theorem kd_Mo_renderAll_78 : decode kc_Mo_renderAll 78 = .ok (.iload_n 2, 1) := by decide +kernel
theorem kd_Mo_renderAll_79 : decode kc_Mo_renderAll 79 = .ok (.putfield 197, 3) := by decide +kernel
theorem kd_Mo_renderAll_82 : decode kc_Mo_renderAll 82 = .ok (.iconst 0, 1) := by decide +kernel
theorem kd_Mo_renderAll_83 : decode kc_Mo_renderAll 83 = .ok (.istore_n 3, 1) := by decide +kernel
theorem kd_Mo_renderAll_84 : decode kc_Mo_renderAll 84 = .ok (.iload_n 3, 1) := by decide +kernel
theorem kd_Mo_renderAll_85 : decode kc_Mo_renderAll 85 = .ok (.sipush 512, 3) := by decide +kernel
theorem kd_Mo_renderAll_88 : decode kc_Mo_renderAll 88 = .ok (.if_icmp .ge 47, 3) := by decide +kernel
theorem kd_Mo_renderAll_91 : decode kc_Mo_renderAll 91 = .ok (.aload_n 0, 1) := by decide +kernel
theorem kd_Mo_renderAll_92 : decode kc_Mo_renderAll 92 = .ok (.getfield 98, 3) := by decide +kernel
theorem kd_Mo_renderAll_95 : decode kc_Mo_renderAll 95 = .ok (.iload_n 3, 1) := by decide +kernel
theorem kd_Mo_renderAll_96 : decode kc_Mo_renderAll 96 = .ok (.iload_n 3, 1) := by decide +kernel
theorem kd_Mo_renderAll_97 : decode kc_Mo_renderAll 97 = .ok (.bipush 64, 2) := by decide +kernel
theorem kd_Mo_renderAll_99 : decode kc_Mo_renderAll 99 = .ok (.irem, 1) := by decide +kernel
theorem kd_Mo_renderAll_100 : decode kc_Mo_renderAll 100 = .ok (.iload_n 2, 1) := by decide +kernel
theorem kd_Mo_renderAll_101 : decode kc_Mo_renderAll 101 = .ok (.if_icmp .ge 26, 3) := by decide +kernel
theorem kd_Mo_renderAll_104 : decode kc_Mo_renderAll 104 = .ok (.aload_n 0, 1) := by decide +kernel
theorem kd_Mo_renderAll_105 : decode kc_Mo_renderAll 105 = .ok (.getfield 89, 3) := by decide +kernel
theorem kd_Mo_renderAll_108 : decode kc_Mo_renderAll 108 = .ok (.iload_n 3, 1) := by decide +kernel
theorem kd_Mo_renderAll_109 : decode kc_Mo_renderAll 109 = .ok (.bipush 64, 2) := by decide +kernel
theorem kd_Mo_renderAll_111 : decode kc_Mo_renderAll 111 = .ok (.idiv, 1) := by decide +kernel
theorem kd_Mo_renderAll_112 : decode kc_Mo_renderAll 112 = .ok (.sipush 1024, 3) := by decide +kernel
theorem kd_Mo_renderAll_115 : decode kc_Mo_renderAll 115 = .ok (.imul, 1) := by decide +kernel
theorem kd_Mo_renderAll_116 : decode kc_Mo_renderAll 116 = .ok (.iload_n 1, 1) := by decide +kernel
theorem kd_Mo_renderAll_117 : decode kc_Mo_renderAll 117 = .ok (.iadd, 1) := by decide +kernel
theorem kd_Mo_renderAll_118 : decode kc_Mo_renderAll 118 = .ok (.iload_n 3, 1) := by decide +kernel
theorem kd_Mo_renderAll_119 : decode kc_Mo_renderAll 119 = .ok (.bipush 64, 2) := by decide +kernel
theorem kd_Mo_renderAll_121 : decode kc_Mo_renderAll 121 = .ok (.irem, 1) := by decide +kernel
theorem kd_Mo_renderAll_122 : decode kc_Mo_renderAll 122 = .ok (.iadd, 1) := by decide +kernel
theorem kd_Mo_renderAll_123 : decode kc_Mo_renderAll 123 = .ok (.iaload, 1) := by decide +kernel
theorem kd_Mo_renderAll_124 : decode kc_Mo_renderAll 124 = .ok (.goto 4, 3) := by decide +kernel
theorem kd_Mo_renderAll_127 : decode kc_Mo_renderAll 127 = .ok (.iconst 0, 1) := by decide +kernel
theorem kd_Mo_renderAll_128 : decode kc_Mo_renderAll 128 = .ok (.iastore, 1) := by decide +kernel
theorem kd_Mo_renderAll_129 : decode kc_Mo_renderAll 129 = .ok (.iinc 3 1, 3) := by decide +kernel
theorem kd_Mo_renderAll_132 : decode kc_Mo_renderAll 132 = .ok (.goto (-48), 3) := by decide +kernel
theorem kd_Mo_renderAll_135 : decode kc_Mo_renderAll 135 = .ok (.return_, 1) := by decide +kernel
theorem kd_Mo_noBlock_0 : decode kc_Mo_noBlock 0 = .ok (.iload_n 0, 1) := by decide +kernel
theorem kd_Mo_noBlock_1 : decode kc_Mo_noBlock 1 = .ok (.ifCond .lt 23, 3) := by decide +kernel
theorem kd_Mo_noBlock_4 : decode kc_Mo_noBlock 4 = .ok (.iload_n 1, 1) := by decide +kernel
theorem kd_Mo_noBlock_5 : decode kc_Mo_noBlock 5 = .ok (.iconst 1, 1) := by decide +kernel
theorem kd_Mo_noBlock_6 : decode kc_Mo_noBlock 6 = .ok (.if_icmp .lt 18, 3) := by decide +kernel
theorem kd_Mo_noBlock_9 : decode kc_Mo_noBlock 9 = .ok (.iload_n 1, 1) := by decide +kernel
theorem kd_Mo_noBlock_10 : decode kc_Mo_noBlock 10 = .ok (.bipush 64, 2) := by decide +kernel
theorem kd_Mo_noBlock_12 : decode kc_Mo_noBlock 12 = .ok (.if_icmp .gt 12, 3) := by decide +kernel
theorem kd_Mo_noBlock_15 : decode kc_Mo_noBlock 15 = .ok (.iload_n 0, 1) := by decide +kernel
theorem kd_Mo_noBlock_16 : decode kc_Mo_noBlock 16 = .ok (.sipush 1024, 3) := by decide +kernel
theorem kd_Mo_noBlock_19 : decode kc_Mo_noBlock 19 = .ok (.iload_n 1, 1) := by decide +kernel
theorem kd_Mo_noBlock_20 : decode kc_Mo_noBlock 20 = .ok (.isub, 1) := by decide +kernel
theorem kd_Mo_noBlock_21 : decode kc_Mo_noBlock 21 = .ok (.if_icmp .le 7, 3) := by decide +kernel
theorem kd_Mo_noBlock_24 : decode kc_Mo_noBlock 24 = .ok (.iconst 1, 1) := by decide +kernel
theorem kd_Mo_noBlock_25 : decode kc_Mo_noBlock 25 = .ok (.goto 4, 3) := by decide +kernel
theorem kd_Mo_noBlock_28 : decode kc_Mo_noBlock 28 = .ok (.iconst 0, 1) := by decide +kernel
theorem kd_Mo_noBlock_29 : decode kc_Mo_noBlock 29 = .ok (.ireturn, 1) := by decide +kernel
theorem kd_Mo_render_0 : decode kc_Mo_render 0 = .ok (.aload_n 0, 1) := by decide +kernel
theorem kd_Mo_render_1 : decode kc_Mo_render 1 = .ok (.iload_n 1, 1) := by decide +kernel
theorem kd_Mo_render_2 : decode kc_Mo_render 2 = .ok (.iload_n 2, 1) := by decide +kernel
theorem kd_Mo_render_3 : decode kc_Mo_render 3 = .ok (.invokestatic 200, 3) := by decide +kernel
theorem kd_Mo_render_6 : decode kc_Mo_render 6 = .ok (.ifCond .eq 7, 3) := by decide +kernel
theorem kd_Mo_render_9 : decode kc_Mo_render 9 = .ok (.iconst 1, 1) := by decide +kernel
theorem kd_Mo_render_10 : decode kc_Mo_render 10 = .ok (.goto 4, 3) := by decide +kernel
theorem kd_Mo_render_13 : decode kc_Mo_render 13 = .ok (.iconst 0, 1) := by decide +kernel
theorem kd_Mo_render_14 : decode kc_Mo_render 14 = .ok (.putfield 101, 3) := by decide +kernel
theorem kd_Mo_render_17 : decode kc_Mo_render 17 = .ok (.aload_n 0, 1) := by decide +kernel
theorem kd_Mo_render_18 : decode kc_Mo_render 18 = .ok (.getfield 101, 3) := by decide +kernel
theorem kd_Mo_render_21 : decode kc_Mo_render 21 = .ok (.ifCond .ne 9, 3) := by decide +kernel
theorem kd_Mo_render_24 : decode kc_Mo_render 24 = .ok (.aload_n 0, 1) := by decide +kernel
theorem kd_Mo_render_25 : decode kc_Mo_render 25 = .ok (.iload_n 1, 1) := by decide +kernel
theorem kd_Mo_render_26 : decode kc_Mo_render 26 = .ok (.iload_n 2, 1) := by decide +kernel
theorem kd_Mo_render_27 : decode kc_Mo_render 27 = .ok (.invokevirtual 203, 3) := by decide +kernel
theorem kd_Mo_render_30 : decode kc_Mo_render 30 = .ok (.return_, 1) := by decide +kernel
theorem kd_Mo_sample_0 : decode kc_Mo_sample 0 = .ok (.aload_n 0, 1) := by decide +kernel
theorem kd_Mo_sample_1 : decode kc_Mo_sample 1 = .ok (.iload_n 1, 1) := by decide +kernel
theorem kd_Mo_sample_2 : decode kc_Mo_sample 2 = .ok (.invokestatic 141, 3) := by decide +kernel
theorem kd_Mo_sample_5 : decode kc_Mo_sample 5 = .ok (.ifCond .ne 15, 3) := by decide +kernel
theorem kd_Mo_sample_8 : decode kc_Mo_sample 8 = .ok (.iload_n 2, 1) := by decide +kernel
theorem kd_Mo_sample_9 : decode kc_Mo_sample 9 = .ok (.ifCond .lt 11, 3) := by decide +kernel
theorem kd_Mo_sample_12 : decode kc_Mo_sample 12 = .ok (.iload_n 2, 1) := by decide +kernel
theorem kd_Mo_sample_13 : decode kc_Mo_sample 13 = .ok (.aload_n 0, 1) := by decide +kernel
theorem kd_Mo_sample_14 : decode kc_Mo_sample 14 = .ok (.getfield 197, 3) := by decide +kernel
theorem kd_Mo_sample_17 : decode kc_Mo_sample 17 = .ok (.if_icmp .lt 7, 3) := by decide +kernel
theorem kd_Mo_sample_20 : decode kc_Mo_sample 20 = .ok (.iconst 1, 1) := by decide +kernel
theorem kd_Mo_sample_21 : decode kc_Mo_sample 21 = .ok (.goto 4, 3) := by decide +kernel
theorem kd_Mo_sample_24 : decode kc_Mo_sample 24 = .ok (.iconst 0, 1) := by decide +kernel
theorem kd_Mo_sample_25 : decode kc_Mo_sample 25 = .ok (.putfield 101, 3) := by decide +kernel
theorem kd_Mo_sample_28 : decode kc_Mo_sample 28 = .ok (.aload_n 0, 1) := by decide +kernel
theorem kd_Mo_sample_29 : decode kc_Mo_sample 29 = .ok (.getfield 101, 3) := by decide +kernel
theorem kd_Mo_sample_32 : decode kc_Mo_sample 32 = .ok (.ifCond .le 7, 3) := by decide +kernel
theorem kd_Mo_sample_35 : decode kc_Mo_sample 35 = .ok (.iconst 0, 1) := by decide +kernel
theorem kd_Mo_sample_36 : decode kc_Mo_sample 36 = .ok (.goto 14, 3) := by decide +kernel
theorem kd_Mo_sample_39 : decode kc_Mo_sample 39 = .ok (.aload_n 0, 1) := by decide +kernel
theorem kd_Mo_sample_40 : decode kc_Mo_sample 40 = .ok (.getfield 98, 3) := by decide +kernel
theorem kd_Mo_sample_43 : decode kc_Mo_sample 43 = .ok (.bipush 64, 2) := by decide +kernel
theorem kd_Mo_sample_45 : decode kc_Mo_sample 45 = .ok (.iload_n 1, 1) := by decide +kernel
theorem kd_Mo_sample_46 : decode kc_Mo_sample 46 = .ok (.imul, 1) := by decide +kernel
theorem kd_Mo_sample_47 : decode kc_Mo_sample 47 = .ok (.iload_n 2, 1) := by decide +kernel
theorem kd_Mo_sample_48 : decode kc_Mo_sample 48 = .ok (.iadd, 1) := by decide +kernel
theorem kd_Mo_sample_49 : decode kc_Mo_sample 49 = .ok (.iaload, 1) := by decide +kernel
theorem kd_Mo_sample_50 : decode kc_Mo_sample 50 = .ok (.ireturn, 1) := by decide +kernel
theorem kd_Mo_meter_0 : decode kc_Mo_meter 0 = .ok (.aload_n 0, 1) := by decide +kernel
theorem kd_Mo_meter_1 : decode kc_Mo_meter 1 = .ok (.iload_n 1, 1) := by decide +kernel
theorem kd_Mo_meter_2 : decode kc_Mo_meter 2 = .ok (.invokestatic 141, 3) := by decide +kernel
theorem kd_Mo_meter_5 : decode kc_Mo_meter 5 = .ok (.ifCond .ne 12, 3) := by decide +kernel
theorem kd_Mo_meter_8 : decode kc_Mo_meter 8 = .ok (.iload_n 2, 1) := by decide +kernel
theorem kd_Mo_meter_9 : decode kc_Mo_meter 9 = .ok (.ifCond .lt 8, 3) := by decide +kernel
theorem kd_Mo_meter_12 : decode kc_Mo_meter 12 = .ok (.iload_n 2, 1) := by decide +kernel
theorem kd_Mo_meter_13 : decode kc_Mo_meter 13 = .ok (.iconst 4, 1) := by decide +kernel
theorem kd_Mo_meter_14 : decode kc_Mo_meter 14 = .ok (.if_icmp .le 7, 3) := by decide +kernel
theorem kd_Mo_meter_17 : decode kc_Mo_meter 17 = .ok (.iconst 1, 1) := by decide +kernel
theorem kd_Mo_meter_18 : decode kc_Mo_meter 18 = .ok (.goto 4, 3) := by decide +kernel
theorem kd_Mo_meter_21 : decode kc_Mo_meter 21 = .ok (.iconst 0, 1) := by decide +kernel
theorem kd_Mo_meter_22 : decode kc_Mo_meter 22 = .ok (.putfield 101, 3) := by decide +kernel
theorem kd_Mo_meter_25 : decode kc_Mo_meter 25 = .ok (.aload_n 0, 1) := by decide +kernel
theorem kd_Mo_meter_26 : decode kc_Mo_meter 26 = .ok (.getfield 101, 3) := by decide +kernel
theorem kd_Mo_meter_29 : decode kc_Mo_meter 29 = .ok (.ifCond .le 5, 3) := by decide +kernel
theorem kd_Mo_meter_32 : decode kc_Mo_meter 32 = .ok (.lconst 0, 1) := by decide +kernel
theorem kd_Mo_meter_33 : decode kc_Mo_meter 33 = .ok (.lreturn, 1) := by decide +kernel
theorem kd_Mo_meter_34 : decode kc_Mo_meter 34 = .ok (.iload_n 2, 1) := by decide +kernel
theorem kd_Mo_meter_35 : decode kc_Mo_meter 35 = .ok (.iconst 3, 1) := by decide +kernel
theorem kd_Mo_meter_36 : decode kc_Mo_meter 36 = .ok (.if_icmp .ne 15, 3) := by decide +kernel
theorem kd_Mo_meter_39 : decode kc_Mo_meter 39 = .ok (.aload_n 0, 1) := by decide +kernel
theorem kd_Mo_meter_40 : decode kc_Mo_meter 40 = .ok (.invokevirtual 188, 3) := by decide +kernel
theorem kd_Mo_meter_43 : decode kc_Mo_meter 43 = .ok (.aload_n 0, 1) := by decide +kernel
theorem kd_Mo_meter_44 : decode kc_Mo_meter 44 = .ok (.getfield 83, 3) := by decide +kernel
theorem kd_Mo_meter_47 : decode kc_Mo_meter 47 = .ok (.iload_n 1, 1) := by decide +kernel
theorem kd_Mo_meter_48 : decode kc_Mo_meter 48 = .ok (.iaload, 1) := by decide +kernel
theorem kd_Mo_meter_49 : decode kc_Mo_meter 49 = .ok (.i2l, 1) := by decide +kernel
theorem kd_Mo_meter_50 : decode kc_Mo_meter 50 = .ok (.lreturn, 1) := by decide +kernel
theorem kd_Mo_meter_51 : decode kc_Mo_meter 51 = .ok (.iload_n 2, 1) := by decide +kernel
theorem kd_Mo_meter_52 : decode kc_Mo_meter 52 = .ok (.iconst 4, 1) := by decide +kernel
theorem kd_Mo_meter_53 : decode kc_Mo_meter 53 = .ok (.if_icmp .ne 21, 3) := by decide +kernel
theorem kd_Mo_meter_56 : decode kc_Mo_meter 56 = .ok (.aload_n 0, 1) := by decide +kernel
theorem kd_Mo_meter_57 : decode kc_Mo_meter 57 = .ok (.invokevirtual 137, 3) := by decide +kernel
theorem kd_Mo_meter_60 : decode kc_Mo_meter 60 = .ok (.aload_n 0, 1) := by decide +kernel
theorem kd_Mo_meter_61 : decode kc_Mo_meter 61 = .ok (.iload_n 1, 1) := by decide +kernel
theorem kd_Mo_meter_62 : decode kc_Mo_meter 62 = .ok (.invokevirtual 182, 3) := by decide +kernel
theorem kd_Mo_meter_65 : decode kc_Mo_meter 65 = .ok (.ifCond .eq 7, 3) := by decide +kernel
theorem kd_Mo_meter_68 : decode kc_Mo_meter 68 = .ok (.lconst 1, 1) := by decide +kernel
theorem kd_Mo_meter_69 : decode kc_Mo_meter 69 = .ok (.goto 4, 3) := by decide +kernel
theorem kd_Mo_meter_72 : decode kc_Mo_meter 72 = .ok (.lconst 0, 1) := by decide +kernel
theorem kd_Mo_meter_73 : decode kc_Mo_meter 73 = .ok (.lreturn, 1) := by decide +kernel
theorem kd_Mo_meter_74 : decode kc_Mo_meter 74 = .ok (.lconst 0, 1) := by decide +kernel
theorem kd_Mo_meter_75 : decode kc_Mo_meter 75 = .ok (.lstore_n 3, 1) := by decide +kernel
theorem kd_Mo_meter_76 : decode kc_Mo_meter 76 = .ok (.iconst 0, 1) := by decide +kernel
theorem kd_Mo_meter_77 : decode kc_Mo_meter 77 = .ok (.istore 5, 2) := by decide +kernel
theorem kd_Mo_meter_79 : decode kc_Mo_meter 79 = .ok (.iload 5, 2) := by decide +kernel
theorem kd_Mo_meter_81 : decode kc_Mo_meter 81 = .ok (.aload_n 0, 1) := by decide +kernel
theorem kd_Mo_meter_82 : decode kc_Mo_meter 82 = .ok (.getfield 197, 3) := by decide +kernel
theorem kd_Mo_meter_85 : decode kc_Mo_meter 85 = .ok (.if_icmp .ge 102, 3) := by decide +kernel
theorem kd_Mo_meter_88 : decode kc_Mo_meter 88 = .ok (.aload_n 0, 1) := by decide +kernel
theorem kd_Mo_meter_89 : decode kc_Mo_meter 89 = .ok (.getfield 98, 3) := by decide +kernel
theorem kd_Mo_meter_92 : decode kc_Mo_meter 92 = .ok (.bipush 64, 2) := by decide +kernel
theorem kd_Mo_meter_94 : decode kc_Mo_meter 94 = .ok (.iload_n 1, 1) := by decide +kernel
theorem kd_Mo_meter_95 : decode kc_Mo_meter 95 = .ok (.imul, 1) := by decide +kernel
theorem kd_Mo_meter_96 : decode kc_Mo_meter 96 = .ok (.iload 5, 2) := by decide +kernel
theorem kd_Mo_meter_98 : decode kc_Mo_meter 98 = .ok (.iadd, 1) := by decide +kernel
theorem kd_Mo_meter_99 : decode kc_Mo_meter 99 = .ok (.iaload, 1) := by decide +kernel
theorem kd_Mo_meter_100 : decode kc_Mo_meter 100 = .ok (.i2l, 1) := by decide +kernel
theorem kd_Mo_meter_101 : decode kc_Mo_meter 101 = .ok (.lstore 6, 2) := by decide +kernel
theorem kd_Mo_meter_103 : decode kc_Mo_meter 103 = .ok (.lload 6, 2) := by decide +kernel
theorem kd_Mo_meter_105 : decode kc_Mo_meter 105 = .ok (.lconst 0, 1) := by decide +kernel
theorem kd_Mo_meter_106 : decode kc_Mo_meter 106 = .ok (.lcmp, 1) := by decide +kernel
theorem kd_Mo_meter_107 : decode kc_Mo_meter 107 = .ok (.ifCond .ge 9, 3) := by decide +kernel
theorem kd_Mo_meter_110 : decode kc_Mo_meter 110 = .ok (.lload 6, 2) := by decide +kernel
theorem kd_Mo_meter_112 : decode kc_Mo_meter 112 = .ok (.lneg, 1) := by decide +kernel
theorem kd_Mo_meter_113 : decode kc_Mo_meter 113 = .ok (.goto 5, 3) := by decide +kernel
theorem kd_Mo_meter_116 : decode kc_Mo_meter 116 = .ok (.lload 6, 2) := by decide +kernel
theorem kd_Mo_meter_118 : decode kc_Mo_meter 118 = .ok (.lstore 8, 2) := by decide +kernel
theorem kd_Mo_meter_120 : decode kc_Mo_meter 120 = .ok (.iload_n 2, 1) := by decide +kernel
theorem kd_Mo_meter_121 : decode kc_Mo_meter 121 = .ok (.ifCond .ne 19, 3) := by decide +kernel
theorem kd_Mo_meter_124 : decode kc_Mo_meter 124 = .ok (.lload 8, 2) := by decide +kernel
theorem kd_Mo_meter_126 : decode kc_Mo_meter 126 = .ok (.lload_n 3, 1) := by decide +kernel
theorem kd_Mo_meter_127 : decode kc_Mo_meter 127 = .ok (.lcmp, 1) := by decide +kernel
theorem kd_Mo_meter_128 : decode kc_Mo_meter 128 = .ok (.ifCond .le 8, 3) := by decide +kernel
theorem kd_Mo_meter_131 : decode kc_Mo_meter 131 = .ok (.lload 8, 2) := by decide +kernel
theorem kd_Mo_meter_133 : decode kc_Mo_meter 133 = .ok (.goto 47, 3) := by decide +kernel
theorem kd_Mo_meter_136 : decode kc_Mo_meter 136 = .ok (.lload_n 3, 1) := by decide +kernel
theorem kd_Mo_meter_137 : decode kc_Mo_meter 137 = .ok (.goto 43, 3) := by decide +kernel
theorem kd_Mo_meter_140 : decode kc_Mo_meter 140 = .ok (.iload_n 2, 1) := by decide +kernel
theorem kd_Mo_meter_141 : decode kc_Mo_meter 141 = .ok (.iconst 1, 1) := by decide +kernel
theorem kd_Mo_meter_142 : decode kc_Mo_meter 142 = .ok (.if_icmp .ne 13, 3) := by decide +kernel
theorem kd_Mo_meter_145 : decode kc_Mo_meter 145 = .ok (.lload_n 3, 1) := by decide +kernel
theorem kd_Mo_meter_146 : decode kc_Mo_meter 146 = .ok (.lload 6, 2) := by decide +kernel
theorem kd_Mo_meter_148 : decode kc_Mo_meter 148 = .ok (.lload 6, 2) := by decide +kernel
theorem kd_Mo_meter_150 : decode kc_Mo_meter 150 = .ok (.lmul, 1) := by decide +kernel
theorem kd_Mo_meter_151 : decode kc_Mo_meter 151 = .ok (.ladd, 1) := by decide +kernel
theorem kd_Mo_meter_152 : decode kc_Mo_meter 152 = .ok (.goto 28, 3) := by decide +kernel
theorem kd_Mo_meter_155 : decode kc_Mo_meter 155 = .ok (.lload 6, 2) := by decide +kernel
theorem kd_Mo_meter_157 : decode kc_Mo_meter 157 = .ok (.ldc2_w 206, 3) := by decide +kernel
theorem kd_Mo_meter_160 : decode kc_Mo_meter 160 = .ok (.lcmp, 1) := by decide +kernel
theorem kd_Mo_meter_161 : decode kc_Mo_meter 161 = .ok (.ifCond .lt 12, 3) := by decide +kernel
theorem kd_Mo_meter_164 : decode kc_Mo_meter 164 = .ok (.lload 6, 2) := by decide +kernel
theorem kd_Mo_meter_166 : decode kc_Mo_meter 166 = .ok (.ldc2_w 208, 3) := by decide +kernel
theorem kd_Mo_meter_169 : decode kc_Mo_meter 169 = .ok (.lcmp, 1) := by decide +kernel
theorem kd_Mo_meter_170 : decode kc_Mo_meter 170 = .ok (.ifCond .le 9, 3) := by decide +kernel
theorem kd_Mo_meter_173 : decode kc_Mo_meter 173 = .ok (.lload_n 3, 1) := by decide +kernel
theorem kd_Mo_meter_174 : decode kc_Mo_meter 174 = .ok (.lconst 1, 1) := by decide +kernel
theorem kd_Mo_meter_175 : decode kc_Mo_meter 175 = .ok (.ladd, 1) := by decide +kernel
theorem kd_Mo_meter_176 : decode kc_Mo_meter 176 = .ok (.goto 4, 3) := by decide +kernel
theorem kd_Mo_meter_179 : decode kc_Mo_meter 179 = .ok (.lload_n 3, 1) := by decide +kernel
theorem kd_Mo_meter_180 : decode kc_Mo_meter 180 = .ok (.lstore_n 3, 1) := by decide +kernel
theorem kd_Mo_meter_181 : decode kc_Mo_meter 181 = .ok (.iinc 5 1, 3) := by decide +kernel
theorem kd_Mo_meter_184 : decode kc_Mo_meter 184 = .ok (.goto (-105), 3) := by decide +kernel
theorem kd_Mo_meter_187 : decode kc_Mo_meter 187 = .ok (.lload_n 3, 1) := by decide +kernel
theorem kd_Mo_meter_188 : decode kc_Mo_meter 188 = .ok (.lreturn, 1) := by decide +kernel
theorem kd_Mo_bounce_0 : decode kc_Mo_bounce 0 = .ok (.aload_n 0, 1) := by decide +kernel
theorem kd_Mo_bounce_1 : decode kc_Mo_bounce 1 = .ok (.iload_n 1, 1) := by decide +kernel
theorem kd_Mo_bounce_2 : decode kc_Mo_bounce 2 = .ok (.invokestatic 141, 3) := by decide +kernel
theorem kd_Mo_bounce_5 : decode kc_Mo_bounce 5 = .ok (.ifCond .ne 11, 3) := by decide +kernel
theorem kd_Mo_bounce_8 : decode kc_Mo_bounce 8 = .ok (.iload_n 2, 1) := by decide +kernel
theorem kd_Mo_bounce_9 : decode kc_Mo_bounce 9 = .ok (.iload_n 3, 1) := by decide +kernel
theorem kd_Mo_bounce_10 : decode kc_Mo_bounce 10 = .ok (.invokestatic 200, 3) := by decide +kernel
theorem kd_Mo_bounce_13 : decode kc_Mo_bounce 13 = .ok (.ifCond .eq 7, 3) := by decide +kernel
theorem kd_Mo_bounce_16 : decode kc_Mo_bounce 16 = .ok (.iconst 1, 1) := by decide +kernel
theorem kd_Mo_bounce_17 : decode kc_Mo_bounce 17 = .ok (.goto 4, 3) := by decide +kernel
theorem kd_Mo_bounce_20 : decode kc_Mo_bounce 20 = .ok (.iconst 0, 1) := by decide +kernel
theorem kd_Mo_bounce_21 : decode kc_Mo_bounce 21 = .ok (.putfield 101, 3) := by decide +kernel
theorem kd_Mo_bounce_24 : decode kc_Mo_bounce 24 = .ok (.aload_n 0, 1) := by decide +kernel
theorem kd_Mo_bounce_25 : decode kc_Mo_bounce 25 = .ok (.getfield 101, 3) := by decide +kernel
theorem kd_Mo_bounce_28 : decode kc_Mo_bounce 28 = .ok (.ifCond .le 5, 3) := by decide +kernel
theorem kd_Mo_bounce_31 : decode kc_Mo_bounce 31 = .ok (.iconst 0, 1) := by decide +kernel
theorem kd_Mo_bounce_32 : decode kc_Mo_bounce 32 = .ok (.ireturn, 1) := by decide +kernel
theorem kd_Mo_bounce_33 : decode kc_Mo_bounce 33 = .ok (.iconst 0, 1) := by decide +kernel
theorem kd_Mo_bounce_34 : decode kc_Mo_bounce 34 = .ok (.istore 4, 2) := by decide +kernel
theorem kd_Mo_bounce_36 : decode kc_Mo_bounce 36 = .ok (.iload 4, 2) := by decide +kernel
theorem kd_Mo_bounce_38 : decode kc_Mo_bounce 38 = .ok (.bipush 8, 2) := by decide +kernel
theorem kd_Mo_bounce_40 : decode kc_Mo_bounce 40 = .ok (.if_icmp .ge 19, 3) := by decide +kernel
theorem kd_Mo_bounce_43 : decode kc_Mo_bounce 43 = .ok (.aload_n 0, 1) := by decide +kernel
theorem kd_Mo_bounce_44 : decode kc_Mo_bounce 44 = .ok (.getfield 13, 3) := by decide +kernel
theorem kd_Mo_bounce_47 : decode kc_Mo_bounce 47 = .ok (.iload 4, 2) := by decide +kernel
theorem kd_Mo_bounce_49 : decode kc_Mo_bounce 49 = .ok (.iaload, 1) := by decide +kernel
theorem kd_Mo_bounce_50 : decode kc_Mo_bounce 50 = .ok (.ifCond .le 9, 3) := by decide +kernel
theorem kd_Mo_bounce_53 : decode kc_Mo_bounce 53 = .ok (.iinc 4 1, 3) := by decide +kernel
theorem kd_Mo_bounce_56 : decode kc_Mo_bounce 56 = .ok (.goto (-20), 3) := by decide +kernel
theorem kd_Mo_bounce_59 : decode kc_Mo_bounce 59 = .ok (.iload 4, 2) := by decide +kernel
theorem kd_Mo_bounce_61 : decode kc_Mo_bounce 61 = .ok (.bipush 8, 2) := by decide +kernel
theorem kd_Mo_bounce_63 : decode kc_Mo_bounce 63 = .ok (.if_icmp .ne 5, 3) := by decide +kernel
theorem kd_Mo_bounce_66 : decode kc_Mo_bounce 66 = .ok (.iconst (-1), 1) := by decide +kernel
theorem kd_Mo_bounce_67 : decode kc_Mo_bounce 67 = .ok (.ireturn, 1) := by decide +kernel
theorem kd_Mo_bounce_68 : decode kc_Mo_bounce 68 = .ok (.aload_n 0, 1) := by decide +kernel
theorem kd_Mo_bounce_69 : decode kc_Mo_bounce 69 = .ok (.iload_n 2, 1) := by decide +kernel
theorem kd_Mo_bounce_70 : decode kc_Mo_bounce 70 = .ok (.iload_n 3, 1) := by decide +kernel
theorem kd_Mo_bounce_71 : decode kc_Mo_bounce 71 = .ok (.invokevirtual 203, 3) := by decide +kernel
theorem kd_Mo_bounce_74 : decode kc_Mo_bounce 74 = .ok (.iconst 0, 1) := by decide +kernel
theorem kd_Mo_bounce_75 : decode kc_Mo_bounce 75 = .ok (.istore 5, 2) := by decide +kernel
theorem kd_Mo_bounce_77 : decode kc_Mo_bounce 77 = .ok (.iload 5, 2) := by decide +kernel
theorem kd_Mo_bounce_79 : decode kc_Mo_bounce 79 = .ok (.iload_n 3, 1) := by decide +kernel
theorem kd_Mo_bounce_80 : decode kc_Mo_bounce 80 = .ok (.if_icmp .ge 66, 3) := by decide +kernel
theorem kd_Mo_bounce_83 : decode kc_Mo_bounce 83 = .ok (.aload_n 0, 1) := by decide +kernel
theorem kd_Mo_bounce_84 : decode kc_Mo_bounce 84 = .ok (.getfield 98, 3) := by decide +kernel
theorem kd_Mo_bounce_87 : decode kc_Mo_bounce 87 = .ok (.bipush 64, 2) := by decide +kernel
theorem kd_Mo_bounce_89 : decode kc_Mo_bounce 89 = .ok (.iload_n 1, 1) := by decide +kernel
theorem kd_Mo_bounce_90 : decode kc_Mo_bounce 90 = .ok (.imul, 1) := by decide +kernel
theorem kd_Mo_bounce_91 : decode kc_Mo_bounce 91 = .ok (.iload 5, 2) := by decide +kernel
theorem kd_Mo_bounce_93 : decode kc_Mo_bounce 93 = .ok (.iadd, 1) := by decide +kernel
theorem kd_Mo_bounce_94 : decode kc_Mo_bounce 94 = .ok (.iaload, 1) := by decide +kernel
theorem kd_Mo_bounce_95 : decode kc_Mo_bounce 95 = .ok (.istore 6, 2) := by decide +kernel
theorem kd_Mo_bounce_97 : decode kc_Mo_bounce 97 = .ok (.aload_n 0, 1) := by decide +kernel
theorem kd_Mo_bounce_98 : decode kc_Mo_bounce 98 = .ok (.getfield 7, 3) := by decide +kernel
theorem kd_Mo_bounce_101 : decode kc_Mo_bounce 101 = .ok (.bipush 64, 2) := by decide +kernel
theorem kd_Mo_bounce_103 : decode kc_Mo_bounce 103 = .ok (.iload 4, 2) := by decide +kernel
theorem kd_Mo_bounce_105 : decode kc_Mo_bounce 105 = .ok (.imul, 1) := by decide +kernel
theorem kd_Mo_bounce_106 : decode kc_Mo_bounce 106 = .ok (.iload 5, 2) := by decide +kernel
theorem kd_Mo_bounce_108 : decode kc_Mo_bounce 108 = .ok (.iadd, 1) := by decide +kernel
theorem kd_Mo_bounce_109 : decode kc_Mo_bounce 109 = .ok (.iload 6, 2) := by decide +kernel
theorem kd_Mo_bounce_111 : decode kc_Mo_bounce 111 = .ok (.sipush (-32768), 3) := by decide +kernel
theorem kd_Mo_bounce_114 : decode kc_Mo_bounce 114 = .ok (.if_icmp .ge 9, 3) := by decide +kernel
theorem kd_Mo_bounce_117 : decode kc_Mo_bounce 117 = .ok (.sipush (-32768), 3) := by decide +kernel
theorem kd_Mo_bounce_120 : decode kc_Mo_bounce 120 = .ok (.goto 19, 3) := by decide +kernel
theorem kd_Mo_bounce_123 : decode kc_Mo_bounce 123 = .ok (.iload 6, 2) := by decide +kernel
theorem kd_Mo_bounce_125 : decode kc_Mo_bounce 125 = .ok (.sipush 32767, 3) := by decide +kernel
theorem kd_Mo_bounce_128 : decode kc_Mo_bounce 128 = .ok (.if_icmp .le 9, 3) := by decide +kernel
theorem kd_Mo_bounce_131 : decode kc_Mo_bounce 131 = .ok (.sipush 32767, 3) := by decide +kernel
theorem kd_Mo_bounce_134 : decode kc_Mo_bounce 134 = .ok (.goto 5, 3) := by decide +kernel
theorem kd_Mo_bounce_137 : decode kc_Mo_bounce 137 = .ok (.iload 6, 2) := by decide +kernel
theorem kd_Mo_bounce_139 : decode kc_Mo_bounce 139 = .ok (.iastore, 1) := by decide +kernel
theorem kd_Mo_bounce_140 : decode kc_Mo_bounce 140 = .ok (.iinc 5 1, 3) := by decide +kernel
theorem kd_Mo_bounce_143 : decode kc_Mo_bounce 143 = .ok (.goto (-66), 3) := by decide +kernel
theorem kd_Mo_bounce_146 : decode kc_Mo_bounce 146 = .ok (.aload_n 0, 1) := by decide +kernel
theorem kd_Mo_bounce_147 : decode kc_Mo_bounce 147 = .ok (.getfield 13, 3) := by decide +kernel
theorem kd_Mo_bounce_150 : decode kc_Mo_bounce 150 = .ok (.iload 4, 2) := by decide +kernel
theorem kd_Mo_bounce_152 : decode kc_Mo_bounce 152 = .ok (.iload_n 3, 1) := by decide +kernel
theorem kd_Mo_bounce_153 : decode kc_Mo_bounce 153 = .ok (.iastore, 1) := by decide +kernel
theorem kd_Mo_bounce_154 : decode kc_Mo_bounce 154 = .ok (.iload 4, 2) := by decide +kernel
theorem kd_Mo_bounce_156 : decode kc_Mo_bounce 156 = .ok (.ireturn, 1) := by decide +kernel
