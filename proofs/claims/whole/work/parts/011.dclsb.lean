/-! A row that decodes each instruction. Printed. -/
theorem kd_Ef_next_46 : decode kc_Ef_next 46 = .ok (.getfield 28, 3) := by decide +kernel
theorem kd_Ef_next_49 : decode kc_Ef_next 49 = .ok (.invokestatic 46, 3) := by decide +kernel
theorem kd_Ef_next_52 : decode kc_Ef_next 52 = .ok (.invokestatic 50, 3) := by decide +kernel
theorem kd_Ef_next_55 : decode kc_Ef_next 55 = .ok (.ireturn, 1) := by decide +kernel
theorem kd_Ef_next_56 : decode kc_Ef_next 56 = .ok (.aload_n 0, 1) := by decide +kernel
theorem kd_Ef_next_57 : decode kc_Ef_next 57 = .ok (.dup, 1) := by decide +kernel
theorem kd_Ef_next_58 : decode kc_Ef_next 58 = .ok (.getfield 43, 3) := by decide +kernel
theorem kd_Ef_next_61 : decode kc_Ef_next 61 = .ok (.iload_n 1, 1) := by decide +kernel
theorem kd_Ef_next_62 : decode kc_Ef_next 62 = .ok (.aload_n 0, 1) := by decide +kernel
theorem kd_Ef_next_63 : decode kc_Ef_next 63 = .ok (.getfield 43, 3) := by decide +kernel
theorem kd_Ef_next_66 : decode kc_Ef_next 66 = .ok (.isub, 1) := by decide +kernel
theorem kd_Ef_next_67 : decode kc_Ef_next 67 = .ok (.aload_n 0, 1) := by decide +kernel
theorem kd_Ef_next_68 : decode kc_Ef_next 68 = .ok (.getfield 28, 3) := by decide +kernel
theorem kd_Ef_next_71 : decode kc_Ef_next 71 = .ok (.invokestatic 46, 3) := by decide +kernel
theorem kd_Ef_next_74 : decode kc_Ef_next 74 = .ok (.iadd, 1) := by decide +kernel
theorem kd_Ef_next_75 : decode kc_Ef_next 75 = .ok (.putfield 43, 3) := by decide +kernel
theorem kd_Ef_next_78 : decode kc_Ef_next 78 = .ok (.aload_n 0, 1) := by decide +kernel
theorem kd_Ef_next_79 : decode kc_Ef_next 79 = .ok (.getfield 43, 3) := by decide +kernel
theorem kd_Ef_next_82 : decode kc_Ef_next 82 = .ok (.invokestatic 50, 3) := by decide +kernel
theorem kd_Ef_next_85 : decode kc_Ef_next 85 = .ok (.ireturn, 1) := by decide +kernel
theorem kd_Ef_next_86 : decode kc_Ef_next 86 = .ok (.aload_n 0, 1) := by decide +kernel
theorem kd_Ef_next_87 : decode kc_Ef_next 87 = .ok (.iload_n 1, 1) := by decide +kernel
theorem kd_Ef_next_88 : decode kc_Ef_next 88 = .ok (.invokevirtual 54, 3) := by decide +kernel
theorem kd_Ef_next_91 : decode kc_Ef_next 91 = .ok (.ireturn, 1) := by decide +kernel
theorem kd_Ef_next_92 : decode kc_Ef_next 92 = .ok (.aload_n 0, 1) := by decide +kernel
theorem kd_Ef_next_93 : decode kc_Ef_next 93 = .ok (.iload_n 1, 1) := by decide +kernel
theorem kd_Ef_next_94 : decode kc_Ef_next 94 = .ok (.invokevirtual 57, 3) := by decide +kernel
theorem kd_Ef_next_97 : decode kc_Ef_next 97 = .ok (.ireturn, 1) := by decide +kernel
theorem kd_Ef_next_98 : decode kc_Ef_next 98 = .ok (.aload_n 0, 1) := by decide +kernel
theorem kd_Ef_next_99 : decode kc_Ef_next 99 = .ok (.iload_n 1, 1) := by decide +kernel
theorem kd_Ef_next_100 : decode kc_Ef_next 100 = .ok (.invokevirtual 60, 3) := by decide +kernel
theorem kd_Ef_next_103 : decode kc_Ef_next 103 = .ok (.ireturn, 1) := by decide +kernel
theorem kd_Ef_next_104 : decode kc_Ef_next 104 = .ok (.aload_n 0, 1) := by decide +kernel
theorem kd_Ef_next_105 : decode kc_Ef_next 105 = .ok (.getfield 28, 3) := by decide +kernel
theorem kd_Ef_next_108 : decode kc_Ef_next 108 = .ok (.ineg, 1) := by decide +kernel
theorem kd_Ef_next_109 : decode kc_Ef_next 109 = .ok (.aload_n 0, 1) := by decide +kernel
theorem kd_Ef_next_110 : decode kc_Ef_next 110 = .ok (.getfield 28, 3) := by decide +kernel
theorem kd_Ef_next_113 : decode kc_Ef_next 113 = .ok (.iload_n 1, 1) := by decide +kernel
theorem kd_Ef_next_114 : decode kc_Ef_next 114 = .ok (.invokestatic 63, 3) := by decide +kernel
theorem kd_Ef_next_117 : decode kc_Ef_next 117 = .ok (.invokestatic 68, 3) := by decide +kernel
theorem kd_Ef_next_120 : decode kc_Ef_next 120 = .ok (.ireturn, 1) := by decide +kernel
theorem kd_Ef_next_121 : decode kc_Ef_next 121 = .ok (.iload_n 1, 1) := by decide +kernel
theorem kd_Ef_next_122 : decode kc_Ef_next 122 = .ok (.ireturn, 1) := by decide +kernel
theorem kd_Ef_echo_0 : decode kc_Ef_echo 0 = .ok (.iload_n 1, 1) := by decide +kernel
theorem kd_Ef_echo_1 : decode kc_Ef_echo 1 = .ok (.aload_n 0, 1) := by decide +kernel
theorem kd_Ef_echo_2 : decode kc_Ef_echo 2 = .ok (.getfield 11, 3) := by decide +kernel
theorem kd_Ef_echo_5 : decode kc_Ef_echo 5 = .ok (.aload_n 0, 1) := by decide +kernel
theorem kd_Ef_echo_6 : decode kc_Ef_echo 6 = .ok (.getfield 40, 3) := by decide +kernel
theorem kd_Ef_echo_9 : decode kc_Ef_echo 9 = .ok (.iaload, 1) := by decide +kernel
theorem kd_Ef_echo_10 : decode kc_Ef_echo 10 = .ok (.aload_n 0, 1) := by decide +kernel
theorem kd_Ef_echo_11 : decode kc_Ef_echo 11 = .ok (.getfield 31, 3) := by decide +kernel
theorem kd_Ef_echo_14 : decode kc_Ef_echo 14 = .ok (.invokestatic 46, 3) := by decide +kernel
theorem kd_Ef_echo_17 : decode kc_Ef_echo 17 = .ok (.iadd, 1) := by decide +kernel
theorem kd_Ef_echo_18 : decode kc_Ef_echo 18 = .ok (.invokestatic 50, 3) := by decide +kernel
theorem kd_Ef_echo_21 : decode kc_Ef_echo 21 = .ok (.istore_n 2, 1) := by decide +kernel
theorem kd_Ef_echo_22 : decode kc_Ef_echo 22 = .ok (.aload_n 0, 1) := by decide +kernel
theorem kd_Ef_echo_23 : decode kc_Ef_echo 23 = .ok (.getfield 11, 3) := by decide +kernel
theorem kd_Ef_echo_26 : decode kc_Ef_echo 26 = .ok (.aload_n 0, 1) := by decide +kernel
theorem kd_Ef_echo_27 : decode kc_Ef_echo 27 = .ok (.getfield 40, 3) := by decide +kernel
theorem kd_Ef_echo_30 : decode kc_Ef_echo 30 = .ok (.iload_n 2, 1) := by decide +kernel
theorem kd_Ef_echo_31 : decode kc_Ef_echo 31 = .ok (.iastore, 1) := by decide +kernel
theorem kd_Ef_echo_32 : decode kc_Ef_echo 32 = .ok (.aload_n 0, 1) := by decide +kernel
theorem kd_Ef_echo_33 : decode kc_Ef_echo 33 = .ok (.aload_n 0, 1) := by decide +kernel
theorem kd_Ef_echo_34 : decode kc_Ef_echo 34 = .ok (.getfield 40, 3) := by decide +kernel
theorem kd_Ef_echo_37 : decode kc_Ef_echo 37 = .ok (.iconst 1, 1) := by decide +kernel
theorem kd_Ef_echo_38 : decode kc_Ef_echo 38 = .ok (.iadd, 1) := by decide +kernel
theorem kd_Ef_echo_39 : decode kc_Ef_echo 39 = .ok (.aload_n 0, 1) := by decide +kernel
theorem kd_Ef_echo_40 : decode kc_Ef_echo 40 = .ok (.getfield 28, 3) := by decide +kernel
theorem kd_Ef_echo_43 : decode kc_Ef_echo 43 = .ok (.if_icmp .ge 12, 3) := by decide +kernel
theorem kd_Ef_echo_46 : decode kc_Ef_echo 46 = .ok (.aload_n 0, 1) := by decide +kernel
theorem kd_Ef_echo_47 : decode kc_Ef_echo 47 = .ok (.getfield 40, 3) := by decide +kernel
theorem kd_Ef_echo_50 : decode kc_Ef_echo 50 = .ok (.iconst 1, 1) := by decide +kernel
theorem kd_Ef_echo_51 : decode kc_Ef_echo 51 = .ok (.iadd, 1) := by decide +kernel
theorem kd_Ef_echo_52 : decode kc_Ef_echo 52 = .ok (.goto 4, 3) := by decide +kernel
theorem kd_Ef_echo_55 : decode kc_Ef_echo 55 = .ok (.iconst 0, 1) := by decide +kernel
theorem kd_Ef_echo_56 : decode kc_Ef_echo 56 = .ok (.putfield 40, 3) := by decide +kernel
theorem kd_Ef_echo_59 : decode kc_Ef_echo 59 = .ok (.iload_n 2, 1) := by decide +kernel
theorem kd_Ef_echo_60 : decode kc_Ef_echo 60 = .ok (.ireturn, 1) := by decide +kernel
theorem kd_Ef_limit_0 : decode kc_Ef_limit 0 = .ok (.aload_n 0, 1) := by decide +kernel
theorem kd_Ef_limit_1 : decode kc_Ef_limit 1 = .ok (.getfield 11, 3) := by decide +kernel
theorem kd_Ef_limit_4 : decode kc_Ef_limit 4 = .ok (.aload_n 0, 1) := by decide +kernel
theorem kd_Ef_limit_5 : decode kc_Ef_limit 5 = .ok (.getfield 40, 3) := by decide +kernel
theorem kd_Ef_limit_8 : decode kc_Ef_limit 8 = .ok (.iaload, 1) := by decide +kernel
theorem kd_Ef_limit_9 : decode kc_Ef_limit 9 = .ok (.istore_n 2, 1) := by decide +kernel
theorem kd_Ef_limit_10 : decode kc_Ef_limit 10 = .ok (.aload_n 0, 1) := by decide +kernel
theorem kd_Ef_limit_11 : decode kc_Ef_limit 11 = .ok (.getfield 11, 3) := by decide +kernel
theorem kd_Ef_limit_14 : decode kc_Ef_limit 14 = .ok (.aload_n 0, 1) := by decide +kernel
theorem kd_Ef_limit_15 : decode kc_Ef_limit 15 = .ok (.getfield 40, 3) := by decide +kernel
theorem kd_Ef_limit_18 : decode kc_Ef_limit 18 = .ok (.iload_n 1, 1) := by decide +kernel
theorem kd_Ef_limit_19 : decode kc_Ef_limit 19 = .ok (.iastore, 1) := by decide +kernel
theorem kd_Ef_limit_20 : decode kc_Ef_limit 20 = .ok (.aload_n 0, 1) := by decide +kernel
theorem kd_Ef_limit_21 : decode kc_Ef_limit 21 = .ok (.aload_n 0, 1) := by decide +kernel
theorem kd_Ef_limit_22 : decode kc_Ef_limit 22 = .ok (.getfield 40, 3) := by decide +kernel
theorem kd_Ef_limit_25 : decode kc_Ef_limit 25 = .ok (.aload_n 0, 1) := by decide +kernel
theorem kd_Ef_limit_26 : decode kc_Ef_limit 26 = .ok (.getfield 31, 3) := by decide +kernel
theorem kd_Ef_limit_29 : decode kc_Ef_limit 29 = .ok (.if_icmp .ge 12, 3) := by decide +kernel
theorem kd_Ef_limit_32 : decode kc_Ef_limit 32 = .ok (.aload_n 0, 1) := by decide +kernel
theorem kd_Ef_limit_33 : decode kc_Ef_limit 33 = .ok (.getfield 40, 3) := by decide +kernel
theorem kd_Ef_limit_36 : decode kc_Ef_limit 36 = .ok (.iconst 1, 1) := by decide +kernel
theorem kd_Ef_limit_37 : decode kc_Ef_limit 37 = .ok (.iadd, 1) := by decide +kernel
theorem kd_Ef_limit_38 : decode kc_Ef_limit 38 = .ok (.goto 4, 3) := by decide +kernel
theorem kd_Ef_limit_41 : decode kc_Ef_limit 41 = .ok (.iconst 0, 1) := by decide +kernel
theorem kd_Ef_limit_42 : decode kc_Ef_limit 42 = .ok (.putfield 40, 3) := by decide +kernel
theorem kd_Ef_limit_45 : decode kc_Ef_limit 45 = .ok (.iload_n 1, 1) := by decide +kernel
theorem kd_Ef_limit_46 : decode kc_Ef_limit 46 = .ok (.invokestatic 71, 3) := by decide +kernel
theorem kd_Ef_limit_49 : decode kc_Ef_limit 49 = .ok (.aload_n 0, 1) := by decide +kernel
theorem kd_Ef_limit_50 : decode kc_Ef_limit 50 = .ok (.getfield 43, 3) := by decide +kernel
theorem kd_Ef_limit_53 : decode kc_Ef_limit 53 = .ok (.if_icmp .lt 14, 3) := by decide +kernel
theorem kd_Ef_limit_56 : decode kc_Ef_limit 56 = .ok (.aload_n 0, 1) := by decide +kernel
theorem kd_Ef_limit_57 : decode kc_Ef_limit 57 = .ok (.iload_n 1, 1) := by decide +kernel
theorem kd_Ef_limit_58 : decode kc_Ef_limit 58 = .ok (.invokestatic 71, 3) := by decide +kernel
theorem kd_Ef_limit_61 : decode kc_Ef_limit 61 = .ok (.putfield 43, 3) := by decide +kernel
theorem kd_Ef_limit_64 : decode kc_Ef_limit 64 = .ok (.goto 22, 3) := by decide +kernel
theorem kd_Ef_limit_67 : decode kc_Ef_limit 67 = .ok (.iload_n 2, 1) := by decide +kernel
theorem kd_Ef_limit_68 : decode kc_Ef_limit 68 = .ok (.invokestatic 71, 3) := by decide +kernel
theorem kd_Ef_limit_71 : decode kc_Ef_limit 71 = .ok (.aload_n 0, 1) := by decide +kernel
theorem kd_Ef_limit_72 : decode kc_Ef_limit 72 = .ok (.getfield 43, 3) := by decide +kernel
theorem kd_Ef_limit_75 : decode kc_Ef_limit 75 = .ok (.if_icmp .ne 11, 3) := by decide +kernel
theorem kd_Ef_limit_78 : decode kc_Ef_limit 78 = .ok (.aload_n 0, 1) := by decide +kernel
theorem kd_Ef_limit_79 : decode kc_Ef_limit 79 = .ok (.aload_n 0, 1) := by decide +kernel
theorem kd_Ef_limit_80 : decode kc_Ef_limit 80 = .ok (.invokevirtual 74, 3) := by decide +kernel
theorem kd_Ef_limit_83 : decode kc_Ef_limit 83 = .ok (.putfield 43, 3) := by decide +kernel
theorem kd_Ef_limit_86 : decode kc_Ef_limit 86 = .ok (.aload_n 0, 1) := by decide +kernel
theorem kd_Ef_limit_87 : decode kc_Ef_limit 87 = .ok (.getfield 11, 3) := by decide +kernel
theorem kd_Ef_limit_90 : decode kc_Ef_limit 90 = .ok (.aload_n 0, 1) := by decide +kernel
theorem kd_Ef_limit_91 : decode kc_Ef_limit 91 = .ok (.getfield 40, 3) := by decide +kernel
theorem kd_Ef_limit_94 : decode kc_Ef_limit 94 = .ok (.iaload, 1) := by decide +kernel
theorem kd_Ef_limit_95 : decode kc_Ef_limit 95 = .ok (.istore_n 3, 1) := by decide +kernel
theorem kd_Ef_limit_96 : decode kc_Ef_limit 96 = .ok (.aload_n 0, 1) := by decide +kernel
theorem kd_Ef_limit_97 : decode kc_Ef_limit 97 = .ok (.getfield 43, 3) := by decide +kernel
theorem kd_Ef_limit_100 : decode kc_Ef_limit 100 = .ok (.aload_n 0, 1) := by decide +kernel
theorem kd_Ef_limit_101 : decode kc_Ef_limit 101 = .ok (.getfield 28, 3) := by decide +kernel
theorem kd_Ef_limit_104 : decode kc_Ef_limit 104 = .ok (.if_icmp .gt 7, 3) := by decide +kernel
theorem kd_Ef_limit_107 : decode kc_Ef_limit 107 = .ok (.iload_n 3, 1) := by decide +kernel
theorem kd_Ef_limit_108 : decode kc_Ef_limit 108 = .ok (.goto 18, 3) := by decide +kernel
theorem kd_Ef_limit_111 : decode kc_Ef_limit 111 = .ok (.iload_n 3, 1) := by decide +kernel
theorem kd_Ef_limit_112 : decode kc_Ef_limit 112 = .ok (.i2l, 1) := by decide +kernel
theorem kd_Ef_limit_113 : decode kc_Ef_limit 113 = .ok (.aload_n 0, 1) := by decide +kernel
theorem kd_Ef_limit_114 : decode kc_Ef_limit 114 = .ok (.getfield 28, 3) := by decide +kernel
theorem kd_Ef_limit_117 : decode kc_Ef_limit 117 = .ok (.i2l, 1) := by decide +kernel
theorem kd_Ef_limit_118 : decode kc_Ef_limit 118 = .ok (.lmul, 1) := by decide +kernel
theorem kd_Ef_limit_119 : decode kc_Ef_limit 119 = .ok (.aload_n 0, 1) := by decide +kernel
theorem kd_Ef_limit_120 : decode kc_Ef_limit 120 = .ok (.getfield 43, 3) := by decide +kernel
theorem kd_Ef_limit_123 : decode kc_Ef_limit 123 = .ok (.i2l, 1) := by decide +kernel
theorem kd_Ef_limit_124 : decode kc_Ef_limit 124 = .ok (.ldiv, 1) := by decide +kernel
theorem kd_Ef_limit_125 : decode kc_Ef_limit 125 = .ok (.l2i, 1) := by decide +kernel
theorem kd_Ef_limit_126 : decode kc_Ef_limit 126 = .ok (.ireturn, 1) := by decide +kernel
theorem kd_Ef_greatestPast_0 : decode kc_Ef_greatestPast 0 = .ok (.iconst 0, 1) := by decide +kernel
theorem kd_Ef_greatestPast_1 : decode kc_Ef_greatestPast 1 = .ok (.istore_n 1, 1) := by decide +kernel
theorem kd_Ef_greatestPast_2 : decode kc_Ef_greatestPast 2 = .ok (.iconst 0, 1) := by decide +kernel
theorem kd_Ef_greatestPast_3 : decode kc_Ef_greatestPast 3 = .ok (.istore_n 2, 1) := by decide +kernel
theorem kd_Ef_greatestPast_4 : decode kc_Ef_greatestPast 4 = .ok (.iload_n 2, 1) := by decide +kernel
theorem kd_Ef_greatestPast_5 : decode kc_Ef_greatestPast 5 = .ok (.aload_n 0, 1) := by decide +kernel
theorem kd_Ef_greatestPast_6 : decode kc_Ef_greatestPast 6 = .ok (.getfield 31, 3) := by decide +kernel
theorem kd_Ef_greatestPast_9 : decode kc_Ef_greatestPast 9 = .ok (.if_icmp .gt 23, 3) := by decide +kernel
theorem kd_Ef_greatestPast_12 : decode kc_Ef_greatestPast 12 = .ok (.iload_n 1, 1) := by decide +kernel
theorem kd_Ef_greatestPast_13 : decode kc_Ef_greatestPast 13 = .ok (.aload_n 0, 1) := by decide +kernel
theorem kd_Ef_greatestPast_14 : decode kc_Ef_greatestPast 14 = .ok (.getfield 11, 3) := by decide +kernel
theorem kd_Ef_greatestPast_17 : decode kc_Ef_greatestPast 17 = .ok (.iload_n 2, 1) := by decide +kernel
theorem kd_Ef_greatestPast_18 : decode kc_Ef_greatestPast 18 = .ok (.iaload, 1) := by decide +kernel
theorem kd_Ef_greatestPast_19 : decode kc_Ef_greatestPast 19 = .ok (.invokestatic 71, 3) := by decide +kernel
theorem kd_Ef_greatestPast_22 : decode kc_Ef_greatestPast 22 = .ok (.invokestatic 68, 3) := by decide +kernel
theorem kd_Ef_greatestPast_25 : decode kc_Ef_greatestPast 25 = .ok (.istore_n 1, 1) := by decide +kernel
theorem kd_Ef_greatestPast_26 : decode kc_Ef_greatestPast 26 = .ok (.iinc 2 1, 3) := by decide +kernel
theorem kd_Ef_greatestPast_29 : decode kc_Ef_greatestPast 29 = .ok (.goto (-25), 3) := by decide +kernel
theorem kd_Ef_greatestPast_32 : decode kc_Ef_greatestPast 32 = .ok (.iload_n 1, 1) := by decide +kernel
theorem kd_Ef_greatestPast_33 : decode kc_Ef_greatestPast 33 = .ok (.ireturn, 1) := by decide +kernel
theorem kd_Ef_gate_0 : decode kc_Ef_gate 0 = .ok (.iload_n 1, 1) := by decide +kernel
theorem kd_Ef_gate_1 : decode kc_Ef_gate 1 = .ok (.invokestatic 71, 3) := by decide +kernel
theorem kd_Ef_gate_4 : decode kc_Ef_gate 4 = .ok (.aload_n 0, 1) := by decide +kernel
theorem kd_Ef_gate_5 : decode kc_Ef_gate 5 = .ok (.getfield 28, 3) := by decide +kernel
theorem kd_Ef_gate_8 : decode kc_Ef_gate 8 = .ok (.if_icmp .lt 13, 3) := by decide +kernel
theorem kd_Ef_gate_11 : decode kc_Ef_gate 11 = .ok (.aload_n 0, 1) := by decide +kernel
theorem kd_Ef_gate_12 : decode kc_Ef_gate 12 = .ok (.aload_n 0, 1) := by decide +kernel
theorem kd_Ef_gate_13 : decode kc_Ef_gate 13 = .ok (.getfield 31, 3) := by decide +kernel
theorem kd_Ef_gate_16 : decode kc_Ef_gate 16 = .ok (.iconst 1, 1) := by decide +kernel
theorem kd_Ef_gate_17 : decode kc_Ef_gate 17 = .ok (.iadd, 1) := by decide +kernel
theorem kd_Ef_gate_18 : decode kc_Ef_gate 18 = .ok (.putfield 43, 3) := by decide +kernel
theorem kd_Ef_gate_21 : decode kc_Ef_gate 21 = .ok (.aload_n 0, 1) := by decide +kernel
theorem kd_Ef_gate_22 : decode kc_Ef_gate 22 = .ok (.getfield 43, 3) := by decide +kernel
theorem kd_Ef_gate_25 : decode kc_Ef_gate 25 = .ok (.ifCond .ne 5, 3) := by decide +kernel
theorem kd_Ef_gate_28 : decode kc_Ef_gate 28 = .ok (.iconst 0, 1) := by decide +kernel
theorem kd_Ef_gate_29 : decode kc_Ef_gate 29 = .ok (.ireturn, 1) := by decide +kernel
theorem kd_Ef_gate_30 : decode kc_Ef_gate 30 = .ok (.aload_n 0, 1) := by decide +kernel
theorem kd_Ef_gate_31 : decode kc_Ef_gate 31 = .ok (.dup, 1) := by decide +kernel
theorem kd_Ef_gate_32 : decode kc_Ef_gate 32 = .ok (.getfield 43, 3) := by decide +kernel
theorem kd_Ef_gate_35 : decode kc_Ef_gate 35 = .ok (.iconst 1, 1) := by decide +kernel
theorem kd_Ef_gate_36 : decode kc_Ef_gate 36 = .ok (.isub, 1) := by decide +kernel
theorem kd_Ef_gate_37 : decode kc_Ef_gate 37 = .ok (.putfield 43, 3) := by decide +kernel
theorem kd_Ef_gate_40 : decode kc_Ef_gate 40 = .ok (.iload_n 1, 1) := by decide +kernel
theorem kd_Ef_gate_41 : decode kc_Ef_gate 41 = .ok (.ireturn, 1) := by decide +kernel
theorem kd_Fa_init_0 : decode kc_Fa_init 0 = .ok (.aload_n 0, 1) := by decide +kernel
theorem kd_Fa_init_1 : decode kc_Fa_init 1 = .ok (.invokespecial 3, 3) := by decide +kernel
theorem kd_Fa_init_4 : decode kc_Fa_init 4 = .ok (.aload_n 0, 1) := by decide +kernel
theorem kd_Fa_init_5 : decode kc_Fa_init 5 = .ok (.bipush 8, 2) := by decide +kernel
theorem kd_Fa_init_7 : decode kc_Fa_init 7 = .ok (.newarray .int, 2) := by decide +kernel
theorem kd_Fa_init_9 : decode kc_Fa_init 9 = .ok (.putfield 9, 3) := by decide +kernel
theorem kd_Fa_init_12 : decode kc_Fa_init 12 = .ok (.aload_n 0, 1) := by decide +kernel
theorem kd_Fa_init_13 : decode kc_Fa_init 13 = .ok (.bipush 8, 2) := by decide +kernel
theorem kd_Fa_init_15 : decode kc_Fa_init 15 = .ok (.newarray .int, 2) := by decide +kernel
theorem kd_Fa_init_17 : decode kc_Fa_init 17 = .ok (.putfield 15, 3) := by decide +kernel
theorem kd_Fa_init_20 : decode kc_Fa_init 20 = .ok (.aload_n 0, 1) := by decide +kernel
theorem kd_Fa_init_21 : decode kc_Fa_init 21 = .ok (.bipush 8, 2) := by decide +kernel
theorem kd_Fa_init_23 : decode kc_Fa_init 23 = .ok (.newarray .boolean, 2) := by decide +kernel
theorem kd_Fa_init_25 : decode kc_Fa_init 25 = .ok (.putfield 18, 3) := by decide +kernel
theorem kd_Fa_init_28 : decode kc_Fa_init 28 = .ok (.aload_n 0, 1) := by decide +kernel
theorem kd_Fa_init_29 : decode kc_Fa_init 29 = .ok (.sipush 256, 3) := by decide +kernel
theorem kd_Fa_init_32 : decode kc_Fa_init 32 = .ok (.putfield 22, 3) := by decide +kernel
theorem kd_Fa_init_35 : decode kc_Fa_init 35 = .ok (.return_, 1) := by decide +kernel
theorem kd_Fa_put_0 : decode kc_Fa_put 0 = .ok (.aload_n 0, 1) := by decide +kernel
theorem kd_Fa_put_1 : decode kc_Fa_put 1 = .ok (.iload_n 1, 1) := by decide +kernel
theorem kd_Fa_put_2 : decode kc_Fa_put 2 = .ok (.invokevirtual 26, 3) := by decide +kernel
theorem kd_Fa_put_5 : decode kc_Fa_put 5 = .ok (.istore 4, 2) := by decide +kernel
theorem kd_Fa_put_7 : decode kc_Fa_put 7 = .ok (.iload 4, 2) := by decide +kernel
theorem kd_Fa_put_9 : decode kc_Fa_put 9 = .ok (.aload_n 0, 1) := by decide +kernel
theorem kd_Fa_put_10 : decode kc_Fa_put 10 = .ok (.getfield 30, 3) := by decide +kernel
theorem kd_Fa_put_13 : decode kc_Fa_put 13 = .ok (.if_icmp .ge 18, 3) := by decide +kernel
theorem kd_Fa_put_16 : decode kc_Fa_put 16 = .ok (.aload_n 0, 1) := by decide +kernel
theorem kd_Fa_put_17 : decode kc_Fa_put 17 = .ok (.getfield 9, 3) := by decide +kernel
theorem kd_Fa_put_20 : decode kc_Fa_put 20 = .ok (.iload 4, 2) := by decide +kernel
theorem kd_Fa_put_22 : decode kc_Fa_put 22 = .ok (.iaload, 1) := by decide +kernel
theorem kd_Fa_put_23 : decode kc_Fa_put 23 = .ok (.iload_n 1, 1) := by decide +kernel
theorem kd_Fa_put_24 : decode kc_Fa_put 24 = .ok (.if_icmp .ne 7, 3) := by decide +kernel
theorem kd_Fa_put_27 : decode kc_Fa_put 27 = .ok (.iconst 1, 1) := by decide +kernel
theorem kd_Fa_put_28 : decode kc_Fa_put 28 = .ok (.goto 4, 3) := by decide +kernel
theorem kd_Fa_put_31 : decode kc_Fa_put 31 = .ok (.iconst 0, 1) := by decide +kernel
theorem kd_Fa_put_32 : decode kc_Fa_put 32 = .ok (.istore 5, 2) := by decide +kernel
theorem kd_Fa_put_34 : decode kc_Fa_put 34 = .ok (.iload 5, 2) := by decide +kernel
theorem kd_Fa_put_36 : decode kc_Fa_put 36 = .ok (.ifCond .ne 14, 3) := by decide +kernel
theorem kd_Fa_put_39 : decode kc_Fa_put 39 = .ok (.aload_n 0, 1) := by decide +kernel
theorem kd_Fa_put_40 : decode kc_Fa_put 40 = .ok (.getfield 30, 3) := by decide +kernel
theorem kd_Fa_put_43 : decode kc_Fa_put 43 = .ok (.bipush 8, 2) := by decide +kernel
theorem kd_Fa_put_45 : decode kc_Fa_put 45 = .ok (.if_icmp .ne 5, 3) := by decide +kernel
theorem kd_Fa_put_48 : decode kc_Fa_put 48 = .ok (.iconst 0, 1) := by decide +kernel
theorem kd_Fa_put_49 : decode kc_Fa_put 49 = .ok (.ireturn, 1) := by decide +kernel
theorem kd_Fa_put_50 : decode kc_Fa_put 50 = .ok (.iload 5, 2) := by decide +kernel
theorem kd_Fa_put_52 : decode kc_Fa_put 52 = .ok (.ifCond .ne 9, 3) := by decide +kernel
theorem kd_Fa_put_55 : decode kc_Fa_put 55 = .ok (.aload_n 0, 1) := by decide +kernel
theorem kd_Fa_put_56 : decode kc_Fa_put 56 = .ok (.iload 4, 2) := by decide +kernel
theorem kd_Fa_put_58 : decode kc_Fa_put 58 = .ok (.invokevirtual 33, 3) := by decide +kernel
theorem kd_Fa_put_61 : decode kc_Fa_put 61 = .ok (.aload_n 0, 1) := by decide +kernel
theorem kd_Fa_put_62 : decode kc_Fa_put 62 = .ok (.getfield 9, 3) := by decide +kernel
theorem kd_Fa_put_65 : decode kc_Fa_put 65 = .ok (.iload 4, 2) := by decide +kernel
theorem kd_Fa_put_67 : decode kc_Fa_put 67 = .ok (.iload_n 1, 1) := by decide +kernel
theorem kd_Fa_put_68 : decode kc_Fa_put 68 = .ok (.iastore, 1) := by decide +kernel
theorem kd_Fa_put_69 : decode kc_Fa_put 69 = .ok (.aload_n 0, 1) := by decide +kernel
theorem kd_Fa_put_70 : decode kc_Fa_put 70 = .ok (.getfield 15, 3) := by decide +kernel
theorem kd_Fa_put_73 : decode kc_Fa_put 73 = .ok (.iload 4, 2) := by decide +kernel
theorem kd_Fa_put_75 : decode kc_Fa_put 75 = .ok (.iload_n 2, 1) := by decide +kernel
theorem kd_Fa_put_76 : decode kc_Fa_put 76 = .ok (.iastore, 1) := by decide +kernel
theorem kd_Fa_put_77 : decode kc_Fa_put 77 = .ok (.aload_n 0, 1) := by decide +kernel
theorem kd_Fa_put_78 : decode kc_Fa_put 78 = .ok (.getfield 18, 3) := by decide +kernel
theorem kd_Fa_put_81 : decode kc_Fa_put 81 = .ok (.iload 4, 2) := by decide +kernel
theorem kd_Fa_put_83 : decode kc_Fa_put 83 = .ok (.iload_n 3, 1) := by decide +kernel
theorem kd_Fa_put_84 : decode kc_Fa_put 84 = .ok (.bastore, 1) := by decide +kernel
theorem kd_Fa_put_85 : decode kc_Fa_put 85 = .ok (.iconst 1, 1) := by decide +kernel
theorem kd_Fa_put_86 : decode kc_Fa_put 86 = .ok (.ireturn, 1) := by decide +kernel
theorem kd_Fa_clearPoints_0 : decode kc_Fa_clearPoints 0 = .ok (.aload_n 0, 1) := by decide +kernel
theorem kd_Fa_clearPoints_1 : decode kc_Fa_clearPoints 1 = .ok (.getfield 30, 3) := by decide +kernel
theorem kd_Fa_clearPoints_4 : decode kc_Fa_clearPoints 4 = .ok (.istore_n 1, 1) := by decide +kernel
theorem kd_Fa_clearPoints_5 : decode kc_Fa_clearPoints 5 = .ok (.aload_n 0, 1) := by decide +kernel
theorem kd_Fa_clearPoints_6 : decode kc_Fa_clearPoints 6 = .ok (.iconst 0, 1) := by decide +kernel
theorem kd_Fa_clearPoints_7 : decode kc_Fa_clearPoints 7 = .ok (.putfield 30, 3) := by decide +kernel
theorem kd_Fa_clearPoints_10 : decode kc_Fa_clearPoints 10 = .ok (.iload_n 1, 1) := by decide +kernel
theorem kd_Fa_clearPoints_11 : decode kc_Fa_clearPoints 11 = .ok (.ireturn, 1) := by decide +kernel
theorem kd_Fa_levelAt_0 : decode kc_Fa_levelAt 0 = .ok (.aload_n 0, 1) := by decide +kernel
theorem kd_Fa_levelAt_1 : decode kc_Fa_levelAt 1 = .ok (.getfield 30, 3) := by decide +kernel
theorem kd_Fa_levelAt_4 : decode kc_Fa_levelAt 4 = .ok (.ifCond .ne 8, 3) := by decide +kernel
theorem kd_Fa_levelAt_7 : decode kc_Fa_levelAt 7 = .ok (.aload_n 0, 1) := by decide +kernel
theorem kd_Fa_levelAt_8 : decode kc_Fa_levelAt 8 = .ok (.getfield 22, 3) := by decide +kernel
theorem kd_Fa_levelAt_11 : decode kc_Fa_levelAt 11 = .ok (.ireturn, 1) := by decide +kernel
theorem kd_Fa_levelAt_12 : decode kc_Fa_levelAt 12 = .ok (.aload_n 0, 1) := by decide +kernel
theorem kd_Fa_levelAt_13 : decode kc_Fa_levelAt 13 = .ok (.iload_n 1, 1) := by decide +kernel
theorem kd_Fa_levelAt_14 : decode kc_Fa_levelAt 14 = .ok (.iconst 1, 1) := by decide +kernel
theorem kd_Fa_levelAt_15 : decode kc_Fa_levelAt 15 = .ok (.iadd, 1) := by decide +kernel
theorem kd_Fa_levelAt_16 : decode kc_Fa_levelAt 16 = .ok (.invokevirtual 26, 3) := by decide +kernel
theorem kd_Fa_levelAt_19 : decode kc_Fa_levelAt 19 = .ok (.istore_n 2, 1) := by decide +kernel
theorem kd_Fa_levelAt_20 : decode kc_Fa_levelAt 20 = .ok (.iload_n 2, 1) := by decide +kernel
theorem kd_Fa_levelAt_21 : decode kc_Fa_levelAt 21 = .ok (.ifCond .ne 10, 3) := by decide +kernel
theorem kd_Fa_levelAt_24 : decode kc_Fa_levelAt 24 = .ok (.aload_n 0, 1) := by decide +kernel
theorem kd_Fa_levelAt_25 : decode kc_Fa_levelAt 25 = .ok (.getfield 15, 3) := by decide +kernel
theorem kd_Fa_levelAt_28 : decode kc_Fa_levelAt 28 = .ok (.iconst 0, 1) := by decide +kernel
theorem kd_Fa_levelAt_29 : decode kc_Fa_levelAt 29 = .ok (.iaload, 1) := by decide +kernel
theorem kd_Fa_levelAt_30 : decode kc_Fa_levelAt 30 = .ok (.ireturn, 1) := by decide +kernel
theorem kd_Fa_levelAt_31 : decode kc_Fa_levelAt 31 = .ok (.iload_n 2, 1) := by decide +kernel
theorem kd_Fa_levelAt_32 : decode kc_Fa_levelAt 32 = .ok (.iconst 1, 1) := by decide +kernel
theorem kd_Fa_levelAt_33 : decode kc_Fa_levelAt 33 = .ok (.isub, 1) := by decide +kernel
theorem kd_Fa_levelAt_34 : decode kc_Fa_levelAt 34 = .ok (.istore_n 3, 1) := by decide +kernel
theorem kd_Fa_levelAt_35 : decode kc_Fa_levelAt 35 = .ok (.aload_n 0, 1) := by decide +kernel
theorem kd_Fa_levelAt_36 : decode kc_Fa_levelAt 36 = .ok (.getfield 18, 3) := by decide +kernel
theorem kd_Fa_levelAt_39 : decode kc_Fa_levelAt 39 = .ok (.iload_n 3, 1) := by decide +kernel
theorem kd_Fa_levelAt_40 : decode kc_Fa_levelAt 40 = .ok (.baload, 1) := by decide +kernel
theorem kd_Fa_levelAt_41 : decode kc_Fa_levelAt 41 = .ok (.ifCond .eq 11, 3) := by decide +kernel
theorem kd_Fa_levelAt_44 : decode kc_Fa_levelAt 44 = .ok (.iload_n 2, 1) := by decide +kernel
theorem kd_Fa_levelAt_45 : decode kc_Fa_levelAt 45 = .ok (.aload_n 0, 1) := by decide +kernel
theorem kd_Fa_levelAt_46 : decode kc_Fa_levelAt 46 = .ok (.getfield 30, 3) := by decide +kernel
theorem kd_Fa_levelAt_49 : decode kc_Fa_levelAt 49 = .ok (.if_icmp .ne 10, 3) := by decide +kernel
theorem kd_Fa_levelAt_52 : decode kc_Fa_levelAt 52 = .ok (.aload_n 0, 1) := by decide +kernel
theorem kd_Fa_levelAt_53 : decode kc_Fa_levelAt 53 = .ok (.getfield 15, 3) := by decide +kernel
theorem kd_Fa_levelAt_56 : decode kc_Fa_levelAt 56 = .ok (.iload_n 3, 1) := by decide +kernel
theorem kd_Fa_levelAt_57 : decode kc_Fa_levelAt 57 = .ok (.iaload, 1) := by decide +kernel
theorem kd_Fa_levelAt_58 : decode kc_Fa_levelAt 58 = .ok (.ireturn, 1) := by decide +kernel
theorem kd_Fa_levelAt_59 : decode kc_Fa_levelAt 59 = .ok (.aload_n 0, 1) := by decide +kernel
theorem kd_Fa_levelAt_60 : decode kc_Fa_levelAt 60 = .ok (.getfield 15, 3) := by decide +kernel
theorem kd_Fa_levelAt_63 : decode kc_Fa_levelAt 63 = .ok (.iload_n 2, 1) := by decide +kernel
theorem kd_Fa_levelAt_64 : decode kc_Fa_levelAt 64 = .ok (.iaload, 1) := by decide +kernel
theorem kd_Fa_levelAt_65 : decode kc_Fa_levelAt 65 = .ok (.aload_n 0, 1) := by decide +kernel
theorem kd_Fa_levelAt_66 : decode kc_Fa_levelAt 66 = .ok (.getfield 15, 3) := by decide +kernel
theorem kd_Fa_levelAt_69 : decode kc_Fa_levelAt 69 = .ok (.iload_n 3, 1) := by decide +kernel
theorem kd_Fa_levelAt_70 : decode kc_Fa_levelAt 70 = .ok (.iaload, 1) := by decide +kernel
theorem kd_Fa_levelAt_71 : decode kc_Fa_levelAt 71 = .ok (.isub, 1) := by decide +kernel
theorem kd_Fa_levelAt_72 : decode kc_Fa_levelAt 72 = .ok (.istore 4, 2) := by decide +kernel
theorem kd_Fa_levelAt_74 : decode kc_Fa_levelAt 74 = .ok (.aload_n 0, 1) := by decide +kernel
theorem kd_Fa_levelAt_75 : decode kc_Fa_levelAt 75 = .ok (.getfield 15, 3) := by decide +kernel
theorem kd_Fa_levelAt_78 : decode kc_Fa_levelAt 78 = .ok (.iload_n 3, 1) := by decide +kernel
theorem kd_Fa_levelAt_79 : decode kc_Fa_levelAt 79 = .ok (.iaload, 1) := by decide +kernel
theorem kd_Fa_levelAt_80 : decode kc_Fa_levelAt 80 = .ok (.iload 4, 2) := by decide +kernel
theorem kd_Fa_levelAt_82 : decode kc_Fa_levelAt 82 = .ok (.iload_n 1, 1) := by decide +kernel
theorem kd_Fa_levelAt_83 : decode kc_Fa_levelAt 83 = .ok (.aload_n 0, 1) := by decide +kernel
theorem kd_Fa_levelAt_84 : decode kc_Fa_levelAt 84 = .ok (.getfield 9, 3) := by decide +kernel
theorem kd_Fa_levelAt_87 : decode kc_Fa_levelAt 87 = .ok (.iload_n 3, 1) := by decide +kernel
theorem kd_Fa_levelAt_88 : decode kc_Fa_levelAt 88 = .ok (.iaload, 1) := by decide +kernel
theorem kd_Fa_levelAt_89 : decode kc_Fa_levelAt 89 = .ok (.isub, 1) := by decide +kernel
theorem kd_Fa_levelAt_90 : decode kc_Fa_levelAt 90 = .ok (.imul, 1) := by decide +kernel
theorem kd_Fa_levelAt_91 : decode kc_Fa_levelAt 91 = .ok (.aload_n 0, 1) := by decide +kernel
theorem kd_Fa_levelAt_92 : decode kc_Fa_levelAt 92 = .ok (.getfield 9, 3) := by decide +kernel
theorem kd_Fa_levelAt_95 : decode kc_Fa_levelAt 95 = .ok (.iload_n 2, 1) := by decide +kernel
theorem kd_Fa_levelAt_96 : decode kc_Fa_levelAt 96 = .ok (.iaload, 1) := by decide +kernel
theorem kd_Fa_levelAt_97 : decode kc_Fa_levelAt 97 = .ok (.aload_n 0, 1) := by decide +kernel
theorem kd_Fa_levelAt_98 : decode kc_Fa_levelAt 98 = .ok (.getfield 9, 3) := by decide +kernel
theorem kd_Fa_levelAt_101 : decode kc_Fa_levelAt 101 = .ok (.iload_n 3, 1) := by decide +kernel
theorem kd_Fa_levelAt_102 : decode kc_Fa_levelAt 102 = .ok (.iaload, 1) := by decide +kernel
theorem kd_Fa_levelAt_103 : decode kc_Fa_levelAt 103 = .ok (.isub, 1) := by decide +kernel
theorem kd_Fa_levelAt_104 : decode kc_Fa_levelAt 104 = .ok (.invokestatic 37, 3) := by decide +kernel
theorem kd_Fa_levelAt_107 : decode kc_Fa_levelAt 107 = .ok (.iadd, 1) := by decide +kernel
theorem kd_Fa_levelAt_108 : decode kc_Fa_levelAt 108 = .ok (.ireturn, 1) := by decide +kernel
theorem kd_Fa_firstNotBefore_0 : decode kc_Fa_firstNotBefore 0 = .ok (.iconst 0, 1) := by decide +kernel
theorem kd_Fa_firstNotBefore_1 : decode kc_Fa_firstNotBefore 1 = .ok (.istore_n 2, 1) := by decide +kernel
theorem kd_Fa_firstNotBefore_2 : decode kc_Fa_firstNotBefore 2 = .ok (.iload_n 2, 1) := by decide +kernel
theorem kd_Fa_firstNotBefore_3 : decode kc_Fa_firstNotBefore 3 = .ok (.aload_n 0, 1) := by decide +kernel
theorem kd_Fa_firstNotBefore_4 : decode kc_Fa_firstNotBefore 4 = .ok (.getfield 30, 3) := by decide +kernel
theorem kd_Fa_firstNotBefore_7 : decode kc_Fa_firstNotBefore 7 = .ok (.if_icmp .ge 19, 3) := by decide +kernel
theorem kd_Fa_firstNotBefore_10 : decode kc_Fa_firstNotBefore 10 = .ok (.aload_n 0, 1) := by decide +kernel
theorem kd_Fa_firstNotBefore_11 : decode kc_Fa_firstNotBefore 11 = .ok (.getfield 9, 3) := by decide +kernel
theorem kd_Fa_firstNotBefore_14 : decode kc_Fa_firstNotBefore 14 = .ok (.iload_n 2, 1) := by decide +kernel
theorem kd_Fa_firstNotBefore_15 : decode kc_Fa_firstNotBefore 15 = .ok (.iaload, 1) := by decide +kernel
theorem kd_Fa_firstNotBefore_16 : decode kc_Fa_firstNotBefore 16 = .ok (.iload_n 1, 1) := by decide +kernel
theorem kd_Fa_firstNotBefore_17 : decode kc_Fa_firstNotBefore 17 = .ok (.if_icmp .ge 9, 3) := by decide +kernel
theorem kd_Fa_firstNotBefore_20 : decode kc_Fa_firstNotBefore 20 = .ok (.iinc 2 1, 3) := by decide +kernel
theorem kd_Fa_firstNotBefore_23 : decode kc_Fa_firstNotBefore 23 = .ok (.goto (-21), 3) := by decide +kernel
theorem kd_Fa_firstNotBefore_26 : decode kc_Fa_firstNotBefore 26 = .ok (.iload_n 2, 1) := by decide +kernel
theorem kd_Fa_firstNotBefore_27 : decode kc_Fa_firstNotBefore 27 = .ok (.ireturn, 1) := by decide +kernel
theorem kd_Fa_openGap_0 : decode kc_Fa_openGap 0 = .ok (.aload_n 0, 1) := by decide +kernel
theorem kd_Fa_openGap_1 : decode kc_Fa_openGap 1 = .ok (.getfield 30, 3) := by decide +kernel
theorem kd_Fa_openGap_4 : decode kc_Fa_openGap 4 = .ok (.istore_n 2, 1) := by decide +kernel
theorem kd_Fa_openGap_5 : decode kc_Fa_openGap 5 = .ok (.iload_n 2, 1) := by decide +kernel
theorem kd_Fa_openGap_6 : decode kc_Fa_openGap 6 = .ok (.iload_n 1, 1) := by decide +kernel
theorem kd_Fa_openGap_7 : decode kc_Fa_openGap 7 = .ok (.if_icmp .le 51, 3) := by decide +kernel
theorem kd_Fa_openGap_10 : decode kc_Fa_openGap 10 = .ok (.aload_n 0, 1) := by decide +kernel
theorem kd_Fa_openGap_11 : decode kc_Fa_openGap 11 = .ok (.getfield 9, 3) := by decide +kernel
theorem kd_Fa_openGap_14 : decode kc_Fa_openGap 14 = .ok (.iload_n 2, 1) := by decide +kernel
theorem kd_Fa_openGap_15 : decode kc_Fa_openGap 15 = .ok (.aload_n 0, 1) := by decide +kernel
theorem kd_Fa_openGap_16 : decode kc_Fa_openGap 16 = .ok (.getfield 9, 3) := by decide +kernel
theorem kd_Fa_openGap_19 : decode kc_Fa_openGap 19 = .ok (.iload_n 2, 1) := by decide +kernel
theorem kd_Fa_openGap_20 : decode kc_Fa_openGap 20 = .ok (.iconst 1, 1) := by decide +kernel
theorem kd_Fa_openGap_21 : decode kc_Fa_openGap 21 = .ok (.isub, 1) := by decide +kernel
theorem kd_Fa_openGap_22 : decode kc_Fa_openGap 22 = .ok (.iaload, 1) := by decide +kernel
theorem kd_Fa_openGap_23 : decode kc_Fa_openGap 23 = .ok (.iastore, 1) := by decide +kernel
theorem kd_Fa_openGap_24 : decode kc_Fa_openGap 24 = .ok (.aload_n 0, 1) := by decide +kernel
theorem kd_Fa_openGap_25 : decode kc_Fa_openGap 25 = .ok (.getfield 15, 3) := by decide +kernel
theorem kd_Fa_openGap_28 : decode kc_Fa_openGap 28 = .ok (.iload_n 2, 1) := by decide +kernel
theorem kd_Fa_openGap_29 : decode kc_Fa_openGap 29 = .ok (.aload_n 0, 1) := by decide +kernel
theorem kd_Fa_openGap_30 : decode kc_Fa_openGap 30 = .ok (.getfield 15, 3) := by decide +kernel
theorem kd_Fa_openGap_33 : decode kc_Fa_openGap 33 = .ok (.iload_n 2, 1) := by decide +kernel
theorem kd_Fa_openGap_34 : decode kc_Fa_openGap 34 = .ok (.iconst 1, 1) := by decide +kernel
theorem kd_Fa_openGap_35 : decode kc_Fa_openGap 35 = .ok (.isub, 1) := by decide +kernel
theorem kd_Fa_openGap_36 : decode kc_Fa_openGap 36 = .ok (.iaload, 1) := by decide +kernel
theorem kd_Fa_openGap_37 : decode kc_Fa_openGap 37 = .ok (.iastore, 1) := by decide +kernel
theorem kd_Fa_openGap_38 : decode kc_Fa_openGap 38 = .ok (.aload_n 0, 1) := by decide +kernel
theorem kd_Fa_openGap_39 : decode kc_Fa_openGap 39 = .ok (.getfield 18, 3) := by decide +kernel
theorem kd_Fa_openGap_42 : decode kc_Fa_openGap 42 = .ok (.iload_n 2, 1) := by decide +kernel
theorem kd_Fa_openGap_43 : decode kc_Fa_openGap 43 = .ok (.aload_n 0, 1) := by decide +kernel
theorem kd_Fa_openGap_44 : decode kc_Fa_openGap 44 = .ok (.getfield 18, 3) := by decide +kernel
theorem kd_Fa_openGap_47 : decode kc_Fa_openGap 47 = .ok (.iload_n 2, 1) := by decide +kernel
theorem kd_Fa_openGap_48 : decode kc_Fa_openGap 48 = .ok (.iconst 1, 1) := by decide +kernel
theorem kd_Fa_openGap_49 : decode kc_Fa_openGap 49 = .ok (.isub, 1) := by decide +kernel
theorem kd_Fa_openGap_50 : decode kc_Fa_openGap 50 = .ok (.baload, 1) := by decide +kernel
theorem kd_Fa_openGap_51 : decode kc_Fa_openGap 51 = .ok (.bastore, 1) := by decide +kernel
theorem kd_Fa_openGap_52 : decode kc_Fa_openGap 52 = .ok (.iinc 2 (-1), 3) := by decide +kernel
theorem kd_Fa_openGap_55 : decode kc_Fa_openGap 55 = .ok (.goto (-50), 3) := by decide +kernel
theorem kd_Fa_openGap_58 : decode kc_Fa_openGap 58 = .ok (.aload_n 0, 1) := by decide +kernel
theorem kd_Fa_openGap_59 : decode kc_Fa_openGap 59 = .ok (.dup, 1) := by decide +kernel
theorem kd_Fa_openGap_60 : decode kc_Fa_openGap 60 = .ok (.getfield 30, 3) := by decide +kernel
theorem kd_Fa_openGap_63 : decode kc_Fa_openGap 63 = .ok (.iconst 1, 1) := by decide +kernel
theorem kd_Fa_openGap_64 : decode kc_Fa_openGap 64 = .ok (.iadd, 1) := by decide +kernel
theorem kd_Fa_openGap_65 : decode kc_Fa_openGap 65 = .ok (.putfield 30, 3) := by decide +kernel
theorem kd_Fa_openGap_68 : decode kc_Fa_openGap 68 = .ok (.return_, 1) := by decide +kernel
theorem kd_Sh_init_0 : decode kc_Sh_init 0 = .ok (.aload_n 0, 1) := by decide +kernel
theorem kd_Sh_init_1 : decode kc_Sh_init 1 = .ok (.invokespecial 3, 3) := by decide +kernel
theorem kd_Sh_init_4 : decode kc_Sh_init 4 = .ok (.aload_n 0, 1) := by decide +kernel
theorem kd_Sh_init_5 : decode kc_Sh_init 5 = .ok (.bipush 16, 2) := by decide +kernel
theorem kd_Sh_init_7 : decode kc_Sh_init 7 = .ok (.anewarray 9, 3) := by decide +kernel
theorem kd_Sh_init_10 : decode kc_Sh_init 10 = .ok (.putfield 11, 3) := by decide +kernel
theorem kd_Sh_init_13 : decode kc_Sh_init 13 = .ok (.iconst 0, 1) := by decide +kernel
theorem kd_Sh_init_14 : decode kc_Sh_init 14 = .ok (.istore_n 1, 1) := by decide +kernel
theorem kd_Sh_init_15 : decode kc_Sh_init 15 = .ok (.iload_n 1, 1) := by decide +kernel
theorem kd_Sh_init_16 : decode kc_Sh_init 16 = .ok (.bipush 16, 2) := by decide +kernel
theorem kd_Sh_init_18 : decode kc_Sh_init 18 = .ok (.if_icmp .ge 22, 3) := by decide +kernel
theorem kd_Sh_init_21 : decode kc_Sh_init 21 = .ok (.aload_n 0, 1) := by decide +kernel
theorem kd_Sh_init_22 : decode kc_Sh_init 22 = .ok (.getfield 11, 3) := by decide +kernel
theorem kd_Sh_init_25 : decode kc_Sh_init 25 = .ok (.iload_n 1, 1) := by decide +kernel
theorem kd_Sh_init_26 : decode kc_Sh_init 26 = .ok (.new 9, 3) := by decide +kernel
theorem kd_Sh_init_29 : decode kc_Sh_init 29 = .ok (.dup, 1) := by decide +kernel
theorem kd_Sh_init_30 : decode kc_Sh_init 30 = .ok (.invokespecial 17, 3) := by decide +kernel
theorem kd_Sh_init_33 : decode kc_Sh_init 33 = .ok (.aastore, 1) := by decide +kernel
theorem kd_Sh_init_34 : decode kc_Sh_init 34 = .ok (.iinc 1 1, 3) := by decide +kernel
theorem kd_Sh_init_37 : decode kc_Sh_init 37 = .ok (.goto (-22), 3) := by decide +kernel
theorem kd_Sh_init_40 : decode kc_Sh_init 40 = .ok (.return_, 1) := by decide +kernel
theorem kd_Sh_has_0 : decode kc_Sh_has 0 = .ok (.iload_n 1, 1) := by decide +kernel
theorem kd_Sh_has_1 : decode kc_Sh_has 1 = .ok (.iconst 0, 1) := by decide +kernel
theorem kd_Sh_has_2 : decode kc_Sh_has 2 = .ok (.bipush 15, 2) := by decide +kernel
theorem kd_Sh_has_4 : decode kc_Sh_has 4 = .ok (.invokestatic 18, 3) := by decide +kernel
theorem kd_Sh_has_7 : decode kc_Sh_has 7 = .ok (.ifCond .eq 19, 3) := by decide +kernel
theorem kd_Sh_has_10 : decode kc_Sh_has 10 = .ok (.aload_n 0, 1) := by decide +kernel
theorem kd_Sh_has_11 : decode kc_Sh_has 11 = .ok (.getfield 11, 3) := by decide +kernel
theorem kd_Sh_has_14 : decode kc_Sh_has 14 = .ok (.iload_n 1, 1) := by decide +kernel
theorem kd_Sh_has_15 : decode kc_Sh_has 15 = .ok (.aaload, 1) := by decide +kernel
theorem kd_Sh_has_16 : decode kc_Sh_has 16 = .ok (.getfield 22, 3) := by decide +kernel
theorem kd_Sh_has_19 : decode kc_Sh_has 19 = .ok (.ifCond .le 7, 3) := by decide +kernel
theorem kd_Sh_has_22 : decode kc_Sh_has 22 = .ok (.iconst 1, 1) := by decide +kernel
theorem kd_Sh_has_23 : decode kc_Sh_has 23 = .ok (.goto 4, 3) := by decide +kernel
theorem kd_Sh_has_26 : decode kc_Sh_has 26 = .ok (.iconst 0, 1) := by decide +kernel
theorem kd_Sh_has_27 : decode kc_Sh_has 27 = .ok (.ireturn, 1) := by decide +kernel
theorem kd_Sh_leastFree_0 : decode kc_Sh_leastFree 0 = .ok (.iconst 0, 1) := by decide +kernel
theorem kd_Sh_leastFree_1 : decode kc_Sh_leastFree 1 = .ok (.istore_n 1, 1) := by decide +kernel
theorem kd_Sh_leastFree_2 : decode kc_Sh_leastFree 2 = .ok (.iload_n 1, 1) := by decide +kernel
theorem kd_Sh_leastFree_3 : decode kc_Sh_leastFree 3 = .ok (.bipush 16, 2) := by decide +kernel
theorem kd_Sh_leastFree_5 : decode kc_Sh_leastFree 5 = .ok (.if_icmp .ge 23, 3) := by decide +kernel
theorem kd_Sh_leastFree_8 : decode kc_Sh_leastFree 8 = .ok (.aload_n 0, 1) := by decide +kernel
theorem kd_Sh_leastFree_9 : decode kc_Sh_leastFree 9 = .ok (.getfield 11, 3) := by decide +kernel
theorem kd_Sh_leastFree_12 : decode kc_Sh_leastFree 12 = .ok (.iload_n 1, 1) := by decide +kernel
theorem kd_Sh_leastFree_13 : decode kc_Sh_leastFree 13 = .ok (.aaload, 1) := by decide +kernel
theorem kd_Sh_leastFree_14 : decode kc_Sh_leastFree 14 = .ok (.getfield 22, 3) := by decide +kernel
theorem kd_Sh_leastFree_17 : decode kc_Sh_leastFree 17 = .ok (.ifCond .ne 5, 3) := by decide +kernel
theorem kd_Sh_leastFree_20 : decode kc_Sh_leastFree 20 = .ok (.iload_n 1, 1) := by decide +kernel
theorem kd_Sh_leastFree_21 : decode kc_Sh_leastFree 21 = .ok (.ireturn, 1) := by decide +kernel
theorem kd_Sh_leastFree_22 : decode kc_Sh_leastFree 22 = .ok (.iinc 1 1, 3) := by decide +kernel
theorem kd_Sh_leastFree_25 : decode kc_Sh_leastFree 25 = .ok (.goto (-23), 3) := by decide +kernel
theorem kd_Sh_leastFree_28 : decode kc_Sh_leastFree 28 = .ok (.iconst (-1), 1) := by decide +kernel
theorem kd_Sh_leastFree_29 : decode kc_Sh_leastFree 29 = .ok (.ireturn, 1) := by decide +kernel
theorem kd_Sh_overlaps_0 : decode kc_Sh_overlaps 0 = .ok (.iconst 0, 1) := by decide +kernel
theorem kd_Sh_overlaps_1 : decode kc_Sh_overlaps 1 = .ok (.istore 5, 2) := by decide +kernel
theorem kd_Sh_overlaps_3 : decode kc_Sh_overlaps 3 = .ok (.iload 5, 2) := by decide +kernel
theorem kd_Sh_overlaps_5 : decode kc_Sh_overlaps 5 = .ok (.bipush 16, 2) := by decide +kernel
theorem kd_Sh_overlaps_7 : decode kc_Sh_overlaps 7 = .ok (.if_icmp .ge 34, 3) := by decide +kernel
theorem kd_Sh_overlaps_10 : decode kc_Sh_overlaps 10 = .ok (.iload 5, 2) := by decide +kernel
theorem kd_Sh_overlaps_12 : decode kc_Sh_overlaps 12 = .ok (.iload_n 1, 1) := by decide +kernel
theorem kd_Sh_overlaps_13 : decode kc_Sh_overlaps 13 = .ok (.if_icmp .eq 22, 3) := by decide +kernel
theorem kd_Sh_overlaps_16 : decode kc_Sh_overlaps 16 = .ok (.aload_n 0, 1) := by decide +kernel
theorem kd_Sh_overlaps_17 : decode kc_Sh_overlaps 17 = .ok (.getfield 11, 3) := by decide +kernel
theorem kd_Sh_overlaps_20 : decode kc_Sh_overlaps 20 = .ok (.iload 5, 2) := by decide +kernel
theorem kd_Sh_overlaps_22 : decode kc_Sh_overlaps 22 = .ok (.aaload, 1) := by decide +kernel
theorem kd_Sh_overlaps_23 : decode kc_Sh_overlaps 23 = .ok (.iload_n 2, 1) := by decide +kernel
theorem kd_Sh_overlaps_24 : decode kc_Sh_overlaps 24 = .ok (.iload_n 3, 1) := by decide +kernel
theorem kd_Sh_overlaps_25 : decode kc_Sh_overlaps 25 = .ok (.iload 4, 2) := by decide +kernel
theorem kd_Sh_overlaps_27 : decode kc_Sh_overlaps 27 = .ok (.invokevirtual 26, 3) := by decide +kernel
theorem kd_Sh_overlaps_30 : decode kc_Sh_overlaps 30 = .ok (.ifCond .eq 5, 3) := by decide +kernel
theorem kd_Sh_overlaps_33 : decode kc_Sh_overlaps 33 = .ok (.iconst 1, 1) := by decide +kernel
theorem kd_Sh_overlaps_34 : decode kc_Sh_overlaps 34 = .ok (.ireturn, 1) := by decide +kernel
theorem kd_Sh_overlaps_35 : decode kc_Sh_overlaps 35 = .ok (.iinc 5 1, 3) := by decide +kernel
theorem kd_Sh_overlaps_38 : decode kc_Sh_overlaps 38 = .ok (.goto (-35), 3) := by decide +kernel
theorem kd_Sh_overlaps_41 : decode kc_Sh_overlaps 41 = .ok (.iconst 0, 1) := by decide +kernel
theorem kd_Sh_overlaps_42 : decode kc_Sh_overlaps 42 = .ok (.ireturn, 1) := by decide +kernel
theorem kd_Sh_layOut_0 : decode kc_Sh_layOut 0 = .ok (.aload_n 2, 1) := by decide +kernel
theorem kd_Sh_layOut_1 : decode kc_Sh_layOut 1 = .ok (.iconst 0, 1) := by decide +kernel
theorem kd_Sh_layOut_2 : decode kc_Sh_layOut 2 = .ok (.iload_n 3, 1) := by decide +kernel
theorem kd_Sh_layOut_3 : decode kc_Sh_layOut 3 = .ok (.iconst 0, 1) := by decide +kernel
theorem kd_Sh_layOut_4 : decode kc_Sh_layOut 4 = .ok (.invokestatic 29, 3) := by decide +kernel
theorem kd_Sh_layOut_7 : decode kc_Sh_layOut 7 = .ok (.iconst 0, 1) := by decide +kernel
theorem kd_Sh_layOut_8 : decode kc_Sh_layOut 8 = .ok (.istore 4, 2) := by decide +kernel
theorem kd_Sh_layOut_10 : decode kc_Sh_layOut 10 = .ok (.iload 4, 2) := by decide +kernel
theorem kd_Sh_layOut_12 : decode kc_Sh_layOut 12 = .ok (.bipush 16, 2) := by decide +kernel
theorem kd_Sh_layOut_14 : decode kc_Sh_layOut 14 = .ok (.if_icmp .ge 79, 3) := by decide +kernel
theorem kd_Sh_layOut_17 : decode kc_Sh_layOut 17 = .ok (.aload_n 0, 1) := by decide +kernel
theorem kd_Sh_layOut_18 : decode kc_Sh_layOut 18 = .ok (.getfield 11, 3) := by decide +kernel
theorem kd_Sh_layOut_21 : decode kc_Sh_layOut 21 = .ok (.iload 4, 2) := by decide +kernel
theorem kd_Sh_layOut_23 : decode kc_Sh_layOut 23 = .ok (.aaload, 1) := by decide +kernel
theorem kd_Sh_layOut_24 : decode kc_Sh_layOut 24 = .ok (.astore 5, 2) := by decide +kernel
theorem kd_Sh_layOut_26 : decode kc_Sh_layOut 26 = .ok (.aload 5, 2) := by decide +kernel
theorem kd_Sh_layOut_28 : decode kc_Sh_layOut 28 = .ok (.iload_n 1, 1) := by decide +kernel
theorem kd_Sh_layOut_29 : decode kc_Sh_layOut 29 = .ok (.iconst 0, 1) := by decide +kernel
theorem kd_Sh_layOut_30 : decode kc_Sh_layOut 30 = .ok (.iload_n 3, 1) := by decide +kernel
theorem kd_Sh_layOut_31 : decode kc_Sh_layOut 31 = .ok (.invokevirtual 26, 3) := by decide +kernel
theorem kd_Sh_layOut_34 : decode kc_Sh_layOut 34 = .ok (.ifCond .eq 53, 3) := by decide +kernel
theorem kd_Sh_layOut_37 : decode kc_Sh_layOut 37 = .ok (.aload 5, 2) := by decide +kernel
theorem kd_Sh_layOut_39 : decode kc_Sh_layOut 39 = .ok (.getfield 22, 3) := by decide +kernel
theorem kd_Sh_layOut_42 : decode kc_Sh_layOut 42 = .ok (.iload_n 3, 1) := by decide +kernel
theorem kd_Sh_layOut_43 : decode kc_Sh_layOut 43 = .ok (.aload 5, 2) := by decide +kernel
theorem kd_Sh_layOut_45 : decode kc_Sh_layOut 45 = .ok (.getfield 35, 3) := by decide +kernel
theorem kd_Sh_layOut_48 : decode kc_Sh_layOut 48 = .ok (.isub, 1) := by decide +kernel
theorem kd_Sh_layOut_49 : decode kc_Sh_layOut 49 = .ok (.invokestatic 38, 3) := by decide +kernel
theorem kd_Sh_layOut_52 : decode kc_Sh_layOut 52 = .ok (.istore 6, 2) := by decide +kernel
theorem kd_Sh_layOut_54 : decode kc_Sh_layOut 54 = .ok (.iconst 0, 1) := by decide +kernel
theorem kd_Sh_layOut_55 : decode kc_Sh_layOut 55 = .ok (.istore 7, 2) := by decide +kernel
theorem kd_Sh_layOut_57 : decode kc_Sh_layOut 57 = .ok (.iload 7, 2) := by decide +kernel
theorem kd_Sh_layOut_59 : decode kc_Sh_layOut 59 = .ok (.iload 6, 2) := by decide +kernel
theorem kd_Sh_layOut_61 : decode kc_Sh_layOut 61 = .ok (.if_icmp .ge 26, 3) := by decide +kernel
theorem kd_Sh_layOut_64 : decode kc_Sh_layOut 64 = .ok (.aload_n 2, 1) := by decide +kernel
theorem kd_Sh_layOut_65 : decode kc_Sh_layOut 65 = .ok (.aload 5, 2) := by decide +kernel
theorem kd_Sh_layOut_67 : decode kc_Sh_layOut 67 = .ok (.getfield 35, 3) := by decide +kernel
theorem kd_Sh_layOut_70 : decode kc_Sh_layOut 70 = .ok (.iload 7, 2) := by decide +kernel
theorem kd_Sh_layOut_72 : decode kc_Sh_layOut 72 = .ok (.iadd, 1) := by decide +kernel
theorem kd_Sh_layOut_73 : decode kc_Sh_layOut 73 = .ok (.aload 5, 2) := by decide +kernel
theorem kd_Sh_layOut_75 : decode kc_Sh_layOut 75 = .ok (.iload 7, 2) := by decide +kernel
theorem kd_Sh_layOut_77 : decode kc_Sh_layOut 77 = .ok (.invokevirtual 44, 3) := by decide +kernel
theorem kd_Sh_layOut_80 : decode kc_Sh_layOut 80 = .ok (.iastore, 1) := by decide +kernel
theorem kd_Sh_layOut_81 : decode kc_Sh_layOut 81 = .ok (.iinc 7 1, 3) := by decide +kernel
theorem kd_Sh_layOut_84 : decode kc_Sh_layOut 84 = .ok (.goto (-27), 3) := by decide +kernel
theorem kd_Sh_layOut_87 : decode kc_Sh_layOut 87 = .ok (.iinc 4 1, 3) := by decide +kernel
theorem kd_Sh_layOut_90 : decode kc_Sh_layOut 90 = .ok (.goto (-80), 3) := by decide +kernel
theorem kd_Sh_layOut_93 : decode kc_Sh_layOut 93 = .ok (.return_, 1) := by decide +kernel
theorem kd_St_init_0 : decode kc_St_init 0 = .ok (.aload_n 0, 1) := by decide +kernel
theorem kd_St_init_1 : decode kc_St_init 1 = .ok (.invokespecial 3, 3) := by decide +kernel
theorem kd_St_init_4 : decode kc_St_init 4 = .ok (.aload_n 0, 1) := by decide +kernel
theorem kd_St_init_5 : decode kc_St_init 5 = .ok (.iconst 3, 1) := by decide +kernel
theorem kd_St_init_6 : decode kc_St_init 6 = .ok (.anewarray 9, 3) := by decide +kernel
theorem kd_St_init_9 : decode kc_St_init 9 = .ok (.putfield 11, 3) := by decide +kernel
theorem kd_St_init_12 : decode kc_St_init 12 = .ok (.aload_n 0, 1) := by decide +kernel
theorem kd_St_init_13 : decode kc_St_init 13 = .ok (.new 17, 3) := by decide +kernel
theorem kd_St_init_16 : decode kc_St_init 16 = .ok (.dup, 1) := by decide +kernel
theorem kd_St_init_17 : decode kc_St_init 17 = .ok (.invokespecial 19, 3) := by decide +kernel
theorem kd_St_init_20 : decode kc_St_init 20 = .ok (.putfield 20, 3) := by decide +kernel
theorem kd_St_init_23 : decode kc_St_init 23 = .ok (.aload_n 0, 1) := by decide +kernel
theorem kd_St_init_24 : decode kc_St_init 24 = .ok (.bipush 8, 2) := by decide +kernel
theorem kd_St_init_26 : decode kc_St_init 26 = .ok (.newarray .int, 2) := by decide +kernel
theorem kd_St_init_28 : decode kc_St_init 28 = .ok (.putfield 24, 3) := by decide +kernel
theorem kd_St_init_31 : decode kc_St_init 31 = .ok (.aload_n 0, 1) := by decide +kernel
theorem kd_St_init_32 : decode kc_St_init 32 = .ok (.sipush 1024, 3) := by decide +kernel
theorem kd_St_init_35 : decode kc_St_init 35 = .ok (.newarray .int, 2) := by decide +kernel
theorem kd_St_init_37 : decode kc_St_init 37 = .ok (.putfield 28, 3) := by decide +kernel
theorem kd_St_init_40 : decode kc_St_init 40 = .ok (.aload_n 0, 1) := by decide +kernel
theorem kd_St_init_41 : decode kc_St_init 41 = .ok (.iload_n 1, 1) := by decide +kernel
theorem kd_St_init_42 : decode kc_St_init 42 = .ok (.putfield 31, 3) := by decide +kernel
theorem kd_St_init_45 : decode kc_St_init 45 = .ok (.iconst 0, 1) := by decide +kernel
theorem kd_St_init_46 : decode kc_St_init 46 = .ok (.istore_n 2, 1) := by decide +kernel
theorem kd_St_init_47 : decode kc_St_init 47 = .ok (.iload_n 2, 1) := by decide +kernel
theorem kd_St_init_48 : decode kc_St_init 48 = .ok (.iconst 3, 1) := by decide +kernel
theorem kd_St_init_49 : decode kc_St_init 49 = .ok (.if_icmp .ge 22, 3) := by decide +kernel
theorem kd_St_init_52 : decode kc_St_init 52 = .ok (.aload_n 0, 1) := by decide +kernel
theorem kd_St_init_53 : decode kc_St_init 53 = .ok (.getfield 11, 3) := by decide +kernel
theorem kd_St_init_56 : decode kc_St_init 56 = .ok (.iload_n 2, 1) := by decide +kernel
theorem kd_St_init_57 : decode kc_St_init 57 = .ok (.new 9, 3) := by decide +kernel
theorem kd_St_init_60 : decode kc_St_init 60 = .ok (.dup, 1) := by decide +kernel
theorem kd_St_init_61 : decode kc_St_init 61 = .ok (.invokespecial 35, 3) := by decide +kernel
theorem kd_St_init_64 : decode kc_St_init 64 = .ok (.aastore, 1) := by decide +kernel
theorem kd_St_init_65 : decode kc_St_init 65 = .ok (.iinc 2 1, 3) := by decide +kernel
theorem kd_St_init_68 : decode kc_St_init 68 = .ok (.goto (-21), 3) := by decide +kernel
theorem kd_St_init_71 : decode kc_St_init 71 = .ok (.return_, 1) := by decide +kernel
theorem kd_St_feeds_0 : decode kc_St_feeds 0 = .ok (.aload_n 0, 1) := by decide +kernel
theorem kd_St_feeds_1 : decode kc_St_feeds 1 = .ok (.getfield 31, 3) := by decide +kernel
theorem kd_St_feeds_4 : decode kc_St_feeds 4 = .ok (.iload_n 1, 1) := by decide +kernel
theorem kd_St_feeds_5 : decode kc_St_feeds 5 = .ok (.if_icmp .eq 12, 3) := by decide +kernel
theorem kd_St_feeds_8 : decode kc_St_feeds 8 = .ok (.aload_n 0, 1) := by decide +kernel
theorem kd_St_feeds_9 : decode kc_St_feeds 9 = .ok (.getfield 24, 3) := by decide +kernel
theorem kd_St_feeds_12 : decode kc_St_feeds 12 = .ok (.iload_n 1, 1) := by decide +kernel
theorem kd_St_feeds_13 : decode kc_St_feeds 13 = .ok (.iaload, 1) := by decide +kernel
theorem kd_St_feeds_14 : decode kc_St_feeds 14 = .ok (.ifCond .le 7, 3) := by decide +kernel
theorem kd_St_feeds_17 : decode kc_St_feeds 17 = .ok (.iconst 1, 1) := by decide +kernel
theorem kd_St_feeds_18 : decode kc_St_feeds 18 = .ok (.goto 4, 3) := by decide +kernel
theorem kd_St_feeds_21 : decode kc_St_feeds 21 = .ok (.iconst 0, 1) := by decide +kernel
theorem kd_St_feeds_22 : decode kc_St_feeds 22 = .ok (.ireturn, 1) := by decide +kernel
theorem kd_St_changeMute_0 : decode kc_St_changeMute 0 = .ok (.aload_n 0, 1) := by decide +kernel
theorem kd_St_changeMute_1 : decode kc_St_changeMute 1 = .ok (.getfield 36, 3) := by decide +kernel
theorem kd_St_changeMute_4 : decode kc_St_changeMute 4 = .ok (.iload_n 1, 1) := by decide +kernel
theorem kd_St_changeMute_5 : decode kc_St_changeMute 5 = .ok (.if_icmp .eq 7, 3) := by decide +kernel
theorem kd_St_changeMute_8 : decode kc_St_changeMute 8 = .ok (.iconst 1, 1) := by decide +kernel
theorem kd_St_changeMute_9 : decode kc_St_changeMute 9 = .ok (.goto 4, 3) := by decide +kernel
theorem kd_St_changeMute_12 : decode kc_St_changeMute 12 = .ok (.iconst 0, 1) := by decide +kernel
theorem kd_St_changeMute_13 : decode kc_St_changeMute 13 = .ok (.istore_n 2, 1) := by decide +kernel
theorem kd_St_changeMute_14 : decode kc_St_changeMute 14 = .ok (.aload_n 0, 1) := by decide +kernel
theorem kd_St_changeMute_15 : decode kc_St_changeMute 15 = .ok (.iload_n 1, 1) := by decide +kernel
theorem kd_St_changeMute_16 : decode kc_St_changeMute 16 = .ok (.putfield 36, 3) := by decide +kernel
theorem kd_St_changeMute_19 : decode kc_St_changeMute 19 = .ok (.iload_n 2, 1) := by decide +kernel
theorem kd_St_changeMute_20 : decode kc_St_changeMute 20 = .ok (.ireturn, 1) := by decide +kernel
theorem kd_St_changeSolo_0 : decode kc_St_changeSolo 0 = .ok (.aload_n 0, 1) := by decide +kernel
theorem kd_St_changeSolo_1 : decode kc_St_changeSolo 1 = .ok (.getfield 40, 3) := by decide +kernel
theorem kd_St_changeSolo_4 : decode kc_St_changeSolo 4 = .ok (.iload_n 1, 1) := by decide +kernel
theorem kd_St_changeSolo_5 : decode kc_St_changeSolo 5 = .ok (.if_icmp .eq 7, 3) := by decide +kernel
theorem kd_St_changeSolo_8 : decode kc_St_changeSolo 8 = .ok (.iconst 1, 1) := by decide +kernel
theorem kd_St_changeSolo_9 : decode kc_St_changeSolo 9 = .ok (.goto 4, 3) := by decide +kernel
theorem kd_St_changeSolo_12 : decode kc_St_changeSolo 12 = .ok (.iconst 0, 1) := by decide +kernel
theorem kd_St_changeSolo_13 : decode kc_St_changeSolo 13 = .ok (.istore_n 2, 1) := by decide +kernel
theorem kd_St_changeSolo_14 : decode kc_St_changeSolo 14 = .ok (.aload_n 0, 1) := by decide +kernel
theorem kd_St_changeSolo_15 : decode kc_St_changeSolo 15 = .ok (.iload_n 1, 1) := by decide +kernel
theorem kd_St_changeSolo_16 : decode kc_St_changeSolo 16 = .ok (.putfield 40, 3) := by decide +kernel
theorem kd_St_changeSolo_19 : decode kc_St_changeSolo 19 = .ok (.iload_n 2, 1) := by decide +kernel
theorem kd_St_changeSolo_20 : decode kc_St_changeSolo 20 = .ok (.ireturn, 1) := by decide +kernel
theorem kd_St_delayFrom_0 : decode kc_St_delayFrom 0 = .ok (.aload_n 0, 1) := by decide +kernel
theorem kd_St_delayFrom_1 : decode kc_St_delayFrom 1 = .ok (.iload_n 1, 1) := by decide +kernel
theorem kd_St_delayFrom_2 : decode kc_St_delayFrom 2 = .ok (.putfield 43, 3) := by decide +kernel
theorem kd_St_delayFrom_5 : decode kc_St_delayFrom 5 = .ok (.aload_n 0, 1) := by decide +kernel
theorem kd_St_delayFrom_6 : decode kc_St_delayFrom 6 = .ok (.iload_n 1, 1) := by decide +kernel
theorem kd_St_delayFrom_7 : decode kc_St_delayFrom 7 = .ok (.putfield 46, 3) := by decide +kernel
theorem kd_St_delayFrom_10 : decode kc_St_delayFrom 10 = .ok (.iconst 0, 1) := by decide +kernel
theorem kd_St_delayFrom_11 : decode kc_St_delayFrom 11 = .ok (.istore_n 2, 1) := by decide +kernel
theorem kd_St_delayFrom_12 : decode kc_St_delayFrom 12 = .ok (.iload_n 2, 1) := by decide +kernel
theorem kd_St_delayFrom_13 : decode kc_St_delayFrom 13 = .ok (.iconst 3, 1) := by decide +kernel
theorem kd_St_delayFrom_14 : decode kc_St_delayFrom 14 = .ok (.if_icmp .ge 27, 3) := by decide +kernel
theorem kd_St_delayFrom_17 : decode kc_St_delayFrom 17 = .ok (.aload_n 0, 1) := by decide +kernel
theorem kd_St_delayFrom_18 : decode kc_St_delayFrom 18 = .ok (.dup, 1) := by decide +kernel
theorem kd_St_delayFrom_19 : decode kc_St_delayFrom 19 = .ok (.getfield 46, 3) := by decide +kernel
theorem kd_St_delayFrom_22 : decode kc_St_delayFrom 22 = .ok (.aload_n 0, 1) := by decide +kernel
theorem kd_St_delayFrom_23 : decode kc_St_delayFrom 23 = .ok (.getfield 11, 3) := by decide +kernel
theorem kd_St_delayFrom_26 : decode kc_St_delayFrom 26 = .ok (.iload_n 2, 1) := by decide +kernel
theorem kd_St_delayFrom_27 : decode kc_St_delayFrom 27 = .ok (.aaload, 1) := by decide +kernel
theorem kd_St_delayFrom_28 : decode kc_St_delayFrom 28 = .ok (.invokevirtual 49, 3) := by decide +kernel
theorem kd_St_delayFrom_31 : decode kc_St_delayFrom 31 = .ok (.iadd, 1) := by decide +kernel
theorem kd_St_delayFrom_32 : decode kc_St_delayFrom 32 = .ok (.putfield 46, 3) := by decide +kernel
theorem kd_St_delayFrom_35 : decode kc_St_delayFrom 35 = .ok (.iinc 2 1, 3) := by decide +kernel
theorem kd_St_delayFrom_38 : decode kc_St_delayFrom 38 = .ok (.goto (-26), 3) := by decide +kernel
theorem kd_St_delayFrom_41 : decode kc_St_delayFrom 41 = .ok (.return_, 1) := by decide +kernel
theorem kd_St_addTo_0 : decode kc_St_addTo 0 = .ok (.iload_n 3, 1) := by decide +kernel
theorem kd_St_addTo_1 : decode kc_St_addTo 1 = .ok (.istore 5, 2) := by decide +kernel
theorem kd_St_addTo_3 : decode kc_St_addTo 3 = .ok (.iload 5, 2) := by decide +kernel
theorem kd_St_addTo_5 : decode kc_St_addTo 5 = .ok (.iload 4, 2) := by decide +kernel
theorem kd_St_addTo_7 : decode kc_St_addTo 7 = .ok (.if_icmp .ge 29, 3) := by decide +kernel
theorem kd_St_addTo_10 : decode kc_St_addTo 10 = .ok (.aload_n 1, 1) := by decide +kernel
theorem kd_St_addTo_11 : decode kc_St_addTo 11 = .ok (.iload 5, 2) := by decide +kernel
theorem kd_St_addTo_13 : decode kc_St_addTo 13 = .ok (.dup2, 1) := by decide +kernel
theorem kd_St_addTo_14 : decode kc_St_addTo 14 = .ok (.iaload, 1) := by decide +kernel
theorem kd_St_addTo_15 : decode kc_St_addTo 15 = .ok (.aload_n 0, 1) := by decide +kernel
theorem kd_St_addTo_16 : decode kc_St_addTo 16 = .ok (.getfield 28, 3) := by decide +kernel
theorem kd_St_addTo_19 : decode kc_St_addTo 19 = .ok (.iload 5, 2) := by decide +kernel
theorem kd_St_addTo_21 : decode kc_St_addTo 21 = .ok (.iload_n 3, 1) := by decide +kernel
theorem kd_St_addTo_22 : decode kc_St_addTo 22 = .ok (.isub, 1) := by decide +kernel
theorem kd_St_addTo_23 : decode kc_St_addTo 23 = .ok (.iaload, 1) := by decide +kernel
theorem kd_St_addTo_24 : decode kc_St_addTo 24 = .ok (.iload_n 2, 1) := by decide +kernel
theorem kd_St_addTo_25 : decode kc_St_addTo 25 = .ok (.invokestatic 53, 3) := by decide +kernel
theorem kd_St_addTo_28 : decode kc_St_addTo 28 = .ok (.iadd, 1) := by decide +kernel
theorem kd_St_addTo_29 : decode kc_St_addTo 29 = .ok (.iastore, 1) := by decide +kernel
theorem kd_St_addTo_30 : decode kc_St_addTo 30 = .ok (.iinc 5 1, 3) := by decide +kernel
theorem kd_St_addTo_33 : decode kc_St_addTo 33 = .ok (.goto (-30), 3) := by decide +kernel
theorem kd_St_addTo_36 : decode kc_St_addTo 36 = .ok (.return_, 1) := by decide +kernel
theorem kd_St_process_0 : decode kc_St_process 0 = .ok (.iconst 0, 1) := by decide +kernel
theorem kd_St_process_1 : decode kc_St_process 1 = .ok (.istore_n 3, 1) := by decide +kernel
theorem kd_St_process_2 : decode kc_St_process 2 = .ok (.iload_n 3, 1) := by decide +kernel
theorem kd_St_process_3 : decode kc_St_process 3 = .ok (.iconst 3, 1) := by decide +kernel
theorem kd_St_process_4 : decode kc_St_process 4 = .ok (.if_icmp .ge 18, 3) := by decide +kernel
theorem kd_St_process_7 : decode kc_St_process 7 = .ok (.aload_n 0, 1) := by decide +kernel
theorem kd_St_process_8 : decode kc_St_process 8 = .ok (.getfield 11, 3) := by decide +kernel
theorem kd_St_process_11 : decode kc_St_process 11 = .ok (.iload_n 3, 1) := by decide +kernel
theorem kd_St_process_12 : decode kc_St_process 12 = .ok (.aaload, 1) := by decide +kernel
theorem kd_St_process_13 : decode kc_St_process 13 = .ok (.invokevirtual 57, 3) := by decide +kernel
theorem kd_St_process_16 : decode kc_St_process 16 = .ok (.iinc 3 1, 3) := by decide +kernel
theorem kd_St_process_19 : decode kc_St_process 19 = .ok (.goto (-17), 3) := by decide +kernel
theorem kd_St_process_22 : decode kc_St_process 22 = .ok (.iconst 0, 1) := by decide +kernel
theorem kd_St_process_23 : decode kc_St_process 23 = .ok (.istore_n 3, 1) := by decide +kernel
theorem kd_St_process_24 : decode kc_St_process 24 = .ok (.iconst 0, 1) := by decide +kernel
theorem kd_St_process_25 : decode kc_St_process 25 = .ok (.istore 4, 2) := by decide +kernel
theorem kd_St_process_27 : decode kc_St_process 27 = .ok (.iload 4, 2) := by decide +kernel
theorem kd_St_process_29 : decode kc_St_process 29 = .ok (.iload_n 1, 1) := by decide +kernel
theorem kd_St_process_30 : decode kc_St_process 30 = .ok (.if_icmp .ge 92, 3) := by decide +kernel
theorem kd_St_process_33 : decode kc_St_process 33 = .ok (.iload 4, 2) := by decide +kernel
theorem kd_St_process_35 : decode kc_St_process 35 = .ok (.bipush 16, 2) := by decide +kernel
theorem kd_St_process_37 : decode kc_St_process 37 = .ok (.irem, 1) := by decide +kernel
theorem kd_St_process_38 : decode kc_St_process 38 = .ok (.ifCond .ne 13, 3) := by decide +kernel
theorem kd_St_process_41 : decode kc_St_process 41 = .ok (.aload_n 0, 1) := by decide +kernel
theorem kd_St_process_42 : decode kc_St_process 42 = .ok (.getfield 20, 3) := by decide +kernel
theorem kd_St_process_45 : decode kc_St_process 45 = .ok (.iload 4, 2) := by decide +kernel
theorem kd_St_process_47 : decode kc_St_process 47 = .ok (.invokevirtual 60, 3) := by decide +kernel
theorem kd_St_process_50 : decode kc_St_process 50 = .ok (.istore_n 3, 1) := by decide +kernel
theorem kd_St_process_51 : decode kc_St_process 51 = .ok (.aload_n 0, 1) := by decide +kernel
theorem kd_St_process_52 : decode kc_St_process 52 = .ok (.getfield 28, 3) := by decide +kernel
theorem kd_St_process_55 : decode kc_St_process 55 = .ok (.iload 4, 2) := by decide +kernel
theorem kd_St_process_57 : decode kc_St_process 57 = .ok (.iaload, 1) := by decide +kernel
theorem kd_St_process_58 : decode kc_St_process 58 = .ok (.invokestatic 64, 3) := by decide +kernel
theorem kd_St_process_61 : decode kc_St_process 61 = .ok (.istore 5, 2) := by decide +kernel
theorem kd_St_process_63 : decode kc_St_process 63 = .ok (.iconst 0, 1) := by decide +kernel
theorem kd_St_process_64 : decode kc_St_process 64 = .ok (.istore 6, 2) := by decide +kernel
theorem kd_St_process_66 : decode kc_St_process 66 = .ok (.iload 6, 2) := by decide +kernel
theorem kd_St_process_68 : decode kc_St_process 68 = .ok (.iconst 3, 1) := by decide +kernel
theorem kd_St_process_69 : decode kc_St_process 69 = .ok (.if_icmp .ge 23, 3) := by decide +kernel
theorem kd_St_process_72 : decode kc_St_process 72 = .ok (.aload_n 0, 1) := by decide +kernel
theorem kd_St_process_73 : decode kc_St_process 73 = .ok (.getfield 11, 3) := by decide +kernel
theorem kd_St_process_76 : decode kc_St_process 76 = .ok (.iload 6, 2) := by decide +kernel
theorem kd_St_process_78 : decode kc_St_process 78 = .ok (.aaload, 1) := by decide +kernel
theorem kd_St_process_79 : decode kc_St_process 79 = .ok (.iload 5, 2) := by decide +kernel
theorem kd_St_process_81 : decode kc_St_process 81 = .ok (.invokevirtual 67, 3) := by decide +kernel
theorem kd_St_process_84 : decode kc_St_process 84 = .ok (.istore 5, 2) := by decide +kernel
theorem kd_St_process_86 : decode kc_St_process 86 = .ok (.iinc 6 1, 3) := by decide +kernel
theorem kd_St_process_89 : decode kc_St_process 89 = .ok (.goto (-23), 3) := by decide +kernel
theorem kd_St_process_92 : decode kc_St_process 92 = .ok (.aload_n 0, 1) := by decide +kernel
theorem kd_St_process_93 : decode kc_St_process 93 = .ok (.getfield 28, 3) := by decide +kernel
theorem kd_St_process_96 : decode kc_St_process 96 = .ok (.iload 4, 2) := by decide +kernel
theorem kd_St_process_98 : decode kc_St_process 98 = .ok (.iload_n 2, 1) := by decide +kernel
theorem kd_St_process_99 : decode kc_St_process 99 = .ok (.ifCond .eq 15, 3) := by decide +kernel
theorem kd_St_process_102 : decode kc_St_process 102 = .ok (.iload 5, 2) := by decide +kernel
theorem kd_St_process_104 : decode kc_St_process 104 = .ok (.iload_n 3, 1) := by decide +kernel
theorem kd_St_process_105 : decode kc_St_process 105 = .ok (.invokestatic 53, 3) := by decide +kernel
theorem kd_St_process_108 : decode kc_St_process 108 = .ok (.invokestatic 64, 3) := by decide +kernel
theorem kd_St_process_111 : decode kc_St_process 111 = .ok (.goto 4, 3) := by decide +kernel
theorem kd_St_process_114 : decode kc_St_process 114 = .ok (.iconst 0, 1) := by decide +kernel
theorem kd_St_process_115 : decode kc_St_process 115 = .ok (.iastore, 1) := by decide +kernel
theorem kd_St_process_116 : decode kc_St_process 116 = .ok (.iinc 4 1, 3) := by decide +kernel
theorem kd_St_process_119 : decode kc_St_process 119 = .ok (.goto (-92), 3) := by decide +kernel
theorem kd_St_process_122 : decode kc_St_process 122 = .ok (.return_, 1) := by decide +kernel
theorem kd_St_peak_0 : decode kc_St_peak 0 = .ok (.iconst 0, 1) := by decide +kernel
theorem kd_St_peak_1 : decode kc_St_peak 1 = .ok (.istore_n 3, 1) := by decide +kernel
theorem kd_St_peak_2 : decode kc_St_peak 2 = .ok (.iconst 0, 1) := by decide +kernel
theorem kd_St_peak_3 : decode kc_St_peak 3 = .ok (.istore 4, 2) := by decide +kernel
theorem kd_St_peak_5 : decode kc_St_peak 5 = .ok (.iload 4, 2) := by decide +kernel
theorem kd_St_peak_7 : decode kc_St_peak 7 = .ok (.iload_n 2, 1) := by decide +kernel
theorem kd_St_peak_8 : decode kc_St_peak 8 = .ok (.if_icmp .ge 26, 3) := by decide +kernel
theorem kd_St_peak_11 : decode kc_St_peak 11 = .ok (.iload_n 3, 1) := by decide +kernel
theorem kd_St_peak_12 : decode kc_St_peak 12 = .ok (.aload_n 0, 1) := by decide +kernel
theorem kd_St_peak_13 : decode kc_St_peak 13 = .ok (.getfield 28, 3) := by decide +kernel
theorem kd_St_peak_16 : decode kc_St_peak 16 = .ok (.iload_n 1, 1) := by decide +kernel
theorem kd_St_peak_17 : decode kc_St_peak 17 = .ok (.iload 4, 2) := by decide +kernel
theorem kd_St_peak_19 : decode kc_St_peak 19 = .ok (.iadd, 1) := by decide +kernel
theorem kd_St_peak_20 : decode kc_St_peak 20 = .ok (.iaload, 1) := by decide +kernel
theorem kd_St_peak_21 : decode kc_St_peak 21 = .ok (.invokestatic 70, 3) := by decide +kernel
theorem kd_St_peak_24 : decode kc_St_peak 24 = .ok (.invokestatic 75, 3) := by decide +kernel
theorem kd_St_peak_27 : decode kc_St_peak 27 = .ok (.istore_n 3, 1) := by decide +kernel
theorem kd_St_peak_28 : decode kc_St_peak 28 = .ok (.iinc 4 1, 3) := by decide +kernel
theorem kd_St_peak_31 : decode kc_St_peak 31 = .ok (.goto (-26), 3) := by decide +kernel
theorem kd_St_peak_34 : decode kc_St_peak 34 = .ok (.iload_n 3, 1) := by decide +kernel
theorem kd_St_peak_35 : decode kc_St_peak 35 = .ok (.ireturn, 1) := by decide +kernel
theorem kd_St_power_0 : decode kc_St_power 0 = .ok (.lconst 0, 1) := by decide +kernel
theorem kd_St_power_1 : decode kc_St_power 1 = .ok (.lstore_n 3, 1) := by decide +kernel
theorem kd_St_power_2 : decode kc_St_power 2 = .ok (.iconst 0, 1) := by decide +kernel
theorem kd_St_power_3 : decode kc_St_power 3 = .ok (.istore 5, 2) := by decide +kernel
theorem kd_St_power_5 : decode kc_St_power 5 = .ok (.iload 5, 2) := by decide +kernel
theorem kd_St_power_7 : decode kc_St_power 7 = .ok (.iload_n 2, 1) := by decide +kernel
theorem kd_St_power_8 : decode kc_St_power 8 = .ok (.if_icmp .ge 33, 3) := by decide +kernel
theorem kd_St_power_11 : decode kc_St_power 11 = .ok (.lload_n 3, 1) := by decide +kernel
theorem kd_St_power_12 : decode kc_St_power 12 = .ok (.aload_n 0, 1) := by decide +kernel
theorem kd_St_power_13 : decode kc_St_power 13 = .ok (.getfield 28, 3) := by decide +kernel
theorem kd_St_power_16 : decode kc_St_power 16 = .ok (.iload_n 1, 1) := by decide +kernel
theorem kd_St_power_17 : decode kc_St_power 17 = .ok (.iload 5, 2) := by decide +kernel
theorem kd_St_power_19 : decode kc_St_power 19 = .ok (.iadd, 1) := by decide +kernel
theorem kd_St_power_20 : decode kc_St_power 20 = .ok (.iaload, 1) := by decide +kernel
theorem kd_St_power_21 : decode kc_St_power 21 = .ok (.i2l, 1) := by decide +kernel
theorem kd_St_power_22 : decode kc_St_power 22 = .ok (.aload_n 0, 1) := by decide +kernel
theorem kd_St_power_23 : decode kc_St_power 23 = .ok (.getfield 28, 3) := by decide +kernel
theorem kd_St_power_26 : decode kc_St_power 26 = .ok (.iload_n 1, 1) := by decide +kernel
theorem kd_St_power_27 : decode kc_St_power 27 = .ok (.iload 5, 2) := by decide +kernel
theorem kd_St_power_29 : decode kc_St_power 29 = .ok (.iadd, 1) := by decide +kernel
theorem kd_St_power_30 : decode kc_St_power 30 = .ok (.iaload, 1) := by decide +kernel
theorem kd_St_power_31 : decode kc_St_power 31 = .ok (.i2l, 1) := by decide +kernel
theorem kd_St_power_32 : decode kc_St_power 32 = .ok (.lmul, 1) := by decide +kernel
theorem kd_St_power_33 : decode kc_St_power 33 = .ok (.ladd, 1) := by decide +kernel
theorem kd_St_power_34 : decode kc_St_power 34 = .ok (.lstore_n 3, 1) := by decide +kernel
theorem kd_St_power_35 : decode kc_St_power 35 = .ok (.iinc 5 1, 3) := by decide +kernel
theorem kd_St_power_38 : decode kc_St_power 38 = .ok (.goto (-33), 3) := by decide +kernel
theorem kd_St_power_41 : decode kc_St_power 41 = .ok (.lload_n 3, 1) := by decide +kernel
theorem kd_St_power_42 : decode kc_St_power 42 = .ok (.lreturn, 1) := by decide +kernel
theorem kd_St_overs_0 : decode kc_St_overs 0 = .ok (.iconst 0, 1) := by decide +kernel
theorem kd_St_overs_1 : decode kc_St_overs 1 = .ok (.istore_n 3, 1) := by decide +kernel
theorem kd_St_overs_2 : decode kc_St_overs 2 = .ok (.iconst 0, 1) := by decide +kernel
theorem kd_St_overs_3 : decode kc_St_overs 3 = .ok (.istore 4, 2) := by decide +kernel
theorem kd_St_overs_5 : decode kc_St_overs 5 = .ok (.iload 4, 2) := by decide +kernel
theorem kd_St_overs_7 : decode kc_St_overs 7 = .ok (.iload_n 2, 1) := by decide +kernel
theorem kd_St_overs_8 : decode kc_St_overs 8 = .ok (.if_icmp .ge 33, 3) := by decide +kernel
theorem kd_St_overs_11 : decode kc_St_overs 11 = .ok (.aload_n 0, 1) := by decide +kernel
theorem kd_St_overs_12 : decode kc_St_overs 12 = .ok (.getfield 28, 3) := by decide +kernel
theorem kd_St_overs_15 : decode kc_St_overs 15 = .ok (.iload_n 1, 1) := by decide +kernel
theorem kd_St_overs_16 : decode kc_St_overs 16 = .ok (.iload 4, 2) := by decide +kernel
theorem kd_St_overs_18 : decode kc_St_overs 18 = .ok (.iadd, 1) := by decide +kernel
theorem kd_St_overs_19 : decode kc_St_overs 19 = .ok (.iaload, 1) := by decide +kernel
theorem kd_St_overs_20 : decode kc_St_overs 20 = .ok (.sipush (-32768), 3) := by decide +kernel
theorem kd_St_overs_23 : decode kc_St_overs 23 = .ok (.sipush 32767, 3) := by decide +kernel
theorem kd_St_overs_26 : decode kc_St_overs 26 = .ok (.invokestatic 78, 3) := by decide +kernel
theorem kd_St_overs_29 : decode kc_St_overs 29 = .ok (.ifCond .ne 6, 3) := by decide +kernel
theorem kd_St_overs_32 : decode kc_St_overs 32 = .ok (.iinc 3 1, 3) := by decide +kernel
theorem kd_St_overs_35 : decode kc_St_overs 35 = .ok (.iinc 4 1, 3) := by decide +kernel
theorem kd_St_overs_38 : decode kc_St_overs 38 = .ok (.goto (-33), 3) := by decide +kernel
theorem kd_St_overs_41 : decode kc_St_overs 41 = .ok (.iload_n 3, 1) := by decide +kernel
theorem kd_St_overs_42 : decode kc_St_overs 42 = .ok (.ireturn, 1) := by decide +kernel
theorem kd_Ta_init_0 : decode kc_Ta_init 0 = .ok (.aload_n 0, 1) := by decide +kernel
theorem kd_Ta_init_1 : decode kc_Ta_init 1 = .ok (.invokespecial 3, 3) := by decide +kernel
theorem kd_Ta_init_4 : decode kc_Ta_init 4 = .ok (.aload_n 0, 1) := by decide +kernel
theorem kd_Ta_init_5 : decode kc_Ta_init 5 = .ok (.bipush 64, 2) := by decide +kernel
theorem kd_Ta_init_7 : decode kc_Ta_init 7 = .ok (.newarray .int, 2) := by decide +kernel
theorem kd_Ta_init_9 : decode kc_Ta_init 9 = .ok (.putfield 9, 3) := by decide +kernel
theorem kd_Ta_init_12 : decode kc_Ta_init 12 = .ok (.return_, 1) := by decide +kernel
theorem kd_Ta_isOpen_0 : decode kc_Ta_isOpen 0 = .ok (.aload_n 0, 1) := by decide +kernel
theorem kd_Ta_isOpen_1 : decode kc_Ta_isOpen 1 = .ok (.getfield 15, 3) := by decide +kernel
theorem kd_Ta_isOpen_4 : decode kc_Ta_isOpen 4 = .ok (.ifCond .ne 7, 3) := by decide +kernel
theorem kd_Ta_isOpen_7 : decode kc_Ta_isOpen 7 = .ok (.iconst 1, 1) := by decide +kernel
theorem kd_Ta_isOpen_8 : decode kc_Ta_isOpen 8 = .ok (.goto 4, 3) := by decide +kernel
theorem kd_Ta_isOpen_11 : decode kc_Ta_isOpen 11 = .ok (.iconst 0, 1) := by decide +kernel
theorem kd_Ta_isOpen_12 : decode kc_Ta_isOpen 12 = .ok (.ireturn, 1) := by decide +kernel
theorem kd_Ta_readable_0 : decode kc_Ta_readable 0 = .ok (.aload_n 0, 1) := by decide +kernel
theorem kd_Ta_readable_1 : decode kc_Ta_readable 1 = .ok (.invokevirtual 19, 3) := by decide +kernel
theorem kd_Ta_readable_4 : decode kc_Ta_readable 4 = .ok (.ifCond .eq 8, 3) := by decide +kernel
theorem kd_Ta_readable_7 : decode kc_Ta_readable 7 = .ok (.bipush 64, 2) := by decide +kernel
theorem kd_Ta_readable_9 : decode kc_Ta_readable 9 = .ok (.goto 7, 3) := by decide +kernel
theorem kd_Ta_readable_12 : decode kc_Ta_readable 12 = .ok (.aload_n 0, 1) := by decide +kernel
theorem kd_Ta_readable_13 : decode kc_Ta_readable 13 = .ok (.getfield 15, 3) := by decide +kernel
theorem kd_Ta_readable_16 : decode kc_Ta_readable 16 = .ok (.ireturn, 1) := by decide +kernel
theorem kd_Ta_write_0 : decode kc_Ta_write 0 = .ok (.iconst 0, 1) := by decide +kernel
theorem kd_Ta_write_1 : decode kc_Ta_write 1 = .ok (.istore 4, 2) := by decide +kernel
theorem kd_Ta_write_3 : decode kc_Ta_write 3 = .ok (.iload 4, 2) := by decide +kernel
theorem kd_Ta_write_5 : decode kc_Ta_write 5 = .ok (.iconst 4, 1) := by decide +kernel
theorem kd_Ta_write_6 : decode kc_Ta_write 6 = .ok (.if_icmp .ge 27, 3) := by decide +kernel
theorem kd_Ta_write_9 : decode kc_Ta_write 9 = .ok (.aload_n 0, 1) := by decide +kernel
theorem kd_Ta_write_10 : decode kc_Ta_write 10 = .ok (.getfield 9, 3) := by decide +kernel
theorem kd_Ta_write_13 : decode kc_Ta_write 13 = .ok (.iload_n 1, 1) := by decide +kernel
theorem kd_Ta_write_14 : decode kc_Ta_write 14 = .ok (.iload 4, 2) := by decide +kernel
theorem kd_Ta_write_16 : decode kc_Ta_write 16 = .ok (.iadd, 1) := by decide +kernel
theorem kd_Ta_write_17 : decode kc_Ta_write 17 = .ok (.lload_n 2, 1) := by decide +kernel
theorem kd_Ta_write_18 : decode kc_Ta_write 18 = .ok (.bipush 16, 2) := by decide +kernel
theorem kd_Ta_write_20 : decode kc_Ta_write 20 = .ok (.iload 4, 2) := by decide +kernel
theorem kd_Ta_write_22 : decode kc_Ta_write 22 = .ok (.imul, 1) := by decide +kernel
theorem kd_Ta_write_23 : decode kc_Ta_write 23 = .ok (.lshr, 1) := by decide +kernel
theorem kd_Ta_write_24 : decode kc_Ta_write 24 = .ok (.l2i, 1) := by decide +kernel
theorem kd_Ta_write_25 : decode kc_Ta_write 25 = .ok (.i2s, 1) := by decide +kernel
theorem kd_Ta_write_26 : decode kc_Ta_write 26 = .ok (.iastore, 1) := by decide +kernel
theorem kd_Ta_write_27 : decode kc_Ta_write 27 = .ok (.iinc 4 1, 3) := by decide +kernel
theorem kd_Ta_write_30 : decode kc_Ta_write 30 = .ok (.goto (-27), 3) := by decide +kernel
theorem kd_Ta_write_33 : decode kc_Ta_write 33 = .ok (.return_, 1) := by decide +kernel
theorem kd_Ta_record_0 : decode kc_Ta_record 0 = .ok (.iconst 0, 1) := by decide +kernel
theorem kd_Ta_record_1 : decode kc_Ta_record 1 = .ok (.istore 4, 2) := by decide +kernel
theorem kd_Ta_record_3 : decode kc_Ta_record 3 = .ok (.iload 4, 2) := by decide +kernel
theorem kd_Ta_record_5 : decode kc_Ta_record 5 = .ok (.iload_n 3, 1) := by decide +kernel
theorem kd_Ta_record_6 : decode kc_Ta_record 6 = .ok (.if_icmp .ge 34, 3) := by decide +kernel
theorem kd_Ta_record_9 : decode kc_Ta_record 9 = .ok (.aload_n 0, 1) := by decide +kernel
theorem kd_Ta_record_10 : decode kc_Ta_record 10 = .ok (.getfield 9, 3) := by decide +kernel
theorem kd_Ta_record_13 : decode kc_Ta_record 13 = .ok (.iload 4, 2) := by decide +kernel
theorem kd_Ta_record_15 : decode kc_Ta_record 15 = .ok (.sipush (-32768), 3) := by decide +kernel
theorem kd_Ta_record_18 : decode kc_Ta_record 18 = .ok (.sipush 32767, 3) := by decide +kernel
theorem kd_Ta_record_21 : decode kc_Ta_record 21 = .ok (.aload_n 1, 1) := by decide +kernel
theorem kd_Ta_record_22 : decode kc_Ta_record 22 = .ok (.iload_n 2, 1) := by decide +kernel
theorem kd_Ta_record_23 : decode kc_Ta_record 23 = .ok (.iload 4, 2) := by decide +kernel
theorem kd_Ta_record_25 : decode kc_Ta_record 25 = .ok (.iadd, 1) := by decide +kernel
theorem kd_Ta_record_26 : decode kc_Ta_record 26 = .ok (.iaload, 1) := by decide +kernel
theorem kd_Ta_record_27 : decode kc_Ta_record 27 = .ok (.invokestatic 23, 3) := by decide +kernel
theorem kd_Ta_record_30 : decode kc_Ta_record 30 = .ok (.invokestatic 29, 3) := by decide +kernel
theorem kd_Ta_record_33 : decode kc_Ta_record 33 = .ok (.iastore, 1) := by decide +kernel
theorem kd_Ta_record_34 : decode kc_Ta_record 34 = .ok (.iinc 4 1, 3) := by decide +kernel
theorem kd_Ta_record_37 : decode kc_Ta_record 37 = .ok (.goto (-34), 3) := by decide +kernel
theorem kd_Ta_record_40 : decode kc_Ta_record 40 = .ok (.aload_n 0, 1) := by decide +kernel
theorem kd_Ta_record_41 : decode kc_Ta_record 41 = .ok (.iload_n 3, 1) := by decide +kernel
theorem kd_Ta_record_42 : decode kc_Ta_record 42 = .ok (.putfield 15, 3) := by decide +kernel
theorem kd_Ta_record_45 : decode kc_Ta_record 45 = .ok (.return_, 1) := by decide +kernel
theorem kd_In_bitCount_0 : decode kc_In_bitCount 0 = .ok (.iload_n 0, 1) := by decide +kernel
theorem kd_In_bitCount_1 : decode kc_In_bitCount 1 = .ok (.iload_n 0, 1) := by decide +kernel
theorem kd_In_bitCount_2 : decode kc_In_bitCount 2 = .ok (.iconst 1, 1) := by decide +kernel
theorem kd_In_bitCount_3 : decode kc_In_bitCount 3 = .ok (.iushr, 1) := by decide +kernel
theorem kd_In_bitCount_4 : decode kc_In_bitCount 4 = .ok (.ldc_w 265, 3) := by decide +kernel
theorem kd_In_bitCount_7 : decode kc_In_bitCount 7 = .ok (.iand, 1) := by decide +kernel
theorem kd_In_bitCount_8 : decode kc_In_bitCount 8 = .ok (.isub, 1) := by decide +kernel
theorem kd_In_bitCount_9 : decode kc_In_bitCount 9 = .ok (.istore_n 0, 1) := by decide +kernel
theorem kd_In_bitCount_10 : decode kc_In_bitCount 10 = .ok (.iload_n 0, 1) := by decide +kernel
theorem kd_In_bitCount_11 : decode kc_In_bitCount 11 = .ok (.ldc_w 266, 3) := by decide +kernel
theorem kd_In_bitCount_14 : decode kc_In_bitCount 14 = .ok (.iand, 1) := by decide +kernel
theorem kd_In_bitCount_15 : decode kc_In_bitCount 15 = .ok (.iload_n 0, 1) := by decide +kernel
theorem kd_In_bitCount_16 : decode kc_In_bitCount 16 = .ok (.iconst 2, 1) := by decide +kernel
theorem kd_In_bitCount_17 : decode kc_In_bitCount 17 = .ok (.iushr, 1) := by decide +kernel
theorem kd_In_bitCount_18 : decode kc_In_bitCount 18 = .ok (.ldc_w 266, 3) := by decide +kernel
theorem kd_In_bitCount_21 : decode kc_In_bitCount 21 = .ok (.iand, 1) := by decide +kernel
theorem kd_In_bitCount_22 : decode kc_In_bitCount 22 = .ok (.iadd, 1) := by decide +kernel
theorem kd_In_bitCount_23 : decode kc_In_bitCount 23 = .ok (.istore_n 0, 1) := by decide +kernel
theorem kd_In_bitCount_24 : decode kc_In_bitCount 24 = .ok (.iload_n 0, 1) := by decide +kernel
theorem kd_In_bitCount_25 : decode kc_In_bitCount 25 = .ok (.iload_n 0, 1) := by decide +kernel
theorem kd_In_bitCount_26 : decode kc_In_bitCount 26 = .ok (.iconst 4, 1) := by decide +kernel
theorem kd_In_bitCount_27 : decode kc_In_bitCount 27 = .ok (.iushr, 1) := by decide +kernel
theorem kd_In_bitCount_28 : decode kc_In_bitCount 28 = .ok (.iadd, 1) := by decide +kernel
theorem kd_In_bitCount_29 : decode kc_In_bitCount 29 = .ok (.ldc_w 267, 3) := by decide +kernel
theorem kd_In_bitCount_32 : decode kc_In_bitCount 32 = .ok (.iand, 1) := by decide +kernel
theorem kd_In_bitCount_33 : decode kc_In_bitCount 33 = .ok (.istore_n 0, 1) := by decide +kernel
theorem kd_In_bitCount_34 : decode kc_In_bitCount 34 = .ok (.iload_n 0, 1) := by decide +kernel
theorem kd_In_bitCount_35 : decode kc_In_bitCount 35 = .ok (.iload_n 0, 1) := by decide +kernel
theorem kd_In_bitCount_36 : decode kc_In_bitCount 36 = .ok (.bipush 8, 2) := by decide +kernel
theorem kd_In_bitCount_38 : decode kc_In_bitCount 38 = .ok (.iushr, 1) := by decide +kernel
theorem kd_In_bitCount_39 : decode kc_In_bitCount 39 = .ok (.iadd, 1) := by decide +kernel
theorem kd_In_bitCount_40 : decode kc_In_bitCount 40 = .ok (.istore_n 0, 1) := by decide +kernel
theorem kd_In_bitCount_41 : decode kc_In_bitCount 41 = .ok (.iload_n 0, 1) := by decide +kernel
theorem kd_In_bitCount_42 : decode kc_In_bitCount 42 = .ok (.iload_n 0, 1) := by decide +kernel
theorem kd_In_bitCount_43 : decode kc_In_bitCount 43 = .ok (.bipush 16, 2) := by decide +kernel
theorem kd_In_bitCount_45 : decode kc_In_bitCount 45 = .ok (.iushr, 1) := by decide +kernel
theorem kd_In_bitCount_46 : decode kc_In_bitCount 46 = .ok (.iadd, 1) := by decide +kernel
theorem kd_In_bitCount_47 : decode kc_In_bitCount 47 = .ok (.istore_n 0, 1) := by decide +kernel
theorem kd_In_bitCount_48 : decode kc_In_bitCount 48 = .ok (.iload_n 0, 1) := by decide +kernel
theorem kd_In_bitCount_49 : decode kc_In_bitCount 49 = .ok (.bipush 63, 2) := by decide +kernel
theorem kd_In_bitCount_51 : decode kc_In_bitCount 51 = .ok (.iand, 1) := by decide +kernel
theorem kd_In_bitCount_52 : decode kc_In_bitCount 52 = .ok (.ireturn, 1) := by decide +kernel
theorem kd_Ar_fill_aIIIIV_0 : decode kc_Ar_fill_aIIIIV 0 = .ok (.aload_n 0, 1) := by decide +kernel
theorem kd_Ar_fill_aIIIIV_1 : decode kc_Ar_fill_aIIIIV 1 = .ok (.arraylength, 1) := by decide +kernel
theorem kd_Ar_fill_aIIIIV_2 : decode kc_Ar_fill_aIIIIV 2 = .ok (.iload_n 1, 1) := by decide +kernel
theorem kd_Ar_fill_aIIIIV_3 : decode kc_Ar_fill_aIIIIV 3 = .ok (.iload_n 2, 1) := by decide +kernel
theorem kd_Ar_fill_aIIIIV_4 : decode kc_Ar_fill_aIIIIV 4 = .ok (.invokestatic 13, 3) := by decide +kernel
theorem kd_Ar_fill_aIIIIV_7 : decode kc_Ar_fill_aIIIIV 7 = .ok (.iload_n 1, 1) := by decide +kernel
theorem kd_Ar_fill_aIIIIV_8 : decode kc_Ar_fill_aIIIIV 8 = .ok (.istore 4, 2) := by decide +kernel
theorem kd_Ar_fill_aIIIIV_10 : decode kc_Ar_fill_aIIIIV 10 = .ok (.iload 4, 2) := by decide +kernel
theorem kd_Ar_fill_aIIIIV_12 : decode kc_Ar_fill_aIIIIV 12 = .ok (.iload_n 2, 1) := by decide +kernel
theorem kd_Ar_fill_aIIIIV_13 : decode kc_Ar_fill_aIIIIV 13 = .ok (.if_icmp .ge 14, 3) := by decide +kernel
theorem kd_Ar_fill_aIIIIV_16 : decode kc_Ar_fill_aIIIIV 16 = .ok (.aload_n 0, 1) := by decide +kernel
theorem kd_Ar_fill_aIIIIV_17 : decode kc_Ar_fill_aIIIIV 17 = .ok (.iload 4, 2) := by decide +kernel
theorem kd_Ar_fill_aIIIIV_19 : decode kc_Ar_fill_aIIIIV 19 = .ok (.iload_n 3, 1) := by decide +kernel
theorem kd_Ar_fill_aIIIIV_20 : decode kc_Ar_fill_aIIIIV 20 = .ok (.iastore, 1) := by decide +kernel
theorem kd_Ar_fill_aIIIIV_21 : decode kc_Ar_fill_aIIIIV 21 = .ok (.iinc 4 1, 3) := by decide +kernel
theorem kd_Ar_fill_aIIIIV_24 : decode kc_Ar_fill_aIIIIV 24 = .ok (.goto (-14), 3) := by decide +kernel
theorem kd_Ar_fill_aIIIIV_27 : decode kc_Ar_fill_aIIIIV 27 = .ok (.return_, 1) := by decide +kernel
theorem kd_Ar_rangeCheck_0 : decode kc_Ar_rangeCheck 0 = .ok (.iload_n 1, 1) := by decide +kernel
theorem kd_Ar_rangeCheck_1 : decode kc_Ar_rangeCheck 1 = .ok (.iload_n 2, 1) := by decide +kernel
theorem kd_Ar_rangeCheck_2 : decode kc_Ar_rangeCheck 2 = .ok (.if_icmp .le 44, 3) := by decide +kernel
theorem kd_Ar_rangeCheck_5 : decode kc_Ar_rangeCheck 5 = .ok (.new 43, 3) := by decide +kernel
theorem kd_Ar_rangeCheck_8 : decode kc_Ar_rangeCheck 8 = .ok (.dup, 1) := by decide +kernel
theorem kd_Ar_rangeCheck_9 : decode kc_Ar_rangeCheck 9 = .ok (.new 45, 3) := by decide +kernel
theorem kd_Ar_rangeCheck_12 : decode kc_Ar_rangeCheck 12 = .ok (.dup, 1) := by decide +kernel
theorem kd_Ar_rangeCheck_13 : decode kc_Ar_rangeCheck 13 = .ok (.invokespecial 47, 3) := by decide +kernel
theorem kd_Ar_rangeCheck_16 : decode kc_Ar_rangeCheck 16 = .ok (.ldc 48, 2) := by decide +kernel
theorem kd_Ar_rangeCheck_18 : decode kc_Ar_rangeCheck 18 = .ok (.invokevirtual 50, 3) := by decide +kernel
theorem kd_Ar_rangeCheck_21 : decode kc_Ar_rangeCheck 21 = .ok (.iload_n 1, 1) := by decide +kernel
theorem kd_Ar_rangeCheck_22 : decode kc_Ar_rangeCheck 22 = .ok (.invokevirtual 54, 3) := by decide +kernel
theorem kd_Ar_rangeCheck_25 : decode kc_Ar_rangeCheck 25 = .ok (.ldc 57, 2) := by decide +kernel
theorem kd_Ar_rangeCheck_27 : decode kc_Ar_rangeCheck 27 = .ok (.invokevirtual 50, 3) := by decide +kernel
theorem kd_Ar_rangeCheck_30 : decode kc_Ar_rangeCheck 30 = .ok (.iload_n 2, 1) := by decide +kernel
theorem kd_Ar_rangeCheck_31 : decode kc_Ar_rangeCheck 31 = .ok (.invokevirtual 54, 3) := by decide +kernel
theorem kd_Ar_rangeCheck_34 : decode kc_Ar_rangeCheck 34 = .ok (.ldc 59, 2) := by decide +kernel
theorem kd_Ar_rangeCheck_36 : decode kc_Ar_rangeCheck 36 = .ok (.invokevirtual 50, 3) := by decide +kernel
theorem kd_Ar_rangeCheck_39 : decode kc_Ar_rangeCheck 39 = .ok (.invokevirtual 61, 3) := by decide +kernel
theorem kd_Ar_rangeCheck_42 : decode kc_Ar_rangeCheck 42 = .ok (.invokespecial 65, 3) := by decide +kernel
theorem kd_Ar_rangeCheck_45 : decode kc_Ar_rangeCheck 45 = .ok (.athrow, 1) := by decide +kernel
theorem kd_Ar_rangeCheck_46 : decode kc_Ar_rangeCheck 46 = .ok (.iload_n 1, 1) := by decide +kernel
theorem kd_Ar_rangeCheck_47 : decode kc_Ar_rangeCheck 47 = .ok (.ifCond .ge 12, 3) := by decide +kernel
theorem kd_Ar_rangeCheck_50 : decode kc_Ar_rangeCheck 50 = .ok (.new 68, 3) := by decide +kernel
theorem kd_Ar_rangeCheck_53 : decode kc_Ar_rangeCheck 53 = .ok (.dup, 1) := by decide +kernel
theorem kd_Ar_rangeCheck_54 : decode kc_Ar_rangeCheck 54 = .ok (.iload_n 1, 1) := by decide +kernel
theorem kd_Ar_rangeCheck_55 : decode kc_Ar_rangeCheck 55 = .ok (.invokespecial 70, 3) := by decide +kernel
theorem kd_Ar_rangeCheck_58 : decode kc_Ar_rangeCheck 58 = .ok (.athrow, 1) := by decide +kernel
theorem kd_Ar_rangeCheck_59 : decode kc_Ar_rangeCheck 59 = .ok (.iload_n 2, 1) := by decide +kernel
theorem kd_Ar_rangeCheck_60 : decode kc_Ar_rangeCheck 60 = .ok (.iload_n 0, 1) := by decide +kernel
theorem kd_Ar_rangeCheck_61 : decode kc_Ar_rangeCheck 61 = .ok (.if_icmp .le 12, 3) := by decide +kernel
theorem kd_Ar_rangeCheck_64 : decode kc_Ar_rangeCheck 64 = .ok (.new 68, 3) := by decide +kernel
theorem kd_Ar_rangeCheck_67 : decode kc_Ar_rangeCheck 67 = .ok (.dup, 1) := by decide +kernel
theorem kd_Ar_rangeCheck_68 : decode kc_Ar_rangeCheck 68 = .ok (.iload_n 2, 1) := by decide +kernel
theorem kd_Ar_rangeCheck_69 : decode kc_Ar_rangeCheck 69 = .ok (.invokespecial 70, 3) := by decide +kernel
theorem kd_Ar_rangeCheck_72 : decode kc_Ar_rangeCheck 72 = .ok (.athrow, 1) := by decide +kernel
theorem kd_Ar_rangeCheck_73 : decode kc_Ar_rangeCheck 73 = .ok (.return_, 1) := by decide +kernel
theorem kd_Ma_floorDiv_0 : decode kc_Ma_floorDiv 0 = .ok (.iload_n 0, 1) := by decide +kernel
theorem kd_Ma_floorDiv_1 : decode kc_Ma_floorDiv 1 = .ok (.iload_n 1, 1) := by decide +kernel
theorem kd_Ma_floorDiv_2 : decode kc_Ma_floorDiv 2 = .ok (.idiv, 1) := by decide +kernel
theorem kd_Ma_floorDiv_3 : decode kc_Ma_floorDiv 3 = .ok (.istore_n 2, 1) := by decide +kernel
theorem kd_Ma_floorDiv_4 : decode kc_Ma_floorDiv 4 = .ok (.iload_n 0, 1) := by decide +kernel
theorem kd_Ma_floorDiv_5 : decode kc_Ma_floorDiv 5 = .ok (.iload_n 1, 1) := by decide +kernel
theorem kd_Ma_floorDiv_6 : decode kc_Ma_floorDiv 6 = .ok (.ixor, 1) := by decide +kernel
theorem kd_Ma_floorDiv_7 : decode kc_Ma_floorDiv 7 = .ok (.ifCond .ge 14, 3) := by decide +kernel
theorem kd_Ma_floorDiv_10 : decode kc_Ma_floorDiv 10 = .ok (.iload_n 2, 1) := by decide +kernel
theorem kd_Ma_floorDiv_11 : decode kc_Ma_floorDiv 11 = .ok (.iload_n 1, 1) := by decide +kernel
theorem kd_Ma_floorDiv_12 : decode kc_Ma_floorDiv 12 = .ok (.imul, 1) := by decide +kernel
theorem kd_Ma_floorDiv_13 : decode kc_Ma_floorDiv 13 = .ok (.iload_n 0, 1) := by decide +kernel
theorem kd_Ma_floorDiv_14 : decode kc_Ma_floorDiv 14 = .ok (.if_icmp .eq 7, 3) := by decide +kernel
theorem kd_Ma_floorDiv_17 : decode kc_Ma_floorDiv 17 = .ok (.iload_n 2, 1) := by decide +kernel
theorem kd_Ma_floorDiv_18 : decode kc_Ma_floorDiv 18 = .ok (.iconst 1, 1) := by decide +kernel
theorem kd_Ma_floorDiv_19 : decode kc_Ma_floorDiv 19 = .ok (.isub, 1) := by decide +kernel
theorem kd_Ma_floorDiv_20 : decode kc_Ma_floorDiv 20 = .ok (.ireturn, 1) := by decide +kernel
theorem kd_Ma_floorDiv_21 : decode kc_Ma_floorDiv 21 = .ok (.iload_n 2, 1) := by decide +kernel
theorem kd_Ma_floorDiv_22 : decode kc_Ma_floorDiv 22 = .ok (.ireturn, 1) := by decide +kernel
theorem kd_Ar_fill_aIIV_0 : decode kc_Ar_fill_aIIV 0 = .ok (.iconst 0, 1) := by decide +kernel
theorem kd_Ar_fill_aIIV_1 : decode kc_Ar_fill_aIIV 1 = .ok (.istore_n 2, 1) := by decide +kernel
theorem kd_Ar_fill_aIIV_2 : decode kc_Ar_fill_aIIV 2 = .ok (.aload_n 0, 1) := by decide +kernel
theorem kd_Ar_fill_aIIV_3 : decode kc_Ar_fill_aIIV 3 = .ok (.arraylength, 1) := by decide +kernel
theorem kd_Ar_fill_aIIV_4 : decode kc_Ar_fill_aIIV 4 = .ok (.istore_n 3, 1) := by decide +kernel
theorem kd_Ar_fill_aIIV_5 : decode kc_Ar_fill_aIIV 5 = .ok (.iload_n 2, 1) := by decide +kernel
theorem kd_Ar_fill_aIIV_6 : decode kc_Ar_fill_aIIV 6 = .ok (.iload_n 3, 1) := by decide +kernel
theorem kd_Ar_fill_aIIV_7 : decode kc_Ar_fill_aIIV 7 = .ok (.if_icmp .ge 13, 3) := by decide +kernel
theorem kd_Ar_fill_aIIV_10 : decode kc_Ar_fill_aIIV 10 = .ok (.aload_n 0, 1) := by decide +kernel
theorem kd_Ar_fill_aIIV_11 : decode kc_Ar_fill_aIIV 11 = .ok (.iload_n 2, 1) := by decide +kernel
theorem kd_Ar_fill_aIIV_12 : decode kc_Ar_fill_aIIV 12 = .ok (.iload_n 1, 1) := by decide +kernel
theorem kd_Ar_fill_aIIV_13 : decode kc_Ar_fill_aIIV 13 = .ok (.iastore, 1) := by decide +kernel
theorem kd_Ar_fill_aIIV_14 : decode kc_Ar_fill_aIIV 14 = .ok (.iinc 2 1, 3) := by decide +kernel
theorem kd_Ar_fill_aIIV_17 : decode kc_Ar_fill_aIIV 17 = .ok (.goto (-12), 3) := by decide +kernel
theorem kd_Ar_fill_aIIV_20 : decode kc_Ar_fill_aIIV 20 = .ok (.return_, 1) := by decide +kernel
