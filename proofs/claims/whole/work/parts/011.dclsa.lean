/-! A row that decodes each instruction. Printed. -/
theorem kd_Mx_init_0 : decode kc_Mx_init 0 = .ok (.aload_n 0, 1) := by decide +kernel
theorem kd_Mx_init_1 : decode kc_Mx_init 1 = .ok (.invokespecial 1, 3) := by decide +kernel
theorem kd_Mx_init_4 : decode kc_Mx_init 4 = .ok (.aload_n 0, 1) := by decide +kernel
theorem kd_Mx_init_5 : decode kc_Mx_init 5 = .ok (.bipush 8, 2) := by decide +kernel
theorem kd_Mx_init_7 : decode kc_Mx_init 7 = .ok (.anewarray 9, 3) := by decide +kernel
theorem kd_Mx_init_10 : decode kc_Mx_init 10 = .ok (.putfield 11, 3) := by decide +kernel
theorem kd_Mx_init_13 : decode kc_Mx_init 13 = .ok (.aload_n 0, 1) := by decide +kernel
theorem kd_Mx_init_14 : decode kc_Mx_init 14 = .ok (.new 15, 3) := by decide +kernel
theorem kd_Mx_init_17 : decode kc_Mx_init 17 = .ok (.dup, 1) := by decide +kernel
theorem kd_Mx_init_18 : decode kc_Mx_init 18 = .ok (.invokespecial 17, 3) := by decide +kernel
theorem kd_Mx_init_21 : decode kc_Mx_init 21 = .ok (.putfield 18, 3) := by decide +kernel
theorem kd_Mx_init_24 : decode kc_Mx_init 24 = .ok (.aload_n 0, 1) := by decide +kernel
theorem kd_Mx_init_25 : decode kc_Mx_init 25 = .ok (.new 22, 3) := by decide +kernel
theorem kd_Mx_init_28 : decode kc_Mx_init 28 = .ok (.dup, 1) := by decide +kernel
theorem kd_Mx_init_29 : decode kc_Mx_init 29 = .ok (.invokespecial 24, 3) := by decide +kernel
theorem kd_Mx_init_32 : decode kc_Mx_init 32 = .ok (.putfield 25, 3) := by decide +kernel
theorem kd_Mx_init_35 : decode kc_Mx_init 35 = .ok (.iconst 0, 1) := by decide +kernel
theorem kd_Mx_init_36 : decode kc_Mx_init 36 = .ok (.istore_n 1, 1) := by decide +kernel
theorem kd_Mx_init_37 : decode kc_Mx_init 37 = .ok (.iload_n 1, 1) := by decide +kernel
theorem kd_Mx_init_38 : decode kc_Mx_init 38 = .ok (.bipush 8, 2) := by decide +kernel
theorem kd_Mx_init_40 : decode kc_Mx_init 40 = .ok (.if_icmp .ge 22, 3) := by decide +kernel
theorem kd_Mx_init_43 : decode kc_Mx_init 43 = .ok (.aload_n 0, 1) := by decide +kernel
theorem kd_Mx_init_44 : decode kc_Mx_init 44 = .ok (.getfield 11, 3) := by decide +kernel
theorem kd_Mx_init_47 : decode kc_Mx_init 47 = .ok (.iload_n 1, 1) := by decide +kernel
theorem kd_Mx_init_48 : decode kc_Mx_init 48 = .ok (.new 9, 3) := by decide +kernel
theorem kd_Mx_init_51 : decode kc_Mx_init 51 = .ok (.dup, 1) := by decide +kernel
theorem kd_Mx_init_52 : decode kc_Mx_init 52 = .ok (.invokespecial 29, 3) := by decide +kernel
theorem kd_Mx_init_55 : decode kc_Mx_init 55 = .ok (.aastore, 1) := by decide +kernel
theorem kd_Mx_init_56 : decode kc_Mx_init 56 = .ok (.iinc 1 1, 3) := by decide +kernel
theorem kd_Mx_init_59 : decode kc_Mx_init 59 = .ok (.goto (-22), 3) := by decide +kernel
theorem kd_Mx_init_62 : decode kc_Mx_init 62 = .ok (.return_, 1) := by decide +kernel
theorem kd_Mx_samples_0 : decode kc_Mx_samples 0 = .ok (.iload_n 1, 1) := by decide +kernel
theorem kd_Mx_samples_1 : decode kc_Mx_samples 1 = .ok (.iconst 0, 1) := by decide +kernel
theorem kd_Mx_samples_2 : decode kc_Mx_samples 2 = .ok (.bipush 7, 2) := by decide +kernel
theorem kd_Mx_samples_4 : decode kc_Mx_samples 4 = .ok (.invokestatic 30, 3) := by decide +kernel
theorem kd_Mx_samples_7 : decode kc_Mx_samples 7 = .ok (.ifCond .eq 13, 3) := by decide +kernel
theorem kd_Mx_samples_10 : decode kc_Mx_samples 10 = .ok (.iload_n 2, 1) := by decide +kernel
theorem kd_Mx_samples_11 : decode kc_Mx_samples 11 = .ok (.iconst 0, 1) := by decide +kernel
theorem kd_Mx_samples_12 : decode kc_Mx_samples 12 = .ok (.bipush 60, 2) := by decide +kernel
theorem kd_Mx_samples_14 : decode kc_Mx_samples 14 = .ok (.invokestatic 30, 3) := by decide +kernel
theorem kd_Mx_samples_17 : decode kc_Mx_samples 17 = .ok (.ifCond .ne 11, 3) := by decide +kernel
theorem kd_Mx_samples_20 : decode kc_Mx_samples 20 = .ok (.new 34, 3) := by decide +kernel
theorem kd_Mx_samples_23 : decode kc_Mx_samples 23 = .ok (.dup, 1) := by decide +kernel
theorem kd_Mx_samples_24 : decode kc_Mx_samples 24 = .ok (.invokespecial 36, 3) := by decide +kernel
theorem kd_Mx_samples_27 : decode kc_Mx_samples 27 = .ok (.athrow, 1) := by decide +kernel
theorem kd_Mx_samples_28 : decode kc_Mx_samples 28 = .ok (.aload_n 0, 1) := by decide +kernel
theorem kd_Mx_samples_29 : decode kc_Mx_samples 29 = .ok (.getfield 11, 3) := by decide +kernel
theorem kd_Mx_samples_32 : decode kc_Mx_samples 32 = .ok (.iload_n 1, 1) := by decide +kernel
theorem kd_Mx_samples_33 : decode kc_Mx_samples 33 = .ok (.aaload, 1) := by decide +kernel
theorem kd_Mx_samples_34 : decode kc_Mx_samples 34 = .ok (.invokevirtual 37, 3) := by decide +kernel
theorem kd_Mx_samples_37 : decode kc_Mx_samples 37 = .ok (.ifCond .ne 11, 3) := by decide +kernel
theorem kd_Mx_samples_40 : decode kc_Mx_samples 40 = .ok (.new 41, 3) := by decide +kernel
theorem kd_Mx_samples_43 : decode kc_Mx_samples 43 = .ok (.dup, 1) := by decide +kernel
theorem kd_Mx_samples_44 : decode kc_Mx_samples 44 = .ok (.invokespecial 43, 3) := by decide +kernel
theorem kd_Mx_samples_47 : decode kc_Mx_samples 47 = .ok (.athrow, 1) := by decide +kernel
theorem kd_Mx_samples_48 : decode kc_Mx_samples 48 = .ok (.aload_n 0, 1) := by decide +kernel
theorem kd_Mx_samples_49 : decode kc_Mx_samples 49 = .ok (.getfield 11, 3) := by decide +kernel
theorem kd_Mx_samples_52 : decode kc_Mx_samples 52 = .ok (.iload_n 1, 1) := by decide +kernel
theorem kd_Mx_samples_53 : decode kc_Mx_samples 53 = .ok (.aaload, 1) := by decide +kernel
theorem kd_Mx_samples_54 : decode kc_Mx_samples 54 = .ok (.iload_n 2, 1) := by decide +kernel
theorem kd_Mx_samples_55 : decode kc_Mx_samples 55 = .ok (.lload_n 3, 1) := by decide +kernel
theorem kd_Mx_samples_56 : decode kc_Mx_samples 56 = .ok (.invokevirtual 44, 3) := by decide +kernel
theorem kd_Mx_samples_59 : decode kc_Mx_samples 59 = .ok (.return_, 1) := by decide +kernel
theorem kd_Mx_seal_0 : decode kc_Mx_seal 0 = .ok (.iload_n 1, 1) := by decide +kernel
theorem kd_Mx_seal_1 : decode kc_Mx_seal 1 = .ok (.iconst 0, 1) := by decide +kernel
theorem kd_Mx_seal_2 : decode kc_Mx_seal 2 = .ok (.bipush 7, 2) := by decide +kernel
theorem kd_Mx_seal_4 : decode kc_Mx_seal 4 = .ok (.invokestatic 30, 3) := by decide +kernel
theorem kd_Mx_seal_7 : decode kc_Mx_seal 7 = .ok (.ifCond .ne 11, 3) := by decide +kernel
theorem kd_Mx_seal_10 : decode kc_Mx_seal 10 = .ok (.new 34, 3) := by decide +kernel
theorem kd_Mx_seal_13 : decode kc_Mx_seal 13 = .ok (.dup, 1) := by decide +kernel
theorem kd_Mx_seal_14 : decode kc_Mx_seal 14 = .ok (.invokespecial 36, 3) := by decide +kernel
theorem kd_Mx_seal_17 : decode kc_Mx_seal 17 = .ok (.athrow, 1) := by decide +kernel
theorem kd_Mx_seal_18 : decode kc_Mx_seal 18 = .ok (.iload_n 2, 1) := by decide +kernel
theorem kd_Mx_seal_19 : decode kc_Mx_seal 19 = .ok (.iconst 1, 1) := by decide +kernel
theorem kd_Mx_seal_20 : decode kc_Mx_seal 20 = .ok (.bipush 64, 2) := by decide +kernel
theorem kd_Mx_seal_22 : decode kc_Mx_seal 22 = .ok (.invokestatic 30, 3) := by decide +kernel
theorem kd_Mx_seal_25 : decode kc_Mx_seal 25 = .ok (.ifCond .ne 11, 3) := by decide +kernel
theorem kd_Mx_seal_28 : decode kc_Mx_seal 28 = .ok (.new 48, 3) := by decide +kernel
theorem kd_Mx_seal_31 : decode kc_Mx_seal 31 = .ok (.dup, 1) := by decide +kernel
theorem kd_Mx_seal_32 : decode kc_Mx_seal 32 = .ok (.invokespecial 50, 3) := by decide +kernel
theorem kd_Mx_seal_35 : decode kc_Mx_seal 35 = .ok (.athrow, 1) := by decide +kernel
theorem kd_Mx_seal_36 : decode kc_Mx_seal 36 = .ok (.aload_n 0, 1) := by decide +kernel
theorem kd_Mx_seal_37 : decode kc_Mx_seal 37 = .ok (.getfield 11, 3) := by decide +kernel
theorem kd_Mx_seal_40 : decode kc_Mx_seal 40 = .ok (.iload_n 1, 1) := by decide +kernel
theorem kd_Mx_seal_41 : decode kc_Mx_seal 41 = .ok (.aaload, 1) := by decide +kernel
theorem kd_Mx_seal_42 : decode kc_Mx_seal 42 = .ok (.invokevirtual 37, 3) := by decide +kernel
theorem kd_Mx_seal_45 : decode kc_Mx_seal 45 = .ok (.ifCond .ne 11, 3) := by decide +kernel
theorem kd_Mx_seal_48 : decode kc_Mx_seal 48 = .ok (.new 41, 3) := by decide +kernel
theorem kd_Mx_seal_51 : decode kc_Mx_seal 51 = .ok (.dup, 1) := by decide +kernel
theorem kd_Mx_seal_52 : decode kc_Mx_seal 52 = .ok (.invokespecial 43, 3) := by decide +kernel
theorem kd_Mx_seal_55 : decode kc_Mx_seal 55 = .ok (.athrow, 1) := by decide +kernel
theorem kd_Mx_seal_56 : decode kc_Mx_seal 56 = .ok (.aload_n 0, 1) := by decide +kernel
theorem kd_Mx_seal_57 : decode kc_Mx_seal 57 = .ok (.getfield 11, 3) := by decide +kernel
theorem kd_Mx_seal_60 : decode kc_Mx_seal 60 = .ok (.iload_n 1, 1) := by decide +kernel
theorem kd_Mx_seal_61 : decode kc_Mx_seal 61 = .ok (.aaload, 1) := by decide +kernel
theorem kd_Mx_seal_62 : decode kc_Mx_seal 62 = .ok (.iload_n 2, 1) := by decide +kernel
theorem kd_Mx_seal_63 : decode kc_Mx_seal 63 = .ok (.putfield 51, 3) := by decide +kernel
theorem kd_Mx_seal_66 : decode kc_Mx_seal 66 = .ok (.return_, 1) := by decide +kernel
theorem kd_Mx_take_0 : decode kc_Mx_take 0 = .ok (.iload_n 1, 1) := by decide +kernel
theorem kd_Mx_take_1 : decode kc_Mx_take 1 = .ok (.iconst 0, 1) := by decide +kernel
theorem kd_Mx_take_2 : decode kc_Mx_take 2 = .ok (.bipush 7, 2) := by decide +kernel
theorem kd_Mx_take_4 : decode kc_Mx_take 4 = .ok (.invokestatic 30, 3) := by decide +kernel
theorem kd_Mx_take_7 : decode kc_Mx_take 7 = .ok (.ifCond .eq 22, 3) := by decide +kernel
theorem kd_Mx_take_10 : decode kc_Mx_take 10 = .ok (.iload_n 2, 1) := by decide +kernel
theorem kd_Mx_take_11 : decode kc_Mx_take 11 = .ok (.iconst (-1), 1) := by decide +kernel
theorem kd_Mx_take_12 : decode kc_Mx_take 12 = .ok (.aload_n 0, 1) := by decide +kernel
theorem kd_Mx_take_13 : decode kc_Mx_take 13 = .ok (.getfield 11, 3) := by decide +kernel
theorem kd_Mx_take_16 : decode kc_Mx_take 16 = .ok (.iload_n 1, 1) := by decide +kernel
theorem kd_Mx_take_17 : decode kc_Mx_take 17 = .ok (.aaload, 1) := by decide +kernel
theorem kd_Mx_take_18 : decode kc_Mx_take 18 = .ok (.invokevirtual 55, 3) := by decide +kernel
theorem kd_Mx_take_21 : decode kc_Mx_take 21 = .ok (.iconst 1, 1) := by decide +kernel
theorem kd_Mx_take_22 : decode kc_Mx_take 22 = .ok (.isub, 1) := by decide +kernel
theorem kd_Mx_take_23 : decode kc_Mx_take 23 = .ok (.invokestatic 30, 3) := by decide +kernel
theorem kd_Mx_take_26 : decode kc_Mx_take 26 = .ok (.ifCond .ne 11, 3) := by decide +kernel
theorem kd_Mx_take_29 : decode kc_Mx_take 29 = .ok (.new 34, 3) := by decide +kernel
theorem kd_Mx_take_32 : decode kc_Mx_take 32 = .ok (.dup, 1) := by decide +kernel
theorem kd_Mx_take_33 : decode kc_Mx_take 33 = .ok (.invokespecial 36, 3) := by decide +kernel
theorem kd_Mx_take_36 : decode kc_Mx_take 36 = .ok (.athrow, 1) := by decide +kernel
theorem kd_Mx_take_37 : decode kc_Mx_take 37 = .ok (.iload_n 2, 1) := by decide +kernel
theorem kd_Mx_take_38 : decode kc_Mx_take 38 = .ok (.iconst (-1), 1) := by decide +kernel
theorem kd_Mx_take_39 : decode kc_Mx_take 39 = .ok (.if_icmp .ne 15, 3) := by decide +kernel
theorem kd_Mx_take_42 : decode kc_Mx_take 42 = .ok (.aload_n 0, 1) := by decide +kernel
theorem kd_Mx_take_43 : decode kc_Mx_take 43 = .ok (.getfield 11, 3) := by decide +kernel
theorem kd_Mx_take_46 : decode kc_Mx_take 46 = .ok (.iload_n 1, 1) := by decide +kernel
theorem kd_Mx_take_47 : decode kc_Mx_take 47 = .ok (.aaload, 1) := by decide +kernel
theorem kd_Mx_take_48 : decode kc_Mx_take 48 = .ok (.getfield 51, 3) := by decide +kernel
theorem kd_Mx_take_51 : decode kc_Mx_take 51 = .ok (.goto 14, 3) := by decide +kernel
theorem kd_Mx_take_54 : decode kc_Mx_take 54 = .ok (.aload_n 0, 1) := by decide +kernel
theorem kd_Mx_take_55 : decode kc_Mx_take 55 = .ok (.getfield 11, 3) := by decide +kernel
theorem kd_Mx_take_58 : decode kc_Mx_take 58 = .ok (.iload_n 1, 1) := by decide +kernel
theorem kd_Mx_take_59 : decode kc_Mx_take 59 = .ok (.aaload, 1) := by decide +kernel
theorem kd_Mx_take_60 : decode kc_Mx_take 60 = .ok (.getfield 59, 3) := by decide +kernel
theorem kd_Mx_take_63 : decode kc_Mx_take 63 = .ok (.iload_n 2, 1) := by decide +kernel
theorem kd_Mx_take_64 : decode kc_Mx_take 64 = .ok (.iaload, 1) := by decide +kernel
theorem kd_Mx_take_65 : decode kc_Mx_take 65 = .ok (.ireturn, 1) := by decide +kernel
theorem kd_Mx_clip_0 : decode kc_Mx_clip 0 = .ok (.iload_n 1, 1) := by decide +kernel
theorem kd_Mx_clip_1 : decode kc_Mx_clip 1 = .ok (.iconst 0, 1) := by decide +kernel
theorem kd_Mx_clip_2 : decode kc_Mx_clip 2 = .ok (.iconst 3, 1) := by decide +kernel
theorem kd_Mx_clip_3 : decode kc_Mx_clip 3 = .ok (.invokestatic 30, 3) := by decide +kernel
theorem kd_Mx_clip_6 : decode kc_Mx_clip 6 = .ok (.ifCond .eq 43, 3) := by decide +kernel
theorem kd_Mx_clip_9 : decode kc_Mx_clip 9 = .ok (.iload_n 2, 1) := by decide +kernel
theorem kd_Mx_clip_10 : decode kc_Mx_clip 10 = .ok (.iconst 0, 1) := by decide +kernel
theorem kd_Mx_clip_11 : decode kc_Mx_clip 11 = .ok (.sipush 1023, 3) := by decide +kernel
theorem kd_Mx_clip_14 : decode kc_Mx_clip 14 = .ok (.invokestatic 30, 3) := by decide +kernel
theorem kd_Mx_clip_17 : decode kc_Mx_clip 17 = .ok (.ifCond .eq 32, 3) := by decide +kernel
theorem kd_Mx_clip_20 : decode kc_Mx_clip 20 = .ok (.iload_n 3, 1) := by decide +kernel
theorem kd_Mx_clip_21 : decode kc_Mx_clip 21 = .ok (.iconst 0, 1) := by decide +kernel
theorem kd_Mx_clip_22 : decode kc_Mx_clip 22 = .ok (.bipush 7, 2) := by decide +kernel
theorem kd_Mx_clip_24 : decode kc_Mx_clip 24 = .ok (.invokestatic 30, 3) := by decide +kernel
theorem kd_Mx_clip_27 : decode kc_Mx_clip 27 = .ok (.ifCond .eq 22, 3) := by decide +kernel
theorem kd_Mx_clip_30 : decode kc_Mx_clip 30 = .ok (.iload 4, 2) := by decide +kernel
theorem kd_Mx_clip_32 : decode kc_Mx_clip 32 = .ok (.ifCond .lt 17, 3) := by decide +kernel
theorem kd_Mx_clip_35 : decode kc_Mx_clip 35 = .ok (.iload 5, 2) := by decide +kernel
theorem kd_Mx_clip_37 : decode kc_Mx_clip 37 = .ok (.iconst 1, 1) := by decide +kernel
theorem kd_Mx_clip_38 : decode kc_Mx_clip 38 = .ok (.sipush 1024, 3) := by decide +kernel
theorem kd_Mx_clip_41 : decode kc_Mx_clip 41 = .ok (.iload_n 2, 1) := by decide +kernel
theorem kd_Mx_clip_42 : decode kc_Mx_clip 42 = .ok (.isub, 1) := by decide +kernel
theorem kd_Mx_clip_43 : decode kc_Mx_clip 43 = .ok (.invokestatic 30, 3) := by decide +kernel
theorem kd_Mx_clip_46 : decode kc_Mx_clip 46 = .ok (.ifCond .ne 11, 3) := by decide +kernel
theorem kd_Mx_clip_49 : decode kc_Mx_clip 49 = .ok (.new 48, 3) := by decide +kernel
theorem kd_Mx_clip_52 : decode kc_Mx_clip 52 = .ok (.dup, 1) := by decide +kernel
theorem kd_Mx_clip_53 : decode kc_Mx_clip 53 = .ok (.invokespecial 50, 3) := by decide +kernel
theorem kd_Mx_clip_56 : decode kc_Mx_clip 56 = .ok (.athrow, 1) := by decide +kernel
theorem kd_Mx_clip_57 : decode kc_Mx_clip 57 = .ok (.iload 4, 2) := by decide +kernel
theorem kd_Mx_clip_59 : decode kc_Mx_clip 59 = .ok (.aload_n 0, 1) := by decide +kernel
theorem kd_Mx_clip_60 : decode kc_Mx_clip 60 = .ok (.getfield 11, 3) := by decide +kernel
theorem kd_Mx_clip_63 : decode kc_Mx_clip 63 = .ok (.iload_n 3, 1) := by decide +kernel
theorem kd_Mx_clip_64 : decode kc_Mx_clip 64 = .ok (.aaload, 1) := by decide +kernel
theorem kd_Mx_clip_65 : decode kc_Mx_clip 65 = .ok (.getfield 51, 3) := by decide +kernel
theorem kd_Mx_clip_68 : decode kc_Mx_clip 68 = .ok (.iload 5, 2) := by decide +kernel
theorem kd_Mx_clip_70 : decode kc_Mx_clip 70 = .ok (.isub, 1) := by decide +kernel
theorem kd_Mx_clip_71 : decode kc_Mx_clip 71 = .ok (.if_icmp .le 11, 3) := by decide +kernel
theorem kd_Mx_clip_74 : decode kc_Mx_clip 74 = .ok (.new 41, 3) := by decide +kernel
theorem kd_Mx_clip_77 : decode kc_Mx_clip 77 = .ok (.dup, 1) := by decide +kernel
theorem kd_Mx_clip_78 : decode kc_Mx_clip 78 = .ok (.invokespecial 43, 3) := by decide +kernel
theorem kd_Mx_clip_81 : decode kc_Mx_clip 81 = .ok (.athrow, 1) := by decide +kernel
theorem kd_Mx_clip_82 : decode kc_Mx_clip 82 = .ok (.aload_n 0, 1) := by decide +kernel
theorem kd_Mx_clip_83 : decode kc_Mx_clip 83 = .ok (.getfield 18, 3) := by decide +kernel
theorem kd_Mx_clip_86 : decode kc_Mx_clip 86 = .ok (.invokevirtual 63, 3) := by decide +kernel
theorem kd_Mx_clip_89 : decode kc_Mx_clip 89 = .ok (.istore 6, 2) := by decide +kernel
theorem kd_Mx_clip_91 : decode kc_Mx_clip 91 = .ok (.iload 6, 2) := by decide +kernel
theorem kd_Mx_clip_93 : decode kc_Mx_clip 93 = .ok (.iconst (-1), 1) := by decide +kernel
theorem kd_Mx_clip_94 : decode kc_Mx_clip 94 = .ok (.if_icmp .eq 18, 3) := by decide +kernel
theorem kd_Mx_clip_97 : decode kc_Mx_clip 97 = .ok (.aload_n 0, 1) := by decide +kernel
theorem kd_Mx_clip_98 : decode kc_Mx_clip 98 = .ok (.getfield 18, 3) := by decide +kernel
theorem kd_Mx_clip_101 : decode kc_Mx_clip 101 = .ok (.iconst (-1), 1) := by decide +kernel
theorem kd_Mx_clip_102 : decode kc_Mx_clip 102 = .ok (.iload_n 1, 1) := by decide +kernel
theorem kd_Mx_clip_103 : decode kc_Mx_clip 103 = .ok (.iload_n 2, 1) := by decide +kernel
theorem kd_Mx_clip_104 : decode kc_Mx_clip 104 = .ok (.iload 5, 2) := by decide +kernel
theorem kd_Mx_clip_106 : decode kc_Mx_clip 106 = .ok (.invokevirtual 66, 3) := by decide +kernel
theorem kd_Mx_clip_109 : decode kc_Mx_clip 109 = .ok (.ifCond .eq 5, 3) := by decide +kernel
theorem kd_Mx_clip_112 : decode kc_Mx_clip 112 = .ok (.iconst (-1), 1) := by decide +kernel
theorem kd_Mx_clip_113 : decode kc_Mx_clip 113 = .ok (.ireturn, 1) := by decide +kernel
theorem kd_Mx_clip_114 : decode kc_Mx_clip 114 = .ok (.aload_n 0, 1) := by decide +kernel
theorem kd_Mx_clip_115 : decode kc_Mx_clip 115 = .ok (.getfield 18, 3) := by decide +kernel
theorem kd_Mx_clip_118 : decode kc_Mx_clip 118 = .ok (.getfield 70, 3) := by decide +kernel
theorem kd_Mx_clip_121 : decode kc_Mx_clip 121 = .ok (.iload 6, 2) := by decide +kernel
theorem kd_Mx_clip_123 : decode kc_Mx_clip 123 = .ok (.aaload, 1) := by decide +kernel
theorem kd_Mx_clip_124 : decode kc_Mx_clip 124 = .ok (.astore 7, 2) := by decide +kernel
theorem kd_Mx_clip_126 : decode kc_Mx_clip 126 = .ok (.aload 7, 2) := by decide +kernel
theorem kd_Mx_clip_128 : decode kc_Mx_clip 128 = .ok (.aload_n 0, 1) := by decide +kernel
theorem kd_Mx_clip_129 : decode kc_Mx_clip 129 = .ok (.getfield 11, 3) := by decide +kernel
theorem kd_Mx_clip_132 : decode kc_Mx_clip 132 = .ok (.iload_n 3, 1) := by decide +kernel
theorem kd_Mx_clip_133 : decode kc_Mx_clip 133 = .ok (.aaload, 1) := by decide +kernel
theorem kd_Mx_clip_134 : decode kc_Mx_clip 134 = .ok (.iload 4, 2) := by decide +kernel
theorem kd_Mx_clip_136 : decode kc_Mx_clip 136 = .ok (.iload 5, 2) := by decide +kernel
theorem kd_Mx_clip_138 : decode kc_Mx_clip 138 = .ok (.invokevirtual 74, 3) := by decide +kernel
theorem kd_Mx_clip_141 : decode kc_Mx_clip 141 = .ok (.aload 7, 2) := by decide +kernel
theorem kd_Mx_clip_143 : decode kc_Mx_clip 143 = .ok (.iload_n 1, 1) := by decide +kernel
theorem kd_Mx_clip_144 : decode kc_Mx_clip 144 = .ok (.iload_n 2, 1) := by decide +kernel
theorem kd_Mx_clip_145 : decode kc_Mx_clip 145 = .ok (.invokevirtual 80, 3) := by decide +kernel
theorem kd_Mx_clip_148 : decode kc_Mx_clip 148 = .ok (.aload 7, 2) := by decide +kernel
theorem kd_Mx_clip_150 : decode kc_Mx_clip 150 = .ok (.sipush 256, 3) := by decide +kernel
theorem kd_Mx_clip_153 : decode kc_Mx_clip 153 = .ok (.iconst 0, 1) := by decide +kernel
theorem kd_Mx_clip_154 : decode kc_Mx_clip 154 = .ok (.iconst 0, 1) := by decide +kernel
theorem kd_Mx_clip_155 : decode kc_Mx_clip 155 = .ok (.invokevirtual 84, 3) := by decide +kernel
theorem kd_Mx_clip_158 : decode kc_Mx_clip 158 = .ok (.iload 6, 2) := by decide +kernel
theorem kd_Mx_clip_160 : decode kc_Mx_clip 160 = .ok (.ireturn, 1) := by decide +kernel
theorem kd_Mx_drop_0 : decode kc_Mx_drop 0 = .ok (.aload_n 0, 1) := by decide +kernel
theorem kd_Mx_drop_1 : decode kc_Mx_drop 1 = .ok (.getfield 18, 3) := by decide +kernel
theorem kd_Mx_drop_4 : decode kc_Mx_drop 4 = .ok (.iload_n 1, 1) := by decide +kernel
theorem kd_Mx_drop_5 : decode kc_Mx_drop 5 = .ok (.invokevirtual 88, 3) := by decide +kernel
theorem kd_Mx_drop_8 : decode kc_Mx_drop 8 = .ok (.ifCond .ne 11, 3) := by decide +kernel
theorem kd_Mx_drop_11 : decode kc_Mx_drop 11 = .ok (.new 92, 3) := by decide +kernel
theorem kd_Mx_drop_14 : decode kc_Mx_drop 14 = .ok (.dup, 1) := by decide +kernel
theorem kd_Mx_drop_15 : decode kc_Mx_drop 15 = .ok (.invokespecial 94, 3) := by decide +kernel
theorem kd_Mx_drop_18 : decode kc_Mx_drop 18 = .ok (.athrow, 1) := by decide +kernel
theorem kd_Mx_drop_19 : decode kc_Mx_drop 19 = .ok (.aload_n 0, 1) := by decide +kernel
theorem kd_Mx_drop_20 : decode kc_Mx_drop 20 = .ok (.getfield 18, 3) := by decide +kernel
theorem kd_Mx_drop_23 : decode kc_Mx_drop 23 = .ok (.getfield 70, 3) := by decide +kernel
theorem kd_Mx_drop_26 : decode kc_Mx_drop 26 = .ok (.iload_n 1, 1) := by decide +kernel
theorem kd_Mx_drop_27 : decode kc_Mx_drop 27 = .ok (.aaload, 1) := by decide +kernel
theorem kd_Mx_drop_28 : decode kc_Mx_drop 28 = .ok (.iconst 0, 1) := by decide +kernel
theorem kd_Mx_drop_29 : decode kc_Mx_drop 29 = .ok (.putfield 95, 3) := by decide +kernel
theorem kd_Mx_drop_32 : decode kc_Mx_drop 32 = .ok (.return_, 1) := by decide +kernel
theorem kd_Mx_move_0 : decode kc_Mx_move 0 = .ok (.aload_n 0, 1) := by decide +kernel
theorem kd_Mx_move_1 : decode kc_Mx_move 1 = .ok (.getfield 18, 3) := by decide +kernel
theorem kd_Mx_move_4 : decode kc_Mx_move 4 = .ok (.iload_n 1, 1) := by decide +kernel
theorem kd_Mx_move_5 : decode kc_Mx_move 5 = .ok (.invokevirtual 88, 3) := by decide +kernel
theorem kd_Mx_move_8 : decode kc_Mx_move 8 = .ok (.ifCond .ne 11, 3) := by decide +kernel
theorem kd_Mx_move_11 : decode kc_Mx_move 11 = .ok (.new 92, 3) := by decide +kernel
theorem kd_Mx_move_14 : decode kc_Mx_move 14 = .ok (.dup, 1) := by decide +kernel
theorem kd_Mx_move_15 : decode kc_Mx_move 15 = .ok (.invokespecial 94, 3) := by decide +kernel
theorem kd_Mx_move_18 : decode kc_Mx_move 18 = .ok (.athrow, 1) := by decide +kernel
theorem kd_Mx_move_19 : decode kc_Mx_move 19 = .ok (.aload_n 0, 1) := by decide +kernel
theorem kd_Mx_move_20 : decode kc_Mx_move 20 = .ok (.getfield 18, 3) := by decide +kernel
theorem kd_Mx_move_23 : decode kc_Mx_move 23 = .ok (.getfield 70, 3) := by decide +kernel
theorem kd_Mx_move_26 : decode kc_Mx_move 26 = .ok (.iload_n 1, 1) := by decide +kernel
theorem kd_Mx_move_27 : decode kc_Mx_move 27 = .ok (.aaload, 1) := by decide +kernel
theorem kd_Mx_move_28 : decode kc_Mx_move 28 = .ok (.astore 4, 2) := by decide +kernel
theorem kd_Mx_move_30 : decode kc_Mx_move 30 = .ok (.iload_n 2, 1) := by decide +kernel
theorem kd_Mx_move_31 : decode kc_Mx_move 31 = .ok (.iconst 0, 1) := by decide +kernel
theorem kd_Mx_move_32 : decode kc_Mx_move 32 = .ok (.iconst 3, 1) := by decide +kernel
theorem kd_Mx_move_33 : decode kc_Mx_move 33 = .ok (.invokestatic 30, 3) := by decide +kernel
theorem kd_Mx_move_36 : decode kc_Mx_move 36 = .ok (.ifCond .eq 20, 3) := by decide +kernel
theorem kd_Mx_move_39 : decode kc_Mx_move 39 = .ok (.iload_n 3, 1) := by decide +kernel
theorem kd_Mx_move_40 : decode kc_Mx_move 40 = .ok (.iconst 0, 1) := by decide +kernel
theorem kd_Mx_move_41 : decode kc_Mx_move 41 = .ok (.sipush 1024, 3) := by decide +kernel
theorem kd_Mx_move_44 : decode kc_Mx_move 44 = .ok (.aload 4, 2) := by decide +kernel
theorem kd_Mx_move_46 : decode kc_Mx_move 46 = .ok (.getfield 95, 3) := by decide +kernel
theorem kd_Mx_move_49 : decode kc_Mx_move 49 = .ok (.isub, 1) := by decide +kernel
theorem kd_Mx_move_50 : decode kc_Mx_move 50 = .ok (.invokestatic 30, 3) := by decide +kernel
theorem kd_Mx_move_53 : decode kc_Mx_move 53 = .ok (.ifCond .ne 11, 3) := by decide +kernel
theorem kd_Mx_move_56 : decode kc_Mx_move 56 = .ok (.new 48, 3) := by decide +kernel
theorem kd_Mx_move_59 : decode kc_Mx_move 59 = .ok (.dup, 1) := by decide +kernel
theorem kd_Mx_move_60 : decode kc_Mx_move 60 = .ok (.invokespecial 50, 3) := by decide +kernel
theorem kd_Mx_move_63 : decode kc_Mx_move 63 = .ok (.athrow, 1) := by decide +kernel
theorem kd_Mx_move_64 : decode kc_Mx_move 64 = .ok (.aload_n 0, 1) := by decide +kernel
theorem kd_Mx_move_65 : decode kc_Mx_move 65 = .ok (.getfield 18, 3) := by decide +kernel
theorem kd_Mx_move_68 : decode kc_Mx_move 68 = .ok (.iload_n 1, 1) := by decide +kernel
theorem kd_Mx_move_69 : decode kc_Mx_move 69 = .ok (.iload_n 2, 1) := by decide +kernel
theorem kd_Mx_move_70 : decode kc_Mx_move 70 = .ok (.iload_n 3, 1) := by decide +kernel
theorem kd_Mx_move_71 : decode kc_Mx_move 71 = .ok (.aload 4, 2) := by decide +kernel
theorem kd_Mx_move_73 : decode kc_Mx_move 73 = .ok (.getfield 95, 3) := by decide +kernel
theorem kd_Mx_move_76 : decode kc_Mx_move 76 = .ok (.invokevirtual 66, 3) := by decide +kernel
theorem kd_Mx_move_79 : decode kc_Mx_move 79 = .ok (.ifCond .eq 5, 3) := by decide +kernel
theorem kd_Mx_move_82 : decode kc_Mx_move 82 = .ok (.iconst 0, 1) := by decide +kernel
theorem kd_Mx_move_83 : decode kc_Mx_move 83 = .ok (.ireturn, 1) := by decide +kernel
theorem kd_Mx_move_84 : decode kc_Mx_move 84 = .ok (.aload 4, 2) := by decide +kernel
theorem kd_Mx_move_86 : decode kc_Mx_move 86 = .ok (.iload_n 2, 1) := by decide +kernel
theorem kd_Mx_move_87 : decode kc_Mx_move 87 = .ok (.iload_n 3, 1) := by decide +kernel
theorem kd_Mx_move_88 : decode kc_Mx_move 88 = .ok (.invokevirtual 80, 3) := by decide +kernel
theorem kd_Mx_move_91 : decode kc_Mx_move 91 = .ok (.iconst 1, 1) := by decide +kernel
theorem kd_Mx_move_92 : decode kc_Mx_move 92 = .ok (.ireturn, 1) := by decide +kernel
theorem kd_Mx_split_0 : decode kc_Mx_split 0 = .ok (.aload_n 0, 1) := by decide +kernel
theorem kd_Mx_split_1 : decode kc_Mx_split 1 = .ok (.getfield 18, 3) := by decide +kernel
theorem kd_Mx_split_4 : decode kc_Mx_split 4 = .ok (.iload_n 1, 1) := by decide +kernel
theorem kd_Mx_split_5 : decode kc_Mx_split 5 = .ok (.invokevirtual 88, 3) := by decide +kernel
theorem kd_Mx_split_8 : decode kc_Mx_split 8 = .ok (.ifCond .ne 11, 3) := by decide +kernel
theorem kd_Mx_split_11 : decode kc_Mx_split 11 = .ok (.new 92, 3) := by decide +kernel
theorem kd_Mx_split_14 : decode kc_Mx_split 14 = .ok (.dup, 1) := by decide +kernel
theorem kd_Mx_split_15 : decode kc_Mx_split 15 = .ok (.invokespecial 94, 3) := by decide +kernel
theorem kd_Mx_split_18 : decode kc_Mx_split 18 = .ok (.athrow, 1) := by decide +kernel
theorem kd_Mx_split_19 : decode kc_Mx_split 19 = .ok (.aload_n 0, 1) := by decide +kernel
theorem kd_Mx_split_20 : decode kc_Mx_split 20 = .ok (.getfield 18, 3) := by decide +kernel
theorem kd_Mx_split_23 : decode kc_Mx_split 23 = .ok (.getfield 70, 3) := by decide +kernel
theorem kd_Mx_split_26 : decode kc_Mx_split 26 = .ok (.iload_n 1, 1) := by decide +kernel
theorem kd_Mx_split_27 : decode kc_Mx_split 27 = .ok (.aaload, 1) := by decide +kernel
theorem kd_Mx_split_28 : decode kc_Mx_split 28 = .ok (.astore_n 3, 1) := by decide +kernel
theorem kd_Mx_split_29 : decode kc_Mx_split 29 = .ok (.iload_n 2, 1) := by decide +kernel
theorem kd_Mx_split_30 : decode kc_Mx_split 30 = .ok (.iconst 1, 1) := by decide +kernel
theorem kd_Mx_split_31 : decode kc_Mx_split 31 = .ok (.aload_n 3, 1) := by decide +kernel
theorem kd_Mx_split_32 : decode kc_Mx_split 32 = .ok (.getfield 95, 3) := by decide +kernel
theorem kd_Mx_split_35 : decode kc_Mx_split 35 = .ok (.iconst 1, 1) := by decide +kernel
theorem kd_Mx_split_36 : decode kc_Mx_split 36 = .ok (.isub, 1) := by decide +kernel
theorem kd_Mx_split_37 : decode kc_Mx_split 37 = .ok (.invokestatic 30, 3) := by decide +kernel
theorem kd_Mx_split_40 : decode kc_Mx_split 40 = .ok (.ifCond .ne 11, 3) := by decide +kernel
theorem kd_Mx_split_43 : decode kc_Mx_split 43 = .ok (.new 48, 3) := by decide +kernel
theorem kd_Mx_split_46 : decode kc_Mx_split 46 = .ok (.dup, 1) := by decide +kernel
theorem kd_Mx_split_47 : decode kc_Mx_split 47 = .ok (.invokespecial 50, 3) := by decide +kernel
theorem kd_Mx_split_50 : decode kc_Mx_split 50 = .ok (.athrow, 1) := by decide +kernel
theorem kd_Mx_split_51 : decode kc_Mx_split 51 = .ok (.aload_n 0, 1) := by decide +kernel
theorem kd_Mx_split_52 : decode kc_Mx_split 52 = .ok (.getfield 18, 3) := by decide +kernel
theorem kd_Mx_split_55 : decode kc_Mx_split 55 = .ok (.invokevirtual 63, 3) := by decide +kernel
theorem kd_Mx_split_58 : decode kc_Mx_split 58 = .ok (.istore 4, 2) := by decide +kernel
theorem kd_Mx_split_60 : decode kc_Mx_split 60 = .ok (.iload 4, 2) := by decide +kernel
theorem kd_Mx_split_62 : decode kc_Mx_split 62 = .ok (.iconst (-1), 1) := by decide +kernel
theorem kd_Mx_split_63 : decode kc_Mx_split 63 = .ok (.if_icmp .eq 24, 3) := by decide +kernel
theorem kd_Mx_split_66 : decode kc_Mx_split 66 = .ok (.iload_n 2, 1) := by decide +kernel
theorem kd_Mx_split_67 : decode kc_Mx_split 67 = .ok (.aload_n 3, 1) := by decide +kernel
theorem kd_Mx_split_68 : decode kc_Mx_split 68 = .ok (.getfield 96, 3) := by decide +kernel
theorem kd_Mx_split_71 : decode kc_Mx_split 71 = .ok (.if_icmp .lt 16, 3) := by decide +kernel
theorem kd_Mx_split_74 : decode kc_Mx_split 74 = .ok (.aload_n 3, 1) := by decide +kernel
theorem kd_Mx_split_75 : decode kc_Mx_split 75 = .ok (.getfield 95, 3) := by decide +kernel
theorem kd_Mx_split_78 : decode kc_Mx_split 78 = .ok (.iload_n 2, 1) := by decide +kernel
theorem kd_Mx_split_79 : decode kc_Mx_split 79 = .ok (.isub, 1) := by decide +kernel
theorem kd_Mx_split_80 : decode kc_Mx_split 80 = .ok (.aload_n 3, 1) := by decide +kernel
theorem kd_Mx_split_81 : decode kc_Mx_split 81 = .ok (.getfield 99, 3) := by decide +kernel
theorem kd_Mx_split_84 : decode kc_Mx_split 84 = .ok (.if_icmp .ge 5, 3) := by decide +kernel
theorem kd_Mx_split_87 : decode kc_Mx_split 87 = .ok (.iconst (-1), 1) := by decide +kernel
theorem kd_Mx_split_88 : decode kc_Mx_split 88 = .ok (.ireturn, 1) := by decide +kernel
theorem kd_Mx_split_89 : decode kc_Mx_split 89 = .ok (.aload_n 3, 1) := by decide +kernel
theorem kd_Mx_split_90 : decode kc_Mx_split 90 = .ok (.aload_n 0, 1) := by decide +kernel
theorem kd_Mx_split_91 : decode kc_Mx_split 91 = .ok (.getfield 18, 3) := by decide +kernel
theorem kd_Mx_split_94 : decode kc_Mx_split 94 = .ok (.getfield 70, 3) := by decide +kernel
theorem kd_Mx_split_97 : decode kc_Mx_split 97 = .ok (.iload 4, 2) := by decide +kernel
theorem kd_Mx_split_99 : decode kc_Mx_split 99 = .ok (.aaload, 1) := by decide +kernel
theorem kd_Mx_split_100 : decode kc_Mx_split 100 = .ok (.iload_n 2, 1) := by decide +kernel
theorem kd_Mx_split_101 : decode kc_Mx_split 101 = .ok (.invokevirtual 102, 3) := by decide +kernel
theorem kd_Mx_split_104 : decode kc_Mx_split 104 = .ok (.iload 4, 2) := by decide +kernel
theorem kd_Mx_split_106 : decode kc_Mx_split 106 = .ok (.ireturn, 1) := by decide +kernel
theorem kd_Mx_shape_0 : decode kc_Mx_shape 0 = .ok (.aload_n 0, 1) := by decide +kernel
theorem kd_Mx_shape_1 : decode kc_Mx_shape 1 = .ok (.getfield 18, 3) := by decide +kernel
theorem kd_Mx_shape_4 : decode kc_Mx_shape 4 = .ok (.iload_n 1, 1) := by decide +kernel
theorem kd_Mx_shape_5 : decode kc_Mx_shape 5 = .ok (.invokevirtual 88, 3) := by decide +kernel
theorem kd_Mx_shape_8 : decode kc_Mx_shape 8 = .ok (.ifCond .ne 11, 3) := by decide +kernel
theorem kd_Mx_shape_11 : decode kc_Mx_shape 11 = .ok (.new 92, 3) := by decide +kernel
theorem kd_Mx_shape_14 : decode kc_Mx_shape 14 = .ok (.dup, 1) := by decide +kernel
theorem kd_Mx_shape_15 : decode kc_Mx_shape 15 = .ok (.invokespecial 94, 3) := by decide +kernel
theorem kd_Mx_shape_18 : decode kc_Mx_shape 18 = .ok (.athrow, 1) := by decide +kernel
theorem kd_Mx_shape_19 : decode kc_Mx_shape 19 = .ok (.aload_n 0, 1) := by decide +kernel
theorem kd_Mx_shape_20 : decode kc_Mx_shape 20 = .ok (.getfield 18, 3) := by decide +kernel
theorem kd_Mx_shape_23 : decode kc_Mx_shape 23 = .ok (.getfield 70, 3) := by decide +kernel
theorem kd_Mx_shape_26 : decode kc_Mx_shape 26 = .ok (.iload_n 1, 1) := by decide +kernel
theorem kd_Mx_shape_27 : decode kc_Mx_shape 27 = .ok (.aaload, 1) := by decide +kernel
theorem kd_Mx_shape_28 : decode kc_Mx_shape 28 = .ok (.astore 5, 2) := by decide +kernel
theorem kd_Mx_shape_30 : decode kc_Mx_shape 30 = .ok (.iload_n 2, 1) := by decide +kernel
theorem kd_Mx_shape_31 : decode kc_Mx_shape 31 = .ok (.invokestatic 106, 3) := by decide +kernel
theorem kd_Mx_shape_34 : decode kc_Mx_shape 34 = .ok (.ifCond .eq 24, 3) := by decide +kernel
theorem kd_Mx_shape_37 : decode kc_Mx_shape 37 = .ok (.iload_n 3, 1) := by decide +kernel
theorem kd_Mx_shape_38 : decode kc_Mx_shape 38 = .ok (.ifCond .lt 20, 3) := by decide +kernel
theorem kd_Mx_shape_41 : decode kc_Mx_shape 41 = .ok (.iload 4, 2) := by decide +kernel
theorem kd_Mx_shape_43 : decode kc_Mx_shape 43 = .ok (.ifCond .lt 15, 3) := by decide +kernel
theorem kd_Mx_shape_46 : decode kc_Mx_shape 46 = .ok (.iload_n 3, 1) := by decide +kernel
theorem kd_Mx_shape_47 : decode kc_Mx_shape 47 = .ok (.aload 5, 2) := by decide +kernel
theorem kd_Mx_shape_49 : decode kc_Mx_shape 49 = .ok (.getfield 95, 3) := by decide +kernel
theorem kd_Mx_shape_52 : decode kc_Mx_shape 52 = .ok (.iload 4, 2) := by decide +kernel
theorem kd_Mx_shape_54 : decode kc_Mx_shape 54 = .ok (.isub, 1) := by decide +kernel
theorem kd_Mx_shape_55 : decode kc_Mx_shape 55 = .ok (.if_icmp .le 11, 3) := by decide +kernel
theorem kd_Mx_shape_58 : decode kc_Mx_shape 58 = .ok (.new 48, 3) := by decide +kernel
theorem kd_Mx_shape_61 : decode kc_Mx_shape 61 = .ok (.dup, 1) := by decide +kernel
theorem kd_Mx_shape_62 : decode kc_Mx_shape 62 = .ok (.invokespecial 50, 3) := by decide +kernel
theorem kd_Mx_shape_65 : decode kc_Mx_shape 65 = .ok (.athrow, 1) := by decide +kernel
theorem kd_Mx_shape_66 : decode kc_Mx_shape 66 = .ok (.aload 5, 2) := by decide +kernel
theorem kd_Mx_shape_68 : decode kc_Mx_shape 68 = .ok (.iload_n 2, 1) := by decide +kernel
theorem kd_Mx_shape_69 : decode kc_Mx_shape 69 = .ok (.iload_n 3, 1) := by decide +kernel
theorem kd_Mx_shape_70 : decode kc_Mx_shape 70 = .ok (.iload 4, 2) := by decide +kernel
theorem kd_Mx_shape_72 : decode kc_Mx_shape 72 = .ok (.invokevirtual 84, 3) := by decide +kernel
theorem kd_Mx_shape_75 : decode kc_Mx_shape 75 = .ok (.return_, 1) := by decide +kernel
theorem kd_Mx_route_0 : decode kc_Mx_route 0 = .ok (.iload_n 1, 1) := by decide +kernel
theorem kd_Mx_route_1 : decode kc_Mx_route 1 = .ok (.iconst 0, 1) := by decide +kernel
theorem kd_Mx_route_2 : decode kc_Mx_route 2 = .ok (.bipush 6, 2) := by decide +kernel
theorem kd_Mx_route_4 : decode kc_Mx_route 4 = .ok (.invokestatic 30, 3) := by decide +kernel
theorem kd_Mx_route_7 : decode kc_Mx_route 7 = .ok (.ifCond .eq 13, 3) := by decide +kernel
theorem kd_Mx_route_10 : decode kc_Mx_route 10 = .ok (.iload_n 2, 1) := by decide +kernel
theorem kd_Mx_route_11 : decode kc_Mx_route 11 = .ok (.iconst 4, 1) := by decide +kernel
theorem kd_Mx_route_12 : decode kc_Mx_route 12 = .ok (.bipush 7, 2) := by decide +kernel
theorem kd_Mx_route_14 : decode kc_Mx_route 14 = .ok (.invokestatic 30, 3) := by decide +kernel
theorem kd_Mx_route_17 : decode kc_Mx_route 17 = .ok (.ifCond .ne 11, 3) := by decide +kernel
theorem kd_Mx_route_20 : decode kc_Mx_route 20 = .ok (.new 48, 3) := by decide +kernel
theorem kd_Mx_route_23 : decode kc_Mx_route 23 = .ok (.dup, 1) := by decide +kernel
theorem kd_Mx_route_24 : decode kc_Mx_route 24 = .ok (.invokespecial 50, 3) := by decide +kernel
theorem kd_Mx_route_27 : decode kc_Mx_route 27 = .ok (.athrow, 1) := by decide +kernel
theorem kd_Mx_route_28 : decode kc_Mx_route 28 = .ok (.aload_n 0, 1) := by decide +kernel
theorem kd_Mx_route_29 : decode kc_Mx_route 29 = .ok (.getfield 25, 3) := by decide +kernel
theorem kd_Mx_route_32 : decode kc_Mx_route 32 = .ok (.iload_n 1, 1) := by decide +kernel
theorem kd_Mx_route_33 : decode kc_Mx_route 33 = .ok (.iload_n 2, 1) := by decide +kernel
theorem kd_Mx_route_34 : decode kc_Mx_route 34 = .ok (.invokevirtual 109, 3) := by decide +kernel
theorem kd_Mx_route_37 : decode kc_Mx_route 37 = .ok (.ifCond .ne 5, 3) := by decide +kernel
theorem kd_Mx_route_40 : decode kc_Mx_route 40 = .ok (.iconst 0, 1) := by decide +kernel
theorem kd_Mx_route_41 : decode kc_Mx_route 41 = .ok (.ireturn, 1) := by decide +kernel
theorem kd_Mx_route_42 : decode kc_Mx_route 42 = .ok (.aload_n 0, 1) := by decide +kernel
theorem kd_Mx_route_43 : decode kc_Mx_route 43 = .ok (.getfield 25, 3) := by decide +kernel
theorem kd_Mx_route_46 : decode kc_Mx_route 46 = .ok (.getfield 113, 3) := by decide +kernel
theorem kd_Mx_route_49 : decode kc_Mx_route 49 = .ok (.iload_n 1, 1) := by decide +kernel
theorem kd_Mx_route_50 : decode kc_Mx_route 50 = .ok (.aaload, 1) := by decide +kernel
theorem kd_Mx_route_51 : decode kc_Mx_route 51 = .ok (.iload_n 2, 1) := by decide +kernel
theorem kd_Mx_route_52 : decode kc_Mx_route 52 = .ok (.putfield 117, 3) := by decide +kernel
theorem kd_Mx_route_55 : decode kc_Mx_route 55 = .ok (.iconst 1, 1) := by decide +kernel
theorem kd_Mx_route_56 : decode kc_Mx_route 56 = .ok (.ireturn, 1) := by decide +kernel
theorem kd_Mx_send_0 : decode kc_Mx_send 0 = .ok (.iload_n 1, 1) := by decide +kernel
theorem kd_Mx_send_1 : decode kc_Mx_send 1 = .ok (.iconst 0, 1) := by decide +kernel
theorem kd_Mx_send_2 : decode kc_Mx_send 2 = .ok (.bipush 6, 2) := by decide +kernel
theorem kd_Mx_send_4 : decode kc_Mx_send 4 = .ok (.invokestatic 30, 3) := by decide +kernel
theorem kd_Mx_send_7 : decode kc_Mx_send 7 = .ok (.ifCond .eq 20, 3) := by decide +kernel
theorem kd_Mx_send_10 : decode kc_Mx_send 10 = .ok (.iload_n 2, 1) := by decide +kernel
theorem kd_Mx_send_11 : decode kc_Mx_send 11 = .ok (.iconst 4, 1) := by decide +kernel
theorem kd_Mx_send_12 : decode kc_Mx_send 12 = .ok (.bipush 6, 2) := by decide +kernel
theorem kd_Mx_send_14 : decode kc_Mx_send 14 = .ok (.invokestatic 30, 3) := by decide +kernel
theorem kd_Mx_send_17 : decode kc_Mx_send 17 = .ok (.ifCond .eq 10, 3) := by decide +kernel
theorem kd_Mx_send_20 : decode kc_Mx_send 20 = .ok (.iload_n 3, 1) := by decide +kernel
theorem kd_Mx_send_21 : decode kc_Mx_send 21 = .ok (.invokestatic 106, 3) := by decide +kernel
theorem kd_Mx_send_24 : decode kc_Mx_send 24 = .ok (.ifCond .ne 11, 3) := by decide +kernel
theorem kd_Mx_send_27 : decode kc_Mx_send 27 = .ok (.new 48, 3) := by decide +kernel
theorem kd_Mx_send_30 : decode kc_Mx_send 30 = .ok (.dup, 1) := by decide +kernel
theorem kd_Mx_send_31 : decode kc_Mx_send 31 = .ok (.invokespecial 50, 3) := by decide +kernel
theorem kd_Mx_send_34 : decode kc_Mx_send 34 = .ok (.athrow, 1) := by decide +kernel
theorem kd_Mx_send_35 : decode kc_Mx_send 35 = .ok (.iload_n 3, 1) := by decide +kernel
theorem kd_Mx_send_36 : decode kc_Mx_send 36 = .ok (.ifCond .le 17, 3) := by decide +kernel
theorem kd_Mx_send_39 : decode kc_Mx_send 39 = .ok (.aload_n 0, 1) := by decide +kernel
theorem kd_Mx_send_40 : decode kc_Mx_send 40 = .ok (.getfield 25, 3) := by decide +kernel
theorem kd_Mx_send_43 : decode kc_Mx_send 43 = .ok (.iload_n 1, 1) := by decide +kernel
theorem kd_Mx_send_44 : decode kc_Mx_send 44 = .ok (.iload_n 2, 1) := by decide +kernel
theorem kd_Mx_send_45 : decode kc_Mx_send 45 = .ok (.invokevirtual 109, 3) := by decide +kernel
theorem kd_Mx_send_48 : decode kc_Mx_send 48 = .ok (.ifCond .ne 5, 3) := by decide +kernel
theorem kd_Mx_send_51 : decode kc_Mx_send 51 = .ok (.iconst 0, 1) := by decide +kernel
theorem kd_Mx_send_52 : decode kc_Mx_send 52 = .ok (.ireturn, 1) := by decide +kernel
theorem kd_Mx_send_53 : decode kc_Mx_send 53 = .ok (.aload_n 0, 1) := by decide +kernel
theorem kd_Mx_send_54 : decode kc_Mx_send 54 = .ok (.getfield 25, 3) := by decide +kernel
theorem kd_Mx_send_57 : decode kc_Mx_send 57 = .ok (.getfield 113, 3) := by decide +kernel
theorem kd_Mx_send_60 : decode kc_Mx_send 60 = .ok (.iload_n 1, 1) := by decide +kernel
theorem kd_Mx_send_61 : decode kc_Mx_send 61 = .ok (.aaload, 1) := by decide +kernel
theorem kd_Mx_send_62 : decode kc_Mx_send 62 = .ok (.getfield 122, 3) := by decide +kernel
theorem kd_Mx_send_65 : decode kc_Mx_send 65 = .ok (.iload_n 2, 1) := by decide +kernel
theorem kd_Mx_send_66 : decode kc_Mx_send 66 = .ok (.iload_n 3, 1) := by decide +kernel
theorem kd_Mx_send_67 : decode kc_Mx_send 67 = .ok (.iastore, 1) := by decide +kernel
theorem kd_Mx_send_68 : decode kc_Mx_send 68 = .ok (.iconst 1, 1) := by decide +kernel
theorem kd_Mx_send_69 : decode kc_Mx_send 69 = .ok (.ireturn, 1) := by decide +kernel
theorem kd_Mx_effect_0 : decode kc_Mx_effect 0 = .ok (.iload_n 1, 1) := by decide +kernel
theorem kd_Mx_effect_1 : decode kc_Mx_effect 1 = .ok (.invokestatic 125, 3) := by decide +kernel
theorem kd_Mx_effect_4 : decode kc_Mx_effect 4 = .ok (.ifCond .eq 23, 3) := by decide +kernel
theorem kd_Mx_effect_7 : decode kc_Mx_effect 7 = .ok (.iload_n 2, 1) := by decide +kernel
theorem kd_Mx_effect_8 : decode kc_Mx_effect 8 = .ok (.iconst 0, 1) := by decide +kernel
theorem kd_Mx_effect_9 : decode kc_Mx_effect 9 = .ok (.iconst 2, 1) := by decide +kernel
theorem kd_Mx_effect_10 : decode kc_Mx_effect 10 = .ok (.invokestatic 30, 3) := by decide +kernel
theorem kd_Mx_effect_13 : decode kc_Mx_effect 13 = .ok (.ifCond .eq 14, 3) := by decide +kernel
theorem kd_Mx_effect_16 : decode kc_Mx_effect 16 = .ok (.iload_n 3, 1) := by decide +kernel
theorem kd_Mx_effect_17 : decode kc_Mx_effect 17 = .ok (.iload 4, 2) := by decide +kernel
theorem kd_Mx_effect_19 : decode kc_Mx_effect 19 = .ok (.iload 5, 2) := by decide +kernel
theorem kd_Mx_effect_21 : decode kc_Mx_effect 21 = .ok (.invokestatic 128, 3) := by decide +kernel
theorem kd_Mx_effect_24 : decode kc_Mx_effect 24 = .ok (.ifCond .ne 11, 3) := by decide +kernel
theorem kd_Mx_effect_27 : decode kc_Mx_effect 27 = .ok (.new 48, 3) := by decide +kernel
theorem kd_Mx_effect_30 : decode kc_Mx_effect 30 = .ok (.dup, 1) := by decide +kernel
theorem kd_Mx_effect_31 : decode kc_Mx_effect 31 = .ok (.invokespecial 50, 3) := by decide +kernel
theorem kd_Mx_effect_34 : decode kc_Mx_effect 34 = .ok (.athrow, 1) := by decide +kernel
theorem kd_Mx_effect_35 : decode kc_Mx_effect 35 = .ok (.aload_n 0, 1) := by decide +kernel
theorem kd_Mx_effect_36 : decode kc_Mx_effect 36 = .ok (.getfield 25, 3) := by decide +kernel
theorem kd_Mx_effect_39 : decode kc_Mx_effect 39 = .ok (.getfield 113, 3) := by decide +kernel
theorem kd_Mx_effect_42 : decode kc_Mx_effect 42 = .ok (.iload_n 1, 1) := by decide +kernel
theorem kd_Mx_effect_43 : decode kc_Mx_effect 43 = .ok (.aaload, 1) := by decide +kernel
theorem kd_Mx_effect_44 : decode kc_Mx_effect 44 = .ok (.getfield 133, 3) := by decide +kernel
theorem kd_Mx_effect_47 : decode kc_Mx_effect 47 = .ok (.iload_n 2, 1) := by decide +kernel
theorem kd_Mx_effect_48 : decode kc_Mx_effect 48 = .ok (.aaload, 1) := by decide +kernel
theorem kd_Mx_effect_49 : decode kc_Mx_effect 49 = .ok (.iload_n 3, 1) := by decide +kernel
theorem kd_Mx_effect_50 : decode kc_Mx_effect 50 = .ok (.iload 4, 2) := by decide +kernel
theorem kd_Mx_effect_52 : decode kc_Mx_effect 52 = .ok (.iload 5, 2) := by decide +kernel
theorem kd_Mx_effect_54 : decode kc_Mx_effect 54 = .ok (.invokevirtual 137, 3) := by decide +kernel
theorem kd_Mx_effect_57 : decode kc_Mx_effect 57 = .ok (.return_, 1) := by decide +kernel
theorem kd_Mx_fader_0 : decode kc_Mx_fader 0 = .ok (.iload_n 1, 1) := by decide +kernel
theorem kd_Mx_fader_1 : decode kc_Mx_fader 1 = .ok (.invokestatic 125, 3) := by decide +kernel
theorem kd_Mx_fader_4 : decode kc_Mx_fader 4 = .ok (.ifCond .eq 10, 3) := by decide +kernel
theorem kd_Mx_fader_7 : decode kc_Mx_fader 7 = .ok (.iload_n 2, 1) := by decide +kernel
theorem kd_Mx_fader_8 : decode kc_Mx_fader 8 = .ok (.invokestatic 106, 3) := by decide +kernel
theorem kd_Mx_fader_11 : decode kc_Mx_fader 11 = .ok (.ifCond .ne 11, 3) := by decide +kernel
theorem kd_Mx_fader_14 : decode kc_Mx_fader 14 = .ok (.new 48, 3) := by decide +kernel
theorem kd_Mx_fader_17 : decode kc_Mx_fader 17 = .ok (.dup, 1) := by decide +kernel
theorem kd_Mx_fader_18 : decode kc_Mx_fader 18 = .ok (.invokespecial 50, 3) := by decide +kernel
theorem kd_Mx_fader_21 : decode kc_Mx_fader 21 = .ok (.athrow, 1) := by decide +kernel
theorem kd_Mx_fader_22 : decode kc_Mx_fader 22 = .ok (.aload_n 0, 1) := by decide +kernel
theorem kd_Mx_fader_23 : decode kc_Mx_fader 23 = .ok (.getfield 25, 3) := by decide +kernel
theorem kd_Mx_fader_26 : decode kc_Mx_fader 26 = .ok (.getfield 113, 3) := by decide +kernel
theorem kd_Mx_fader_29 : decode kc_Mx_fader 29 = .ok (.iload_n 1, 1) := by decide +kernel
theorem kd_Mx_fader_30 : decode kc_Mx_fader 30 = .ok (.aaload, 1) := by decide +kernel
theorem kd_Mx_fader_31 : decode kc_Mx_fader 31 = .ok (.getfield 140, 3) := by decide +kernel
theorem kd_Mx_fader_34 : decode kc_Mx_fader 34 = .ok (.iload_n 2, 1) := by decide +kernel
theorem kd_Mx_fader_35 : decode kc_Mx_fader 35 = .ok (.putfield 144, 3) := by decide +kernel
theorem kd_Mx_fader_38 : decode kc_Mx_fader 38 = .ok (.return_, 1) := by decide +kernel
theorem kd_Mx_point_0 : decode kc_Mx_point 0 = .ok (.iload_n 1, 1) := by decide +kernel
theorem kd_Mx_point_1 : decode kc_Mx_point 1 = .ok (.invokestatic 125, 3) := by decide +kernel
theorem kd_Mx_point_4 : decode kc_Mx_point 4 = .ok (.ifCond .eq 21, 3) := by decide +kernel
theorem kd_Mx_point_7 : decode kc_Mx_point 7 = .ok (.iload_n 2, 1) := by decide +kernel
theorem kd_Mx_point_8 : decode kc_Mx_point 8 = .ok (.iconst 0, 1) := by decide +kernel
theorem kd_Mx_point_9 : decode kc_Mx_point 9 = .ok (.sipush 1023, 3) := by decide +kernel
theorem kd_Mx_point_12 : decode kc_Mx_point 12 = .ok (.invokestatic 30, 3) := by decide +kernel
theorem kd_Mx_point_15 : decode kc_Mx_point 15 = .ok (.ifCond .eq 10, 3) := by decide +kernel
theorem kd_Mx_point_18 : decode kc_Mx_point 18 = .ok (.iload_n 3, 1) := by decide +kernel
theorem kd_Mx_point_19 : decode kc_Mx_point 19 = .ok (.invokestatic 106, 3) := by decide +kernel
theorem kd_Mx_point_22 : decode kc_Mx_point 22 = .ok (.ifCond .ne 11, 3) := by decide +kernel
theorem kd_Mx_point_25 : decode kc_Mx_point 25 = .ok (.new 48, 3) := by decide +kernel
theorem kd_Mx_point_28 : decode kc_Mx_point 28 = .ok (.dup, 1) := by decide +kernel
theorem kd_Mx_point_29 : decode kc_Mx_point 29 = .ok (.invokespecial 50, 3) := by decide +kernel
theorem kd_Mx_point_32 : decode kc_Mx_point 32 = .ok (.athrow, 1) := by decide +kernel
theorem kd_Mx_point_33 : decode kc_Mx_point 33 = .ok (.aload_n 0, 1) := by decide +kernel
theorem kd_Mx_point_34 : decode kc_Mx_point 34 = .ok (.getfield 25, 3) := by decide +kernel
theorem kd_Mx_point_37 : decode kc_Mx_point 37 = .ok (.getfield 113, 3) := by decide +kernel
theorem kd_Mx_point_40 : decode kc_Mx_point 40 = .ok (.iload_n 1, 1) := by decide +kernel
theorem kd_Mx_point_41 : decode kc_Mx_point 41 = .ok (.aaload, 1) := by decide +kernel
theorem kd_Mx_point_42 : decode kc_Mx_point 42 = .ok (.getfield 140, 3) := by decide +kernel
theorem kd_Mx_point_45 : decode kc_Mx_point 45 = .ok (.iload_n 2, 1) := by decide +kernel
theorem kd_Mx_point_46 : decode kc_Mx_point 46 = .ok (.iload_n 3, 1) := by decide +kernel
theorem kd_Mx_point_47 : decode kc_Mx_point 47 = .ok (.iload 4, 2) := by decide +kernel
theorem kd_Mx_point_49 : decode kc_Mx_point 49 = .ok (.invokevirtual 149, 3) := by decide +kernel
theorem kd_Mx_point_52 : decode kc_Mx_point 52 = .ok (.ireturn, 1) := by decide +kernel
theorem kd_Mx_turn_0 : decode kc_Mx_turn 0 = .ok (.iload_n 1, 1) := by decide +kernel
theorem kd_Mx_turn_1 : decode kc_Mx_turn 1 = .ok (.invokestatic 125, 3) := by decide +kernel
theorem kd_Mx_turn_4 : decode kc_Mx_turn 4 = .ok (.ifCond .eq 12, 3) := by decide +kernel
theorem kd_Mx_turn_7 : decode kc_Mx_turn 7 = .ok (.iload_n 2, 1) := by decide +kernel
theorem kd_Mx_turn_8 : decode kc_Mx_turn 8 = .ok (.iconst 0, 1) := by decide +kernel
theorem kd_Mx_turn_9 : decode kc_Mx_turn 9 = .ok (.iconst 4, 1) := by decide +kernel
theorem kd_Mx_turn_10 : decode kc_Mx_turn 10 = .ok (.invokestatic 30, 3) := by decide +kernel
theorem kd_Mx_turn_13 : decode kc_Mx_turn 13 = .ok (.ifCond .ne 11, 3) := by decide +kernel
theorem kd_Mx_turn_16 : decode kc_Mx_turn 16 = .ok (.new 48, 3) := by decide +kernel
theorem kd_Mx_turn_19 : decode kc_Mx_turn 19 = .ok (.dup, 1) := by decide +kernel
theorem kd_Mx_turn_20 : decode kc_Mx_turn 20 = .ok (.invokespecial 50, 3) := by decide +kernel
theorem kd_Mx_turn_23 : decode kc_Mx_turn 23 = .ok (.athrow, 1) := by decide +kernel
theorem kd_Mx_turn_24 : decode kc_Mx_turn 24 = .ok (.aload_n 0, 1) := by decide +kernel
theorem kd_Mx_turn_25 : decode kc_Mx_turn 25 = .ok (.getfield 25, 3) := by decide +kernel
theorem kd_Mx_turn_28 : decode kc_Mx_turn 28 = .ok (.getfield 113, 3) := by decide +kernel
theorem kd_Mx_turn_31 : decode kc_Mx_turn 31 = .ok (.iload_n 1, 1) := by decide +kernel
theorem kd_Mx_turn_32 : decode kc_Mx_turn 32 = .ok (.aaload, 1) := by decide +kernel
theorem kd_Mx_turn_33 : decode kc_Mx_turn 33 = .ok (.astore_n 3, 1) := by decide +kernel
theorem kd_Mx_turn_34 : decode kc_Mx_turn 34 = .ok (.iload_n 2, 1) := by decide +kernel
theorem kd_Mx_turn_35 : decode kc_Mx_turn 35 = .ok (.ifCond .ne 11, 3) := by decide +kernel
theorem kd_Mx_turn_38 : decode kc_Mx_turn 38 = .ok (.aload_n 3, 1) := by decide +kernel
theorem kd_Mx_turn_39 : decode kc_Mx_turn 39 = .ok (.getfield 140, 3) := by decide +kernel
theorem kd_Mx_turn_42 : decode kc_Mx_turn 42 = .ok (.invokevirtual 153, 3) := by decide +kernel
theorem kd_Mx_turn_45 : decode kc_Mx_turn 45 = .ok (.ireturn, 1) := by decide +kernel
theorem kd_Mx_turn_46 : decode kc_Mx_turn 46 = .ok (.iload_n 2, 1) := by decide +kernel
theorem kd_Mx_turn_47 : decode kc_Mx_turn 47 = .ok (.iconst 1, 1) := by decide +kernel
theorem kd_Mx_turn_48 : decode kc_Mx_turn 48 = .ok (.if_icmp .eq 8, 3) := by decide +kernel
theorem kd_Mx_turn_51 : decode kc_Mx_turn 51 = .ok (.iload_n 2, 1) := by decide +kernel
theorem kd_Mx_turn_52 : decode kc_Mx_turn 52 = .ok (.iconst 3, 1) := by decide +kernel
theorem kd_Mx_turn_53 : decode kc_Mx_turn 53 = .ok (.if_icmp .ne 7, 3) := by decide +kernel
theorem kd_Mx_turn_56 : decode kc_Mx_turn 56 = .ok (.iconst 1, 1) := by decide +kernel
theorem kd_Mx_turn_57 : decode kc_Mx_turn 57 = .ok (.goto 4, 3) := by decide +kernel
theorem kd_Mx_turn_60 : decode kc_Mx_turn 60 = .ok (.iconst 0, 1) := by decide +kernel
theorem kd_Mx_turn_61 : decode kc_Mx_turn 61 = .ok (.istore 4, 2) := by decide +kernel
theorem kd_Mx_turn_63 : decode kc_Mx_turn 63 = .ok (.iload_n 2, 1) := by decide +kernel
theorem kd_Mx_turn_64 : decode kc_Mx_turn 64 = .ok (.iconst 2, 1) := by decide +kernel
theorem kd_Mx_turn_65 : decode kc_Mx_turn 65 = .ok (.if_icmp .gt 12, 3) := by decide +kernel
theorem kd_Mx_turn_68 : decode kc_Mx_turn 68 = .ok (.aload_n 3, 1) := by decide +kernel
theorem kd_Mx_turn_69 : decode kc_Mx_turn 69 = .ok (.iload 4, 2) := by decide +kernel
theorem kd_Mx_turn_71 : decode kc_Mx_turn 71 = .ok (.invokevirtual 156, 3) := by decide +kernel
theorem kd_Mx_turn_74 : decode kc_Mx_turn 74 = .ok (.goto 9, 3) := by decide +kernel
theorem kd_Mx_turn_77 : decode kc_Mx_turn 77 = .ok (.aload_n 3, 1) := by decide +kernel
theorem kd_Mx_turn_78 : decode kc_Mx_turn 78 = .ok (.iload 4, 2) := by decide +kernel
theorem kd_Mx_turn_80 : decode kc_Mx_turn 80 = .ok (.invokevirtual 160, 3) := by decide +kernel
theorem kd_Mx_turn_83 : decode kc_Mx_turn 83 = .ok (.istore 5, 2) := by decide +kernel
theorem kd_Mx_turn_85 : decode kc_Mx_turn 85 = .ok (.iload 5, 2) := by decide +kernel
theorem kd_Mx_turn_87 : decode kc_Mx_turn 87 = .ok (.ifCond .eq 7, 3) := by decide +kernel
theorem kd_Mx_turn_90 : decode kc_Mx_turn 90 = .ok (.iconst 1, 1) := by decide +kernel
theorem kd_Mx_turn_91 : decode kc_Mx_turn 91 = .ok (.goto 4, 3) := by decide +kernel
theorem kd_Mx_turn_94 : decode kc_Mx_turn 94 = .ok (.iconst 0, 1) := by decide +kernel
theorem kd_Mx_turn_95 : decode kc_Mx_turn 95 = .ok (.ireturn, 1) := by decide +kernel
theorem kd_Mx_render_0 : decode kc_Mx_render 0 = .ok (.iload_n 1, 1) := by decide +kernel
theorem kd_Mx_render_1 : decode kc_Mx_render 1 = .ok (.iload_n 2, 1) := by decide +kernel
theorem kd_Mx_render_2 : decode kc_Mx_render 2 = .ok (.invokestatic 163, 3) := by decide +kernel
theorem kd_Mx_render_5 : decode kc_Mx_render 5 = .ok (.ifCond .ne 11, 3) := by decide +kernel
theorem kd_Mx_render_8 : decode kc_Mx_render 8 = .ok (.new 48, 3) := by decide +kernel
theorem kd_Mx_render_11 : decode kc_Mx_render 11 = .ok (.dup, 1) := by decide +kernel
theorem kd_Mx_render_12 : decode kc_Mx_render 12 = .ok (.invokespecial 50, 3) := by decide +kernel
theorem kd_Mx_render_15 : decode kc_Mx_render 15 = .ok (.athrow, 1) := by decide +kernel
theorem kd_Mx_render_16 : decode kc_Mx_render 16 = .ok (.aload_n 0, 1) := by decide +kernel
theorem kd_Mx_render_17 : decode kc_Mx_render 17 = .ok (.iload_n 1, 1) := by decide +kernel
theorem kd_Mx_render_18 : decode kc_Mx_render 18 = .ok (.iload_n 2, 1) := by decide +kernel
theorem kd_Mx_render_19 : decode kc_Mx_render 19 = .ok (.invokevirtual 166, 3) := by decide +kernel
theorem kd_Mx_render_22 : decode kc_Mx_render 22 = .ok (.return_, 1) := by decide +kernel
theorem kd_Mx_sample_0 : decode kc_Mx_sample 0 = .ok (.iload_n 1, 1) := by decide +kernel
theorem kd_Mx_sample_1 : decode kc_Mx_sample 1 = .ok (.invokestatic 125, 3) := by decide +kernel
theorem kd_Mx_sample_4 : decode kc_Mx_sample 4 = .ok (.ifCond .eq 17, 3) := by decide +kernel
theorem kd_Mx_sample_7 : decode kc_Mx_sample 7 = .ok (.iload_n 2, 1) := by decide +kernel
theorem kd_Mx_sample_8 : decode kc_Mx_sample 8 = .ok (.iconst 0, 1) := by decide +kernel
theorem kd_Mx_sample_9 : decode kc_Mx_sample 9 = .ok (.aload_n 0, 1) := by decide +kernel
theorem kd_Mx_sample_10 : decode kc_Mx_sample 10 = .ok (.getfield 169, 3) := by decide +kernel
theorem kd_Mx_sample_13 : decode kc_Mx_sample 13 = .ok (.iconst 1, 1) := by decide +kernel
theorem kd_Mx_sample_14 : decode kc_Mx_sample 14 = .ok (.isub, 1) := by decide +kernel
theorem kd_Mx_sample_15 : decode kc_Mx_sample 15 = .ok (.invokestatic 30, 3) := by decide +kernel
theorem kd_Mx_sample_18 : decode kc_Mx_sample 18 = .ok (.ifCond .ne 11, 3) := by decide +kernel
theorem kd_Mx_sample_21 : decode kc_Mx_sample 21 = .ok (.new 34, 3) := by decide +kernel
theorem kd_Mx_sample_24 : decode kc_Mx_sample 24 = .ok (.dup, 1) := by decide +kernel
theorem kd_Mx_sample_25 : decode kc_Mx_sample 25 = .ok (.invokespecial 36, 3) := by decide +kernel
theorem kd_Mx_sample_28 : decode kc_Mx_sample 28 = .ok (.athrow, 1) := by decide +kernel
theorem kd_Mx_sample_29 : decode kc_Mx_sample 29 = .ok (.aload_n 0, 1) := by decide +kernel
theorem kd_Mx_sample_30 : decode kc_Mx_sample 30 = .ok (.getfield 25, 3) := by decide +kernel
theorem kd_Mx_sample_33 : decode kc_Mx_sample 33 = .ok (.getfield 113, 3) := by decide +kernel
theorem kd_Mx_sample_36 : decode kc_Mx_sample 36 = .ok (.iload_n 1, 1) := by decide +kernel
theorem kd_Mx_sample_37 : decode kc_Mx_sample 37 = .ok (.aaload, 1) := by decide +kernel
theorem kd_Mx_sample_38 : decode kc_Mx_sample 38 = .ok (.getfield 172, 3) := by decide +kernel
theorem kd_Mx_sample_41 : decode kc_Mx_sample 41 = .ok (.aload_n 0, 1) := by decide +kernel
theorem kd_Mx_sample_42 : decode kc_Mx_sample 42 = .ok (.getfield 173, 3) := by decide +kernel
theorem kd_Mx_sample_45 : decode kc_Mx_sample 45 = .ok (.iload_n 2, 1) := by decide +kernel
theorem kd_Mx_sample_46 : decode kc_Mx_sample 46 = .ok (.iadd, 1) := by decide +kernel
theorem kd_Mx_sample_47 : decode kc_Mx_sample 47 = .ok (.iaload, 1) := by decide +kernel
theorem kd_Mx_sample_48 : decode kc_Mx_sample 48 = .ok (.ireturn, 1) := by decide +kernel
theorem kd_Mx_meter_0 : decode kc_Mx_meter 0 = .ok (.iload_n 1, 1) := by decide +kernel
theorem kd_Mx_meter_1 : decode kc_Mx_meter 1 = .ok (.invokestatic 125, 3) := by decide +kernel
theorem kd_Mx_meter_4 : decode kc_Mx_meter 4 = .ok (.ifCond .eq 12, 3) := by decide +kernel
theorem kd_Mx_meter_7 : decode kc_Mx_meter 7 = .ok (.iload_n 2, 1) := by decide +kernel
theorem kd_Mx_meter_8 : decode kc_Mx_meter 8 = .ok (.iconst 0, 1) := by decide +kernel
theorem kd_Mx_meter_9 : decode kc_Mx_meter 9 = .ok (.iconst 4, 1) := by decide +kernel
theorem kd_Mx_meter_10 : decode kc_Mx_meter 10 = .ok (.invokestatic 30, 3) := by decide +kernel
theorem kd_Mx_meter_13 : decode kc_Mx_meter 13 = .ok (.ifCond .ne 11, 3) := by decide +kernel
theorem kd_Mx_meter_16 : decode kc_Mx_meter 16 = .ok (.new 48, 3) := by decide +kernel
theorem kd_Mx_meter_19 : decode kc_Mx_meter 19 = .ok (.dup, 1) := by decide +kernel
theorem kd_Mx_meter_20 : decode kc_Mx_meter 20 = .ok (.invokespecial 50, 3) := by decide +kernel
theorem kd_Mx_meter_23 : decode kc_Mx_meter 23 = .ok (.athrow, 1) := by decide +kernel
theorem kd_Mx_meter_24 : decode kc_Mx_meter 24 = .ok (.iload_n 2, 1) := by decide +kernel
theorem kd_Mx_meter_25 : decode kc_Mx_meter 25 = .ok (.tableswitch 117 0 3 #[31, 53, 74, 96], 31) := by decide +kernel
theorem kd_Mx_meter_56 : decode kc_Mx_meter 56 = .ok (.aload_n 0, 1) := by decide +kernel
theorem kd_Mx_meter_57 : decode kc_Mx_meter 57 = .ok (.getfield 25, 3) := by decide +kernel
theorem kd_Mx_meter_60 : decode kc_Mx_meter 60 = .ok (.getfield 113, 3) := by decide +kernel
theorem kd_Mx_meter_63 : decode kc_Mx_meter 63 = .ok (.iload_n 1, 1) := by decide +kernel
theorem kd_Mx_meter_64 : decode kc_Mx_meter 64 = .ok (.aaload, 1) := by decide +kernel
theorem kd_Mx_meter_65 : decode kc_Mx_meter 65 = .ok (.aload_n 0, 1) := by decide +kernel
theorem kd_Mx_meter_66 : decode kc_Mx_meter 66 = .ok (.getfield 173, 3) := by decide +kernel
theorem kd_Mx_meter_69 : decode kc_Mx_meter 69 = .ok (.aload_n 0, 1) := by decide +kernel
theorem kd_Mx_meter_70 : decode kc_Mx_meter 70 = .ok (.getfield 169, 3) := by decide +kernel
theorem kd_Mx_meter_73 : decode kc_Mx_meter 73 = .ok (.invokevirtual 176, 3) := by decide +kernel
theorem kd_Mx_meter_76 : decode kc_Mx_meter 76 = .ok (.i2l, 1) := by decide +kernel
theorem kd_Mx_meter_77 : decode kc_Mx_meter 77 = .ok (.lreturn, 1) := by decide +kernel
theorem kd_Mx_meter_78 : decode kc_Mx_meter 78 = .ok (.aload_n 0, 1) := by decide +kernel
theorem kd_Mx_meter_79 : decode kc_Mx_meter 79 = .ok (.getfield 25, 3) := by decide +kernel
theorem kd_Mx_meter_82 : decode kc_Mx_meter 82 = .ok (.getfield 113, 3) := by decide +kernel
theorem kd_Mx_meter_85 : decode kc_Mx_meter 85 = .ok (.iload_n 1, 1) := by decide +kernel
theorem kd_Mx_meter_86 : decode kc_Mx_meter 86 = .ok (.aaload, 1) := by decide +kernel
theorem kd_Mx_meter_87 : decode kc_Mx_meter 87 = .ok (.aload_n 0, 1) := by decide +kernel
theorem kd_Mx_meter_88 : decode kc_Mx_meter 88 = .ok (.getfield 173, 3) := by decide +kernel
theorem kd_Mx_meter_91 : decode kc_Mx_meter 91 = .ok (.aload_n 0, 1) := by decide +kernel
theorem kd_Mx_meter_92 : decode kc_Mx_meter 92 = .ok (.getfield 169, 3) := by decide +kernel
theorem kd_Mx_meter_95 : decode kc_Mx_meter 95 = .ok (.invokevirtual 180, 3) := by decide +kernel
theorem kd_Mx_meter_98 : decode kc_Mx_meter 98 = .ok (.lreturn, 1) := by decide +kernel
theorem kd_Mx_meter_99 : decode kc_Mx_meter 99 = .ok (.aload_n 0, 1) := by decide +kernel
theorem kd_Mx_meter_100 : decode kc_Mx_meter 100 = .ok (.getfield 25, 3) := by decide +kernel
theorem kd_Mx_meter_103 : decode kc_Mx_meter 103 = .ok (.getfield 113, 3) := by decide +kernel
theorem kd_Mx_meter_106 : decode kc_Mx_meter 106 = .ok (.iload_n 1, 1) := by decide +kernel
theorem kd_Mx_meter_107 : decode kc_Mx_meter 107 = .ok (.aaload, 1) := by decide +kernel
theorem kd_Mx_meter_108 : decode kc_Mx_meter 108 = .ok (.aload_n 0, 1) := by decide +kernel
theorem kd_Mx_meter_109 : decode kc_Mx_meter 109 = .ok (.getfield 173, 3) := by decide +kernel
theorem kd_Mx_meter_112 : decode kc_Mx_meter 112 = .ok (.aload_n 0, 1) := by decide +kernel
theorem kd_Mx_meter_113 : decode kc_Mx_meter 113 = .ok (.getfield 169, 3) := by decide +kernel
theorem kd_Mx_meter_116 : decode kc_Mx_meter 116 = .ok (.invokevirtual 184, 3) := by decide +kernel
theorem kd_Mx_meter_119 : decode kc_Mx_meter 119 = .ok (.i2l, 1) := by decide +kernel
theorem kd_Mx_meter_120 : decode kc_Mx_meter 120 = .ok (.lreturn, 1) := by decide +kernel
theorem kd_Mx_meter_121 : decode kc_Mx_meter 121 = .ok (.aload_n 0, 1) := by decide +kernel
theorem kd_Mx_meter_122 : decode kc_Mx_meter 122 = .ok (.getfield 25, 3) := by decide +kernel
theorem kd_Mx_meter_125 : decode kc_Mx_meter 125 = .ok (.invokevirtual 187, 3) := by decide +kernel
theorem kd_Mx_meter_128 : decode kc_Mx_meter 128 = .ok (.aload_n 0, 1) := by decide +kernel
theorem kd_Mx_meter_129 : decode kc_Mx_meter 129 = .ok (.getfield 25, 3) := by decide +kernel
theorem kd_Mx_meter_132 : decode kc_Mx_meter 132 = .ok (.getfield 113, 3) := by decide +kernel
theorem kd_Mx_meter_135 : decode kc_Mx_meter 135 = .ok (.iload_n 1, 1) := by decide +kernel
theorem kd_Mx_meter_136 : decode kc_Mx_meter 136 = .ok (.aaload, 1) := by decide +kernel
theorem kd_Mx_meter_137 : decode kc_Mx_meter 137 = .ok (.getfield 190, 3) := by decide +kernel
theorem kd_Mx_meter_140 : decode kc_Mx_meter 140 = .ok (.i2l, 1) := by decide +kernel
theorem kd_Mx_meter_141 : decode kc_Mx_meter 141 = .ok (.lreturn, 1) := by decide +kernel
theorem kd_Mx_meter_142 : decode kc_Mx_meter 142 = .ok (.aload_n 0, 1) := by decide +kernel
theorem kd_Mx_meter_143 : decode kc_Mx_meter 143 = .ok (.getfield 25, 3) := by decide +kernel
theorem kd_Mx_meter_146 : decode kc_Mx_meter 146 = .ok (.iload_n 1, 1) := by decide +kernel
theorem kd_Mx_meter_147 : decode kc_Mx_meter 147 = .ok (.invokevirtual 193, 3) := by decide +kernel
theorem kd_Mx_meter_150 : decode kc_Mx_meter 150 = .ok (.ifCond .eq 7, 3) := by decide +kernel
theorem kd_Mx_meter_153 : decode kc_Mx_meter 153 = .ok (.lconst 1, 1) := by decide +kernel
theorem kd_Mx_meter_154 : decode kc_Mx_meter 154 = .ok (.goto 4, 3) := by decide +kernel
theorem kd_Mx_meter_157 : decode kc_Mx_meter 157 = .ok (.lconst 0, 1) := by decide +kernel
theorem kd_Mx_meter_158 : decode kc_Mx_meter 158 = .ok (.lreturn, 1) := by decide +kernel
theorem kd_Mx_bounce_0 : decode kc_Mx_bounce 0 = .ok (.iload_n 1, 1) := by decide +kernel
theorem kd_Mx_bounce_1 : decode kc_Mx_bounce 1 = .ok (.invokestatic 125, 3) := by decide +kernel
theorem kd_Mx_bounce_4 : decode kc_Mx_bounce 4 = .ok (.ifCond .eq 11, 3) := by decide +kernel
theorem kd_Mx_bounce_7 : decode kc_Mx_bounce 7 = .ok (.iload_n 2, 1) := by decide +kernel
theorem kd_Mx_bounce_8 : decode kc_Mx_bounce 8 = .ok (.iload_n 3, 1) := by decide +kernel
theorem kd_Mx_bounce_9 : decode kc_Mx_bounce 9 = .ok (.invokestatic 163, 3) := by decide +kernel
theorem kd_Mx_bounce_12 : decode kc_Mx_bounce 12 = .ok (.ifCond .ne 11, 3) := by decide +kernel
theorem kd_Mx_bounce_15 : decode kc_Mx_bounce 15 = .ok (.new 48, 3) := by decide +kernel
theorem kd_Mx_bounce_18 : decode kc_Mx_bounce 18 = .ok (.dup, 1) := by decide +kernel
theorem kd_Mx_bounce_19 : decode kc_Mx_bounce 19 = .ok (.invokespecial 50, 3) := by decide +kernel
theorem kd_Mx_bounce_22 : decode kc_Mx_bounce 22 = .ok (.athrow, 1) := by decide +kernel
theorem kd_Mx_bounce_23 : decode kc_Mx_bounce 23 = .ok (.aload_n 0, 1) := by decide +kernel
theorem kd_Mx_bounce_24 : decode kc_Mx_bounce 24 = .ok (.invokevirtual 196, 3) := by decide +kernel
theorem kd_Mx_bounce_27 : decode kc_Mx_bounce 27 = .ok (.istore 4, 2) := by decide +kernel
theorem kd_Mx_bounce_29 : decode kc_Mx_bounce 29 = .ok (.iload 4, 2) := by decide +kernel
theorem kd_Mx_bounce_31 : decode kc_Mx_bounce 31 = .ok (.iconst (-1), 1) := by decide +kernel
theorem kd_Mx_bounce_32 : decode kc_Mx_bounce 32 = .ok (.if_icmp .ne 5, 3) := by decide +kernel
theorem kd_Mx_bounce_35 : decode kc_Mx_bounce 35 = .ok (.iconst (-1), 1) := by decide +kernel
theorem kd_Mx_bounce_36 : decode kc_Mx_bounce 36 = .ok (.ireturn, 1) := by decide +kernel
theorem kd_Mx_bounce_37 : decode kc_Mx_bounce 37 = .ok (.aload_n 0, 1) := by decide +kernel
theorem kd_Mx_bounce_38 : decode kc_Mx_bounce 38 = .ok (.iload_n 2, 1) := by decide +kernel
theorem kd_Mx_bounce_39 : decode kc_Mx_bounce 39 = .ok (.iload_n 3, 1) := by decide +kernel
theorem kd_Mx_bounce_40 : decode kc_Mx_bounce 40 = .ok (.invokevirtual 166, 3) := by decide +kernel
theorem kd_Mx_bounce_43 : decode kc_Mx_bounce 43 = .ok (.aload_n 0, 1) := by decide +kernel
theorem kd_Mx_bounce_44 : decode kc_Mx_bounce 44 = .ok (.getfield 11, 3) := by decide +kernel
theorem kd_Mx_bounce_47 : decode kc_Mx_bounce 47 = .ok (.iload 4, 2) := by decide +kernel
theorem kd_Mx_bounce_49 : decode kc_Mx_bounce 49 = .ok (.aaload, 1) := by decide +kernel
theorem kd_Mx_bounce_50 : decode kc_Mx_bounce 50 = .ok (.aload_n 0, 1) := by decide +kernel
theorem kd_Mx_bounce_51 : decode kc_Mx_bounce 51 = .ok (.getfield 25, 3) := by decide +kernel
theorem kd_Mx_bounce_54 : decode kc_Mx_bounce 54 = .ok (.getfield 113, 3) := by decide +kernel
theorem kd_Mx_bounce_57 : decode kc_Mx_bounce 57 = .ok (.iload_n 1, 1) := by decide +kernel
theorem kd_Mx_bounce_58 : decode kc_Mx_bounce 58 = .ok (.aaload, 1) := by decide +kernel
theorem kd_Mx_bounce_59 : decode kc_Mx_bounce 59 = .ok (.getfield 172, 3) := by decide +kernel
theorem kd_Mx_bounce_62 : decode kc_Mx_bounce 62 = .ok (.iload_n 2, 1) := by decide +kernel
theorem kd_Mx_bounce_63 : decode kc_Mx_bounce 63 = .ok (.iload_n 3, 1) := by decide +kernel
theorem kd_Mx_bounce_64 : decode kc_Mx_bounce 64 = .ok (.invokevirtual 199, 3) := by decide +kernel
theorem kd_Mx_bounce_67 : decode kc_Mx_bounce 67 = .ok (.iload 4, 2) := by decide +kernel
theorem kd_Mx_bounce_69 : decode kc_Mx_bounce 69 = .ok (.ireturn, 1) := by decide +kernel
theorem kd_Mx_leastOpenTake_0 : decode kc_Mx_leastOpenTake 0 = .ok (.iconst 0, 1) := by decide +kernel
theorem kd_Mx_leastOpenTake_1 : decode kc_Mx_leastOpenTake 1 = .ok (.istore_n 1, 1) := by decide +kernel
theorem kd_Mx_leastOpenTake_2 : decode kc_Mx_leastOpenTake 2 = .ok (.iload_n 1, 1) := by decide +kernel
theorem kd_Mx_leastOpenTake_3 : decode kc_Mx_leastOpenTake 3 = .ok (.bipush 8, 2) := by decide +kernel
theorem kd_Mx_leastOpenTake_5 : decode kc_Mx_leastOpenTake 5 = .ok (.if_icmp .ge 23, 3) := by decide +kernel
theorem kd_Mx_leastOpenTake_8 : decode kc_Mx_leastOpenTake 8 = .ok (.aload_n 0, 1) := by decide +kernel
theorem kd_Mx_leastOpenTake_9 : decode kc_Mx_leastOpenTake 9 = .ok (.getfield 11, 3) := by decide +kernel
theorem kd_Mx_leastOpenTake_12 : decode kc_Mx_leastOpenTake 12 = .ok (.iload_n 1, 1) := by decide +kernel
theorem kd_Mx_leastOpenTake_13 : decode kc_Mx_leastOpenTake 13 = .ok (.aaload, 1) := by decide +kernel
theorem kd_Mx_leastOpenTake_14 : decode kc_Mx_leastOpenTake 14 = .ok (.invokevirtual 37, 3) := by decide +kernel
theorem kd_Mx_leastOpenTake_17 : decode kc_Mx_leastOpenTake 17 = .ok (.ifCond .eq 5, 3) := by decide +kernel
theorem kd_Mx_leastOpenTake_20 : decode kc_Mx_leastOpenTake 20 = .ok (.iload_n 1, 1) := by decide +kernel
theorem kd_Mx_leastOpenTake_21 : decode kc_Mx_leastOpenTake 21 = .ok (.ireturn, 1) := by decide +kernel
theorem kd_Mx_leastOpenTake_22 : decode kc_Mx_leastOpenTake 22 = .ok (.iinc 1 1, 3) := by decide +kernel
theorem kd_Mx_leastOpenTake_25 : decode kc_Mx_leastOpenTake 25 = .ok (.goto (-23), 3) := by decide +kernel
theorem kd_Mx_leastOpenTake_28 : decode kc_Mx_leastOpenTake 28 = .ok (.iconst (-1), 1) := by decide +kernel
theorem kd_Mx_leastOpenTake_29 : decode kc_Mx_leastOpenTake 29 = .ok (.ireturn, 1) := by decide +kernel
theorem kd_Mx_playBlock_0 : decode kc_Mx_playBlock 0 = .ok (.aload_n 0, 1) := by decide +kernel
theorem kd_Mx_playBlock_1 : decode kc_Mx_playBlock 1 = .ok (.iload_n 1, 1) := by decide +kernel
theorem kd_Mx_playBlock_2 : decode kc_Mx_playBlock 2 = .ok (.putfield 173, 3) := by decide +kernel
theorem kd_Mx_playBlock_5 : decode kc_Mx_playBlock 5 = .ok (.aload_n 0, 1) := by decide +kernel
theorem kd_Mx_playBlock_6 : decode kc_Mx_playBlock 6 = .ok (.iload_n 2, 1) := by decide +kernel
theorem kd_Mx_playBlock_7 : decode kc_Mx_playBlock 7 = .ok (.putfield 169, 3) := by decide +kernel
theorem kd_Mx_playBlock_10 : decode kc_Mx_playBlock 10 = .ok (.aload_n 0, 1) := by decide +kernel
theorem kd_Mx_playBlock_11 : decode kc_Mx_playBlock 11 = .ok (.getfield 25, 3) := by decide +kernel
theorem kd_Mx_playBlock_14 : decode kc_Mx_playBlock 14 = .ok (.invokevirtual 187, 3) := by decide +kernel
theorem kd_Mx_playBlock_17 : decode kc_Mx_playBlock 17 = .ok (.iconst 0, 1) := by decide +kernel
theorem kd_Mx_playBlock_18 : decode kc_Mx_playBlock 18 = .ok (.istore_n 3, 1) := by decide +kernel
theorem kd_Mx_playBlock_19 : decode kc_Mx_playBlock 19 = .ok (.iload_n 3, 1) := by decide +kernel
theorem kd_Mx_playBlock_20 : decode kc_Mx_playBlock 20 = .ok (.bipush 8, 2) := by decide +kernel
theorem kd_Mx_playBlock_22 : decode kc_Mx_playBlock 22 = .ok (.if_icmp .ge 91, 3) := by decide +kernel
theorem kd_Mx_playBlock_25 : decode kc_Mx_playBlock 25 = .ok (.aload_n 0, 1) := by decide +kernel
theorem kd_Mx_playBlock_26 : decode kc_Mx_playBlock 26 = .ok (.getfield 25, 3) := by decide +kernel
theorem kd_Mx_playBlock_29 : decode kc_Mx_playBlock 29 = .ok (.getfield 203, 3) := by decide +kernel
theorem kd_Mx_playBlock_32 : decode kc_Mx_playBlock 32 = .ok (.iload_n 3, 1) := by decide +kernel
theorem kd_Mx_playBlock_33 : decode kc_Mx_playBlock 33 = .ok (.iaload, 1) := by decide +kernel
theorem kd_Mx_playBlock_34 : decode kc_Mx_playBlock 34 = .ok (.istore 4, 2) := by decide +kernel
theorem kd_Mx_playBlock_36 : decode kc_Mx_playBlock 36 = .ok (.iload 4, 2) := by decide +kernel
theorem kd_Mx_playBlock_38 : decode kc_Mx_playBlock 38 = .ok (.iconst 4, 1) := by decide +kernel
theorem kd_Mx_playBlock_39 : decode kc_Mx_playBlock 39 = .ok (.if_icmp .ge 31, 3) := by decide +kernel
theorem kd_Mx_playBlock_42 : decode kc_Mx_playBlock 42 = .ok (.aload_n 0, 1) := by decide +kernel
theorem kd_Mx_playBlock_43 : decode kc_Mx_playBlock 43 = .ok (.getfield 18, 3) := by decide +kernel
theorem kd_Mx_playBlock_46 : decode kc_Mx_playBlock 46 = .ok (.iload 4, 2) := by decide +kernel
theorem kd_Mx_playBlock_48 : decode kc_Mx_playBlock 48 = .ok (.aload_n 0, 1) := by decide +kernel
theorem kd_Mx_playBlock_49 : decode kc_Mx_playBlock 49 = .ok (.getfield 25, 3) := by decide +kernel
theorem kd_Mx_playBlock_52 : decode kc_Mx_playBlock 52 = .ok (.getfield 113, 3) := by decide +kernel
theorem kd_Mx_playBlock_55 : decode kc_Mx_playBlock 55 = .ok (.iload 4, 2) := by decide +kernel
theorem kd_Mx_playBlock_57 : decode kc_Mx_playBlock 57 = .ok (.aaload, 1) := by decide +kernel
theorem kd_Mx_playBlock_58 : decode kc_Mx_playBlock 58 = .ok (.getfield 172, 3) := by decide +kernel
theorem kd_Mx_playBlock_61 : decode kc_Mx_playBlock 61 = .ok (.iload_n 1, 1) := by decide +kernel
theorem kd_Mx_playBlock_62 : decode kc_Mx_playBlock 62 = .ok (.iload_n 2, 1) := by decide +kernel
theorem kd_Mx_playBlock_63 : decode kc_Mx_playBlock 63 = .ok (.iadd, 1) := by decide +kernel
theorem kd_Mx_playBlock_64 : decode kc_Mx_playBlock 64 = .ok (.invokevirtual 206, 3) := by decide +kernel
theorem kd_Mx_playBlock_67 : decode kc_Mx_playBlock 67 = .ok (.goto 15, 3) := by decide +kernel
theorem kd_Mx_playBlock_70 : decode kc_Mx_playBlock 70 = .ok (.aload_n 0, 1) := by decide +kernel
theorem kd_Mx_playBlock_71 : decode kc_Mx_playBlock 71 = .ok (.getfield 25, 3) := by decide +kernel
theorem kd_Mx_playBlock_74 : decode kc_Mx_playBlock 74 = .ok (.iload 4, 2) := by decide +kernel
theorem kd_Mx_playBlock_76 : decode kc_Mx_playBlock 76 = .ok (.iload_n 1, 1) := by decide +kernel
theorem kd_Mx_playBlock_77 : decode kc_Mx_playBlock 77 = .ok (.iload_n 2, 1) := by decide +kernel
theorem kd_Mx_playBlock_78 : decode kc_Mx_playBlock 78 = .ok (.iadd, 1) := by decide +kernel
theorem kd_Mx_playBlock_79 : decode kc_Mx_playBlock 79 = .ok (.invokevirtual 210, 3) := by decide +kernel
theorem kd_Mx_playBlock_82 : decode kc_Mx_playBlock 82 = .ok (.aload_n 0, 1) := by decide +kernel
theorem kd_Mx_playBlock_83 : decode kc_Mx_playBlock 83 = .ok (.getfield 25, 3) := by decide +kernel
theorem kd_Mx_playBlock_86 : decode kc_Mx_playBlock 86 = .ok (.getfield 113, 3) := by decide +kernel
theorem kd_Mx_playBlock_89 : decode kc_Mx_playBlock 89 = .ok (.iload 4, 2) := by decide +kernel
theorem kd_Mx_playBlock_91 : decode kc_Mx_playBlock 91 = .ok (.aaload, 1) := by decide +kernel
theorem kd_Mx_playBlock_92 : decode kc_Mx_playBlock 92 = .ok (.iload_n 1, 1) := by decide +kernel
theorem kd_Mx_playBlock_93 : decode kc_Mx_playBlock 93 = .ok (.iload_n 2, 1) := by decide +kernel
theorem kd_Mx_playBlock_94 : decode kc_Mx_playBlock 94 = .ok (.iadd, 1) := by decide +kernel
theorem kd_Mx_playBlock_95 : decode kc_Mx_playBlock 95 = .ok (.aload_n 0, 1) := by decide +kernel
theorem kd_Mx_playBlock_96 : decode kc_Mx_playBlock 96 = .ok (.getfield 25, 3) := by decide +kernel
theorem kd_Mx_playBlock_99 : decode kc_Mx_playBlock 99 = .ok (.iload 4, 2) := by decide +kernel
theorem kd_Mx_playBlock_101 : decode kc_Mx_playBlock 101 = .ok (.invokevirtual 193, 3) := by decide +kernel
theorem kd_Mx_playBlock_104 : decode kc_Mx_playBlock 104 = .ok (.invokevirtual 213, 3) := by decide +kernel
theorem kd_Mx_playBlock_107 : decode kc_Mx_playBlock 107 = .ok (.iinc 3 1, 3) := by decide +kernel
theorem kd_Mx_playBlock_110 : decode kc_Mx_playBlock 110 = .ok (.goto (-91), 3) := by decide +kernel
theorem kd_Mx_playBlock_113 : decode kc_Mx_playBlock 113 = .ok (.return_, 1) := by decide +kernel
theorem kd_Mx_isStrip_0 : decode kc_Mx_isStrip 0 = .ok (.iload_n 0, 1) := by decide +kernel
theorem kd_Mx_isStrip_1 : decode kc_Mx_isStrip 1 = .ok (.iconst 0, 1) := by decide +kernel
theorem kd_Mx_isStrip_2 : decode kc_Mx_isStrip 2 = .ok (.bipush 7, 2) := by decide +kernel
theorem kd_Mx_isStrip_4 : decode kc_Mx_isStrip 4 = .ok (.invokestatic 30, 3) := by decide +kernel
theorem kd_Mx_isStrip_7 : decode kc_Mx_isStrip 7 = .ok (.ireturn, 1) := by decide +kernel
theorem kd_Mx_isLevel_0 : decode kc_Mx_isLevel 0 = .ok (.iload_n 0, 1) := by decide +kernel
theorem kd_Mx_isLevel_1 : decode kc_Mx_isLevel 1 = .ok (.iconst 0, 1) := by decide +kernel
theorem kd_Mx_isLevel_2 : decode kc_Mx_isLevel 2 = .ok (.sipush 1024, 3) := by decide +kernel
theorem kd_Mx_isLevel_5 : decode kc_Mx_isLevel 5 = .ok (.invokestatic 30, 3) := by decide +kernel
theorem kd_Mx_isLevel_8 : decode kc_Mx_isLevel 8 = .ok (.ireturn, 1) := by decide +kernel
theorem kd_Mx_isBlock_0 : decode kc_Mx_isBlock 0 = .ok (.iload_n 1, 1) := by decide +kernel
theorem kd_Mx_isBlock_1 : decode kc_Mx_isBlock 1 = .ok (.iconst 1, 1) := by decide +kernel
theorem kd_Mx_isBlock_2 : decode kc_Mx_isBlock 2 = .ok (.bipush 64, 2) := by decide +kernel
theorem kd_Mx_isBlock_4 : decode kc_Mx_isBlock 4 = .ok (.invokestatic 30, 3) := by decide +kernel
theorem kd_Mx_isBlock_7 : decode kc_Mx_isBlock 7 = .ok (.ifCond .eq 20, 3) := by decide +kernel
theorem kd_Mx_isBlock_10 : decode kc_Mx_isBlock 10 = .ok (.iload_n 0, 1) := by decide +kernel
theorem kd_Mx_isBlock_11 : decode kc_Mx_isBlock 11 = .ok (.iconst 0, 1) := by decide +kernel
theorem kd_Mx_isBlock_12 : decode kc_Mx_isBlock 12 = .ok (.sipush 1024, 3) := by decide +kernel
theorem kd_Mx_isBlock_15 : decode kc_Mx_isBlock 15 = .ok (.iload_n 1, 1) := by decide +kernel
theorem kd_Mx_isBlock_16 : decode kc_Mx_isBlock 16 = .ok (.isub, 1) := by decide +kernel
theorem kd_Mx_isBlock_17 : decode kc_Mx_isBlock 17 = .ok (.invokestatic 30, 3) := by decide +kernel
theorem kd_Mx_isBlock_20 : decode kc_Mx_isBlock 20 = .ok (.ifCond .eq 7, 3) := by decide +kernel
theorem kd_Mx_isBlock_23 : decode kc_Mx_isBlock 23 = .ok (.iconst 1, 1) := by decide +kernel
theorem kd_Mx_isBlock_24 : decode kc_Mx_isBlock 24 = .ok (.goto 4, 3) := by decide +kernel
theorem kd_Mx_isBlock_27 : decode kc_Mx_isBlock 27 = .ok (.iconst 0, 1) := by decide +kernel
theorem kd_Mx_isBlock_28 : decode kc_Mx_isBlock 28 = .ok (.ireturn, 1) := by decide +kernel
theorem kd_Mx_within_0 : decode kc_Mx_within 0 = .ok (.iload_n 0, 1) := by decide +kernel
theorem kd_Mx_within_1 : decode kc_Mx_within 1 = .ok (.iload_n 1, 1) := by decide +kernel
theorem kd_Mx_within_2 : decode kc_Mx_within 2 = .ok (.if_icmp .lt 12, 3) := by decide +kernel
theorem kd_Mx_within_5 : decode kc_Mx_within 5 = .ok (.iload_n 0, 1) := by decide +kernel
theorem kd_Mx_within_6 : decode kc_Mx_within 6 = .ok (.iload_n 2, 1) := by decide +kernel
theorem kd_Mx_within_7 : decode kc_Mx_within 7 = .ok (.if_icmp .gt 7, 3) := by decide +kernel
theorem kd_Mx_within_10 : decode kc_Mx_within 10 = .ok (.iconst 1, 1) := by decide +kernel
theorem kd_Mx_within_11 : decode kc_Mx_within 11 = .ok (.goto 4, 3) := by decide +kernel
theorem kd_Mx_within_14 : decode kc_Mx_within 14 = .ok (.iconst 0, 1) := by decide +kernel
theorem kd_Mx_within_15 : decode kc_Mx_within 15 = .ok (.ireturn, 1) := by decide +kernel
theorem kd_Mx_atLevel_0 : decode kc_Mx_atLevel 0 = .ok (.iload_n 0, 1) := by decide +kernel
theorem kd_Mx_atLevel_1 : decode kc_Mx_atLevel 1 = .ok (.i2l, 1) := by decide +kernel
theorem kd_Mx_atLevel_2 : decode kc_Mx_atLevel 2 = .ok (.iload_n 1, 1) := by decide +kernel
theorem kd_Mx_atLevel_3 : decode kc_Mx_atLevel 3 = .ok (.i2l, 1) := by decide +kernel
theorem kd_Mx_atLevel_4 : decode kc_Mx_atLevel 4 = .ok (.lmul, 1) := by decide +kernel
theorem kd_Mx_atLevel_5 : decode kc_Mx_atLevel 5 = .ok (.bipush 8, 2) := by decide +kernel
theorem kd_Mx_atLevel_7 : decode kc_Mx_atLevel 7 = .ok (.lshr, 1) := by decide +kernel
theorem kd_Mx_atLevel_8 : decode kc_Mx_atLevel 8 = .ok (.l2i, 1) := by decide +kernel
theorem kd_Mx_atLevel_9 : decode kc_Mx_atLevel 9 = .ok (.ireturn, 1) := by decide +kernel
theorem kd_Mx_cut_0 : decode kc_Mx_cut 0 = .ok (.ldc 217, 2) := by decide +kernel
theorem kd_Mx_cut_2 : decode kc_Mx_cut 2 = .ok (.ldc 218, 2) := by decide +kernel
theorem kd_Mx_cut_4 : decode kc_Mx_cut 4 = .ok (.iload_n 0, 1) := by decide +kernel
theorem kd_Mx_cut_5 : decode kc_Mx_cut 5 = .ok (.invokestatic 219, 3) := by decide +kernel
theorem kd_Mx_cut_8 : decode kc_Mx_cut 8 = .ok (.invokestatic 224, 3) := by decide +kernel
theorem kd_Mx_cut_11 : decode kc_Mx_cut 11 = .ok (.ireturn, 1) := by decide +kernel
theorem kd_Cl_init_0 : decode kc_Cl_init 0 = .ok (.aload_n 0, 1) := by decide +kernel
theorem kd_Cl_init_1 : decode kc_Cl_init 1 = .ok (.invokespecial 1, 3) := by decide +kernel
theorem kd_Cl_init_4 : decode kc_Cl_init 4 = .ok (.return_, 1) := by decide +kernel
theorem kd_Cl_cutFrom_0 : decode kc_Cl_cutFrom 0 = .ok (.aload_n 0, 1) := by decide +kernel
theorem kd_Cl_cutFrom_1 : decode kc_Cl_cutFrom 1 = .ok (.aload_n 1, 1) := by decide +kernel
theorem kd_Cl_cutFrom_2 : decode kc_Cl_cutFrom 2 = .ok (.putfield 7, 3) := by decide +kernel
theorem kd_Cl_cutFrom_5 : decode kc_Cl_cutFrom 5 = .ok (.aload_n 0, 1) := by decide +kernel
theorem kd_Cl_cutFrom_6 : decode kc_Cl_cutFrom 6 = .ok (.iload_n 2, 1) := by decide +kernel
theorem kd_Cl_cutFrom_7 : decode kc_Cl_cutFrom 7 = .ok (.putfield 13, 3) := by decide +kernel
theorem kd_Cl_cutFrom_10 : decode kc_Cl_cutFrom 10 = .ok (.aload_n 0, 1) := by decide +kernel
theorem kd_Cl_cutFrom_11 : decode kc_Cl_cutFrom 11 = .ok (.iload_n 3, 1) := by decide +kernel
theorem kd_Cl_cutFrom_12 : decode kc_Cl_cutFrom 12 = .ok (.putfield 17, 3) := by decide +kernel
theorem kd_Cl_cutFrom_15 : decode kc_Cl_cutFrom 15 = .ok (.return_, 1) := by decide +kernel
theorem kd_Cl_layOn_0 : decode kc_Cl_layOn 0 = .ok (.aload_n 0, 1) := by decide +kernel
theorem kd_Cl_layOn_1 : decode kc_Cl_layOn 1 = .ok (.iload_n 1, 1) := by decide +kernel
theorem kd_Cl_layOn_2 : decode kc_Cl_layOn 2 = .ok (.putfield 20, 3) := by decide +kernel
theorem kd_Cl_layOn_5 : decode kc_Cl_layOn 5 = .ok (.aload_n 0, 1) := by decide +kernel
theorem kd_Cl_layOn_6 : decode kc_Cl_layOn 6 = .ok (.iload_n 2, 1) := by decide +kernel
theorem kd_Cl_layOn_7 : decode kc_Cl_layOn 7 = .ok (.putfield 23, 3) := by decide +kernel
theorem kd_Cl_layOn_10 : decode kc_Cl_layOn 10 = .ok (.return_, 1) := by decide +kernel
theorem kd_Cl_form_0 : decode kc_Cl_form 0 = .ok (.aload_n 0, 1) := by decide +kernel
theorem kd_Cl_form_1 : decode kc_Cl_form 1 = .ok (.iload_n 1, 1) := by decide +kernel
theorem kd_Cl_form_2 : decode kc_Cl_form 2 = .ok (.putfield 26, 3) := by decide +kernel
theorem kd_Cl_form_5 : decode kc_Cl_form 5 = .ok (.aload_n 0, 1) := by decide +kernel
theorem kd_Cl_form_6 : decode kc_Cl_form 6 = .ok (.iload_n 2, 1) := by decide +kernel
theorem kd_Cl_form_7 : decode kc_Cl_form 7 = .ok (.putfield 29, 3) := by decide +kernel
theorem kd_Cl_form_10 : decode kc_Cl_form 10 = .ok (.aload_n 0, 1) := by decide +kernel
theorem kd_Cl_form_11 : decode kc_Cl_form 11 = .ok (.iload_n 3, 1) := by decide +kernel
theorem kd_Cl_form_12 : decode kc_Cl_form 12 = .ok (.putfield 32, 3) := by decide +kernel
theorem kd_Cl_form_15 : decode kc_Cl_form 15 = .ok (.return_, 1) := by decide +kernel
theorem kd_Cl_splitInto_0 : decode kc_Cl_splitInto 0 = .ok (.aload_n 1, 1) := by decide +kernel
theorem kd_Cl_splitInto_1 : decode kc_Cl_splitInto 1 = .ok (.aload_n 0, 1) := by decide +kernel
theorem kd_Cl_splitInto_2 : decode kc_Cl_splitInto 2 = .ok (.getfield 7, 3) := by decide +kernel
theorem kd_Cl_splitInto_5 : decode kc_Cl_splitInto 5 = .ok (.aload_n 0, 1) := by decide +kernel
theorem kd_Cl_splitInto_6 : decode kc_Cl_splitInto 6 = .ok (.getfield 13, 3) := by decide +kernel
theorem kd_Cl_splitInto_9 : decode kc_Cl_splitInto 9 = .ok (.iload_n 2, 1) := by decide +kernel
theorem kd_Cl_splitInto_10 : decode kc_Cl_splitInto 10 = .ok (.iadd, 1) := by decide +kernel
theorem kd_Cl_splitInto_11 : decode kc_Cl_splitInto 11 = .ok (.aload_n 0, 1) := by decide +kernel
theorem kd_Cl_splitInto_12 : decode kc_Cl_splitInto 12 = .ok (.getfield 17, 3) := by decide +kernel
theorem kd_Cl_splitInto_15 : decode kc_Cl_splitInto 15 = .ok (.iload_n 2, 1) := by decide +kernel
theorem kd_Cl_splitInto_16 : decode kc_Cl_splitInto 16 = .ok (.isub, 1) := by decide +kernel
theorem kd_Cl_splitInto_17 : decode kc_Cl_splitInto 17 = .ok (.invokevirtual 35, 3) := by decide +kernel
theorem kd_Cl_splitInto_20 : decode kc_Cl_splitInto 20 = .ok (.aload_n 1, 1) := by decide +kernel
theorem kd_Cl_splitInto_21 : decode kc_Cl_splitInto 21 = .ok (.aload_n 0, 1) := by decide +kernel
theorem kd_Cl_splitInto_22 : decode kc_Cl_splitInto 22 = .ok (.getfield 20, 3) := by decide +kernel
theorem kd_Cl_splitInto_25 : decode kc_Cl_splitInto 25 = .ok (.aload_n 0, 1) := by decide +kernel
theorem kd_Cl_splitInto_26 : decode kc_Cl_splitInto 26 = .ok (.getfield 23, 3) := by decide +kernel
theorem kd_Cl_splitInto_29 : decode kc_Cl_splitInto 29 = .ok (.iload_n 2, 1) := by decide +kernel
theorem kd_Cl_splitInto_30 : decode kc_Cl_splitInto 30 = .ok (.iadd, 1) := by decide +kernel
theorem kd_Cl_splitInto_31 : decode kc_Cl_splitInto 31 = .ok (.invokevirtual 39, 3) := by decide +kernel
theorem kd_Cl_splitInto_34 : decode kc_Cl_splitInto 34 = .ok (.aload_n 1, 1) := by decide +kernel
theorem kd_Cl_splitInto_35 : decode kc_Cl_splitInto 35 = .ok (.aload_n 0, 1) := by decide +kernel
theorem kd_Cl_splitInto_36 : decode kc_Cl_splitInto 36 = .ok (.getfield 26, 3) := by decide +kernel
theorem kd_Cl_splitInto_39 : decode kc_Cl_splitInto 39 = .ok (.iconst 0, 1) := by decide +kernel
theorem kd_Cl_splitInto_40 : decode kc_Cl_splitInto 40 = .ok (.aload_n 0, 1) := by decide +kernel
theorem kd_Cl_splitInto_41 : decode kc_Cl_splitInto 41 = .ok (.getfield 32, 3) := by decide +kernel
theorem kd_Cl_splitInto_44 : decode kc_Cl_splitInto 44 = .ok (.invokevirtual 43, 3) := by decide +kernel
theorem kd_Cl_splitInto_47 : decode kc_Cl_splitInto 47 = .ok (.aload_n 0, 1) := by decide +kernel
theorem kd_Cl_splitInto_48 : decode kc_Cl_splitInto 48 = .ok (.iload_n 2, 1) := by decide +kernel
theorem kd_Cl_splitInto_49 : decode kc_Cl_splitInto 49 = .ok (.putfield 17, 3) := by decide +kernel
theorem kd_Cl_splitInto_52 : decode kc_Cl_splitInto 52 = .ok (.aload_n 0, 1) := by decide +kernel
theorem kd_Cl_splitInto_53 : decode kc_Cl_splitInto 53 = .ok (.iconst 0, 1) := by decide +kernel
theorem kd_Cl_splitInto_54 : decode kc_Cl_splitInto 54 = .ok (.putfield 32, 3) := by decide +kernel
theorem kd_Cl_splitInto_57 : decode kc_Cl_splitInto 57 = .ok (.return_, 1) := by decide +kernel
theorem kd_Cl_liesIn_0 : decode kc_Cl_liesIn 0 = .ok (.aload_n 0, 1) := by decide +kernel
theorem kd_Cl_liesIn_1 : decode kc_Cl_liesIn 1 = .ok (.getfield 17, 3) := by decide +kernel
theorem kd_Cl_liesIn_4 : decode kc_Cl_liesIn 4 = .ok (.ifCond .le 38, 3) := by decide +kernel
theorem kd_Cl_liesIn_7 : decode kc_Cl_liesIn 7 = .ok (.aload_n 0, 1) := by decide +kernel
theorem kd_Cl_liesIn_8 : decode kc_Cl_liesIn 8 = .ok (.getfield 20, 3) := by decide +kernel
theorem kd_Cl_liesIn_11 : decode kc_Cl_liesIn 11 = .ok (.iload_n 1, 1) := by decide +kernel
theorem kd_Cl_liesIn_12 : decode kc_Cl_liesIn 12 = .ok (.if_icmp .ne 30, 3) := by decide +kernel
theorem kd_Cl_liesIn_15 : decode kc_Cl_liesIn 15 = .ok (.aload_n 0, 1) := by decide +kernel
theorem kd_Cl_liesIn_16 : decode kc_Cl_liesIn 16 = .ok (.getfield 23, 3) := by decide +kernel
theorem kd_Cl_liesIn_19 : decode kc_Cl_liesIn 19 = .ok (.iload_n 2, 1) := by decide +kernel
theorem kd_Cl_liesIn_20 : decode kc_Cl_liesIn 20 = .ok (.iload_n 3, 1) := by decide +kernel
theorem kd_Cl_liesIn_21 : decode kc_Cl_liesIn 21 = .ok (.iadd, 1) := by decide +kernel
theorem kd_Cl_liesIn_22 : decode kc_Cl_liesIn 22 = .ok (.if_icmp .ge 20, 3) := by decide +kernel
theorem kd_Cl_liesIn_25 : decode kc_Cl_liesIn 25 = .ok (.iload_n 2, 1) := by decide +kernel
theorem kd_Cl_liesIn_26 : decode kc_Cl_liesIn 26 = .ok (.aload_n 0, 1) := by decide +kernel
theorem kd_Cl_liesIn_27 : decode kc_Cl_liesIn 27 = .ok (.getfield 23, 3) := by decide +kernel
theorem kd_Cl_liesIn_30 : decode kc_Cl_liesIn 30 = .ok (.aload_n 0, 1) := by decide +kernel
theorem kd_Cl_liesIn_31 : decode kc_Cl_liesIn 31 = .ok (.getfield 17, 3) := by decide +kernel
theorem kd_Cl_liesIn_34 : decode kc_Cl_liesIn 34 = .ok (.iadd, 1) := by decide +kernel
theorem kd_Cl_liesIn_35 : decode kc_Cl_liesIn 35 = .ok (.if_icmp .ge 7, 3) := by decide +kernel
theorem kd_Cl_liesIn_38 : decode kc_Cl_liesIn 38 = .ok (.iconst 1, 1) := by decide +kernel
theorem kd_Cl_liesIn_39 : decode kc_Cl_liesIn 39 = .ok (.goto 4, 3) := by decide +kernel
theorem kd_Cl_liesIn_42 : decode kc_Cl_liesIn 42 = .ok (.iconst 0, 1) := by decide +kernel
theorem kd_Cl_liesIn_43 : decode kc_Cl_liesIn 43 = .ok (.ireturn, 1) := by decide +kernel
theorem kd_Cl_valueAt_0 : decode kc_Cl_valueAt 0 = .ok (.aload_n 0, 1) := by decide +kernel
theorem kd_Cl_valueAt_1 : decode kc_Cl_valueAt 1 = .ok (.getfield 7, 3) := by decide +kernel
theorem kd_Cl_valueAt_4 : decode kc_Cl_valueAt 4 = .ok (.getfield 47, 3) := by decide +kernel
theorem kd_Cl_valueAt_7 : decode kc_Cl_valueAt 7 = .ok (.aload_n 0, 1) := by decide +kernel
theorem kd_Cl_valueAt_8 : decode kc_Cl_valueAt 8 = .ok (.getfield 13, 3) := by decide +kernel
theorem kd_Cl_valueAt_11 : decode kc_Cl_valueAt 11 = .ok (.iload_n 1, 1) := by decide +kernel
theorem kd_Cl_valueAt_12 : decode kc_Cl_valueAt 12 = .ok (.iadd, 1) := by decide +kernel
theorem kd_Cl_valueAt_13 : decode kc_Cl_valueAt 13 = .ok (.iaload, 1) := by decide +kernel
theorem kd_Cl_valueAt_14 : decode kc_Cl_valueAt 14 = .ok (.aload_n 0, 1) := by decide +kernel
theorem kd_Cl_valueAt_15 : decode kc_Cl_valueAt 15 = .ok (.getfield 26, 3) := by decide +kernel
theorem kd_Cl_valueAt_18 : decode kc_Cl_valueAt 18 = .ok (.invokestatic 53, 3) := by decide +kernel
theorem kd_Cl_valueAt_21 : decode kc_Cl_valueAt 21 = .ok (.istore_n 2, 1) := by decide +kernel
theorem kd_Cl_valueAt_22 : decode kc_Cl_valueAt 22 = .ok (.iload_n 1, 1) := by decide +kernel
theorem kd_Cl_valueAt_23 : decode kc_Cl_valueAt 23 = .ok (.aload_n 0, 1) := by decide +kernel
theorem kd_Cl_valueAt_24 : decode kc_Cl_valueAt 24 = .ok (.getfield 29, 3) := by decide +kernel
theorem kd_Cl_valueAt_27 : decode kc_Cl_valueAt 27 = .ok (.if_icmp .ge 18, 3) := by decide +kernel
theorem kd_Cl_valueAt_30 : decode kc_Cl_valueAt 30 = .ok (.iload_n 2, 1) := by decide +kernel
theorem kd_Cl_valueAt_31 : decode kc_Cl_valueAt 31 = .ok (.iload_n 1, 1) := by decide +kernel
theorem kd_Cl_valueAt_32 : decode kc_Cl_valueAt 32 = .ok (.iconst 1, 1) := by decide +kernel
theorem kd_Cl_valueAt_33 : decode kc_Cl_valueAt 33 = .ok (.iadd, 1) := by decide +kernel
theorem kd_Cl_valueAt_34 : decode kc_Cl_valueAt 34 = .ok (.imul, 1) := by decide +kernel
theorem kd_Cl_valueAt_35 : decode kc_Cl_valueAt 35 = .ok (.aload_n 0, 1) := by decide +kernel
theorem kd_Cl_valueAt_36 : decode kc_Cl_valueAt 36 = .ok (.getfield 29, 3) := by decide +kernel
theorem kd_Cl_valueAt_39 : decode kc_Cl_valueAt 39 = .ok (.iconst 1, 1) := by decide +kernel
theorem kd_Cl_valueAt_40 : decode kc_Cl_valueAt 40 = .ok (.iadd, 1) := by decide +kernel
theorem kd_Cl_valueAt_41 : decode kc_Cl_valueAt 41 = .ok (.invokestatic 59, 3) := by decide +kernel
theorem kd_Cl_valueAt_44 : decode kc_Cl_valueAt 44 = .ok (.istore_n 2, 1) := by decide +kernel
theorem kd_Cl_valueAt_45 : decode kc_Cl_valueAt 45 = .ok (.aload_n 0, 1) := by decide +kernel
theorem kd_Cl_valueAt_46 : decode kc_Cl_valueAt 46 = .ok (.getfield 17, 3) := by decide +kernel
theorem kd_Cl_valueAt_49 : decode kc_Cl_valueAt 49 = .ok (.iconst 1, 1) := by decide +kernel
theorem kd_Cl_valueAt_50 : decode kc_Cl_valueAt 50 = .ok (.isub, 1) := by decide +kernel
theorem kd_Cl_valueAt_51 : decode kc_Cl_valueAt 51 = .ok (.iload_n 1, 1) := by decide +kernel
theorem kd_Cl_valueAt_52 : decode kc_Cl_valueAt 52 = .ok (.isub, 1) := by decide +kernel
theorem kd_Cl_valueAt_53 : decode kc_Cl_valueAt 53 = .ok (.aload_n 0, 1) := by decide +kernel
theorem kd_Cl_valueAt_54 : decode kc_Cl_valueAt 54 = .ok (.getfield 32, 3) := by decide +kernel
theorem kd_Cl_valueAt_57 : decode kc_Cl_valueAt 57 = .ok (.if_icmp .ge 21, 3) := by decide +kernel
theorem kd_Cl_valueAt_60 : decode kc_Cl_valueAt 60 = .ok (.iload_n 2, 1) := by decide +kernel
theorem kd_Cl_valueAt_61 : decode kc_Cl_valueAt 61 = .ok (.aload_n 0, 1) := by decide +kernel
theorem kd_Cl_valueAt_62 : decode kc_Cl_valueAt 62 = .ok (.getfield 17, 3) := by decide +kernel
theorem kd_Cl_valueAt_65 : decode kc_Cl_valueAt 65 = .ok (.iload_n 1, 1) := by decide +kernel
theorem kd_Cl_valueAt_66 : decode kc_Cl_valueAt 66 = .ok (.isub, 1) := by decide +kernel
theorem kd_Cl_valueAt_67 : decode kc_Cl_valueAt 67 = .ok (.imul, 1) := by decide +kernel
theorem kd_Cl_valueAt_68 : decode kc_Cl_valueAt 68 = .ok (.aload_n 0, 1) := by decide +kernel
theorem kd_Cl_valueAt_69 : decode kc_Cl_valueAt 69 = .ok (.getfield 32, 3) := by decide +kernel
theorem kd_Cl_valueAt_72 : decode kc_Cl_valueAt 72 = .ok (.iconst 1, 1) := by decide +kernel
theorem kd_Cl_valueAt_73 : decode kc_Cl_valueAt 73 = .ok (.iadd, 1) := by decide +kernel
theorem kd_Cl_valueAt_74 : decode kc_Cl_valueAt 74 = .ok (.invokestatic 59, 3) := by decide +kernel
theorem kd_Cl_valueAt_77 : decode kc_Cl_valueAt 77 = .ok (.istore_n 2, 1) := by decide +kernel
theorem kd_Cl_valueAt_78 : decode kc_Cl_valueAt 78 = .ok (.iload_n 2, 1) := by decide +kernel
theorem kd_Cl_valueAt_79 : decode kc_Cl_valueAt 79 = .ok (.ireturn, 1) := by decide +kernel
theorem kd_De_init_0 : decode kc_De_init 0 = .ok (.aload_n 0, 1) := by decide +kernel
theorem kd_De_init_1 : decode kc_De_init 1 = .ok (.invokespecial 3, 3) := by decide +kernel
theorem kd_De_init_4 : decode kc_De_init 4 = .ok (.aload_n 0, 1) := by decide +kernel
theorem kd_De_init_5 : decode kc_De_init 5 = .ok (.bipush 8, 2) := by decide +kernel
theorem kd_De_init_7 : decode kc_De_init 7 = .ok (.anewarray 9, 3) := by decide +kernel
theorem kd_De_init_10 : decode kc_De_init 10 = .ok (.putfield 11, 3) := by decide +kernel
theorem kd_De_init_13 : decode kc_De_init 13 = .ok (.aload_n 0, 1) := by decide +kernel
theorem kd_De_init_14 : decode kc_De_init 14 = .ok (.bipush 8, 2) := by decide +kernel
theorem kd_De_init_16 : decode kc_De_init 16 = .ok (.newarray .int, 2) := by decide +kernel
theorem kd_De_init_18 : decode kc_De_init 18 = .ok (.putfield 17, 3) := by decide +kernel
theorem kd_De_init_21 : decode kc_De_init 21 = .ok (.iconst 0, 1) := by decide +kernel
theorem kd_De_init_22 : decode kc_De_init 22 = .ok (.istore_n 1, 1) := by decide +kernel
theorem kd_De_init_23 : decode kc_De_init 23 = .ok (.iload_n 1, 1) := by decide +kernel
theorem kd_De_init_24 : decode kc_De_init 24 = .ok (.bipush 8, 2) := by decide +kernel
theorem kd_De_init_26 : decode kc_De_init 26 = .ok (.if_icmp .ge 34, 3) := by decide +kernel
theorem kd_De_init_29 : decode kc_De_init 29 = .ok (.aload_n 0, 1) := by decide +kernel
theorem kd_De_init_30 : decode kc_De_init 30 = .ok (.getfield 11, 3) := by decide +kernel
theorem kd_De_init_33 : decode kc_De_init 33 = .ok (.iload_n 1, 1) := by decide +kernel
theorem kd_De_init_34 : decode kc_De_init 34 = .ok (.new 9, 3) := by decide +kernel
theorem kd_De_init_37 : decode kc_De_init 37 = .ok (.dup, 1) := by decide +kernel
theorem kd_De_init_38 : decode kc_De_init 38 = .ok (.iload_n 1, 1) := by decide +kernel
theorem kd_De_init_39 : decode kc_De_init 39 = .ok (.bipush 7, 2) := by decide +kernel
theorem kd_De_init_41 : decode kc_De_init 41 = .ok (.if_icmp .ne 7, 3) := by decide +kernel
theorem kd_De_init_44 : decode kc_De_init 44 = .ok (.iconst (-1), 1) := by decide +kernel
theorem kd_De_init_45 : decode kc_De_init 45 = .ok (.goto 5, 3) := by decide +kernel
theorem kd_De_init_48 : decode kc_De_init 48 = .ok (.bipush 7, 2) := by decide +kernel
theorem kd_De_init_50 : decode kc_De_init 50 = .ok (.invokespecial 21, 3) := by decide +kernel
theorem kd_De_init_53 : decode kc_De_init 53 = .ok (.aastore, 1) := by decide +kernel
theorem kd_De_init_54 : decode kc_De_init 54 = .ok (.iinc 1 1, 3) := by decide +kernel
theorem kd_De_init_57 : decode kc_De_init 57 = .ok (.goto (-34), 3) := by decide +kernel
theorem kd_De_init_60 : decode kc_De_init 60 = .ok (.return_, 1) := by decide +kernel
theorem kd_De_mayFeed_0 : decode kc_De_mayFeed 0 = .ok (.iload_n 1, 1) := by decide +kernel
theorem kd_De_mayFeed_1 : decode kc_De_mayFeed 1 = .ok (.iload_n 2, 1) := by decide +kernel
theorem kd_De_mayFeed_2 : decode kc_De_mayFeed 2 = .ok (.if_icmp .eq 19, 3) := by decide +kernel
theorem kd_De_mayFeed_5 : decode kc_De_mayFeed 5 = .ok (.aload_n 0, 1) := by decide +kernel
theorem kd_De_mayFeed_6 : decode kc_De_mayFeed 6 = .ok (.iload_n 2, 1) := by decide +kernel
theorem kd_De_mayFeed_7 : decode kc_De_mayFeed 7 = .ok (.invokevirtual 24, 3) := by decide +kernel
theorem kd_De_mayFeed_10 : decode kc_De_mayFeed 10 = .ok (.iload_n 1, 1) := by decide +kernel
theorem kd_De_mayFeed_11 : decode kc_De_mayFeed 11 = .ok (.invokestatic 28, 3) := by decide +kernel
theorem kd_De_mayFeed_14 : decode kc_De_mayFeed 14 = .ok (.ifCond .ne 7, 3) := by decide +kernel
theorem kd_De_mayFeed_17 : decode kc_De_mayFeed 17 = .ok (.iconst 1, 1) := by decide +kernel
theorem kd_De_mayFeed_18 : decode kc_De_mayFeed 18 = .ok (.goto 4, 3) := by decide +kernel
theorem kd_De_mayFeed_21 : decode kc_De_mayFeed 21 = .ok (.iconst 0, 1) := by decide +kernel
theorem kd_De_mayFeed_22 : decode kc_De_mayFeed 22 = .ok (.ireturn, 1) := by decide +kernel
theorem kd_De_isHeard_0 : decode kc_De_isHeard 0 = .ok (.aload_n 0, 1) := by decide +kernel
theorem kd_De_isHeard_1 : decode kc_De_isHeard 1 = .ok (.getfield 11, 3) := by decide +kernel
theorem kd_De_isHeard_4 : decode kc_De_isHeard 4 = .ok (.iload_n 1, 1) := by decide +kernel
theorem kd_De_isHeard_5 : decode kc_De_isHeard 5 = .ok (.aaload, 1) := by decide +kernel
theorem kd_De_isHeard_6 : decode kc_De_isHeard 6 = .ok (.getfield 32, 3) := by decide +kernel
theorem kd_De_isHeard_9 : decode kc_De_isHeard 9 = .ok (.ifCond .eq 5, 3) := by decide +kernel
theorem kd_De_isHeard_12 : decode kc_De_isHeard 12 = .ok (.iconst 0, 1) := by decide +kernel
theorem kd_De_isHeard_13 : decode kc_De_isHeard 13 = .ok (.ireturn, 1) := by decide +kernel
theorem kd_De_isHeard_14 : decode kc_De_isHeard 14 = .ok (.aload_n 0, 1) := by decide +kernel
theorem kd_De_isHeard_15 : decode kc_De_isHeard 15 = .ok (.invokevirtual 36, 3) := by decide +kernel
theorem kd_De_isHeard_18 : decode kc_De_isHeard 18 = .ok (.istore_n 2, 1) := by decide +kernel
theorem kd_De_isHeard_19 : decode kc_De_isHeard 19 = .ok (.iload_n 2, 1) := by decide +kernel
theorem kd_De_isHeard_20 : decode kc_De_isHeard 20 = .ok (.ifCond .eq 21, 3) := by decide +kernel
theorem kd_De_isHeard_23 : decode kc_De_isHeard 23 = .ok (.iload_n 2, 1) := by decide +kernel
theorem kd_De_isHeard_24 : decode kc_De_isHeard 24 = .ok (.iload_n 1, 1) := by decide +kernel
theorem kd_De_isHeard_25 : decode kc_De_isHeard 25 = .ok (.invokestatic 28, 3) := by decide +kernel
theorem kd_De_isHeard_28 : decode kc_De_isHeard 28 = .ok (.ifCond .ne 13, 3) := by decide +kernel
theorem kd_De_isHeard_31 : decode kc_De_isHeard 31 = .ok (.aload_n 0, 1) := by decide +kernel
theorem kd_De_isHeard_32 : decode kc_De_isHeard 32 = .ok (.iload_n 1, 1) := by decide +kernel
theorem kd_De_isHeard_33 : decode kc_De_isHeard 33 = .ok (.invokevirtual 24, 3) := by decide +kernel
theorem kd_De_isHeard_36 : decode kc_De_isHeard 36 = .ok (.iload_n 2, 1) := by decide +kernel
theorem kd_De_isHeard_37 : decode kc_De_isHeard 37 = .ok (.iand, 1) := by decide +kernel
theorem kd_De_isHeard_38 : decode kc_De_isHeard 38 = .ok (.ifCond .eq 5, 3) := by decide +kernel
theorem kd_De_isHeard_41 : decode kc_De_isHeard 41 = .ok (.iconst 1, 1) := by decide +kernel
theorem kd_De_isHeard_42 : decode kc_De_isHeard 42 = .ok (.ireturn, 1) := by decide +kernel
theorem kd_De_isHeard_43 : decode kc_De_isHeard 43 = .ok (.iconst 0, 1) := by decide +kernel
theorem kd_De_isHeard_44 : decode kc_De_isHeard 44 = .ok (.istore_n 3, 1) := by decide +kernel
theorem kd_De_isHeard_45 : decode kc_De_isHeard 45 = .ok (.iload_n 3, 1) := by decide +kernel
theorem kd_De_isHeard_46 : decode kc_De_isHeard 46 = .ok (.bipush 8, 2) := by decide +kernel
theorem kd_De_isHeard_48 : decode kc_De_isHeard 48 = .ok (.if_icmp .ge 31, 3) := by decide +kernel
theorem kd_De_isHeard_51 : decode kc_De_isHeard 51 = .ok (.iload_n 2, 1) := by decide +kernel
theorem kd_De_isHeard_52 : decode kc_De_isHeard 52 = .ok (.iload_n 3, 1) := by decide +kernel
theorem kd_De_isHeard_53 : decode kc_De_isHeard 53 = .ok (.invokestatic 28, 3) := by decide +kernel
theorem kd_De_isHeard_56 : decode kc_De_isHeard 56 = .ok (.ifCond .eq 17, 3) := by decide +kernel
theorem kd_De_isHeard_59 : decode kc_De_isHeard 59 = .ok (.aload_n 0, 1) := by decide +kernel
theorem kd_De_isHeard_60 : decode kc_De_isHeard 60 = .ok (.iload_n 3, 1) := by decide +kernel
theorem kd_De_isHeard_61 : decode kc_De_isHeard 61 = .ok (.invokevirtual 24, 3) := by decide +kernel
theorem kd_De_isHeard_64 : decode kc_De_isHeard 64 = .ok (.iload_n 1, 1) := by decide +kernel
theorem kd_De_isHeard_65 : decode kc_De_isHeard 65 = .ok (.invokestatic 28, 3) := by decide +kernel
theorem kd_De_isHeard_68 : decode kc_De_isHeard 68 = .ok (.ifCond .eq 5, 3) := by decide +kernel
theorem kd_De_isHeard_71 : decode kc_De_isHeard 71 = .ok (.iconst 1, 1) := by decide +kernel
theorem kd_De_isHeard_72 : decode kc_De_isHeard 72 = .ok (.ireturn, 1) := by decide +kernel
theorem kd_De_isHeard_73 : decode kc_De_isHeard 73 = .ok (.iinc 3 1, 3) := by decide +kernel
theorem kd_De_isHeard_76 : decode kc_De_isHeard 76 = .ok (.goto (-31), 3) := by decide +kernel
theorem kd_De_isHeard_79 : decode kc_De_isHeard 79 = .ok (.iconst 0, 1) := by decide +kernel
theorem kd_De_isHeard_80 : decode kc_De_isHeard 80 = .ok (.ireturn, 1) := by decide +kernel
theorem kd_De_settle_0 : decode kc_De_settle 0 = .ok (.iconst 0, 1) := by decide +kernel
theorem kd_De_settle_1 : decode kc_De_settle 1 = .ok (.istore_n 1, 1) := by decide +kernel
theorem kd_De_settle_2 : decode kc_De_settle 2 = .ok (.iconst 4, 1) := by decide +kernel
theorem kd_De_settle_3 : decode kc_De_settle 3 = .ok (.istore_n 2, 1) := by decide +kernel
theorem kd_De_settle_4 : decode kc_De_settle 4 = .ok (.iload_n 2, 1) := by decide +kernel
theorem kd_De_settle_5 : decode kc_De_settle 5 = .ok (.ifCond .lt 45, 3) := by decide +kernel
theorem kd_De_settle_8 : decode kc_De_settle 8 = .ok (.iconst 0, 1) := by decide +kernel
theorem kd_De_settle_9 : decode kc_De_settle 9 = .ok (.istore_n 3, 1) := by decide +kernel
theorem kd_De_settle_10 : decode kc_De_settle 10 = .ok (.iload_n 3, 1) := by decide +kernel
theorem kd_De_settle_11 : decode kc_De_settle 11 = .ok (.bipush 8, 2) := by decide +kernel
theorem kd_De_settle_13 : decode kc_De_settle 13 = .ok (.if_icmp .ge 31, 3) := by decide +kernel
theorem kd_De_settle_16 : decode kc_De_settle 16 = .ok (.aload_n 0, 1) := by decide +kernel
theorem kd_De_settle_17 : decode kc_De_settle 17 = .ok (.iload_n 3, 1) := by decide +kernel
theorem kd_De_settle_18 : decode kc_De_settle 18 = .ok (.invokevirtual 24, 3) := by decide +kernel
theorem kd_De_settle_21 : decode kc_De_settle 21 = .ok (.invokestatic 40, 3) := by decide +kernel
theorem kd_De_settle_24 : decode kc_De_settle 24 = .ok (.iload_n 2, 1) := by decide +kernel
theorem kd_De_settle_25 : decode kc_De_settle 25 = .ok (.if_icmp .ne 13, 3) := by decide +kernel
theorem kd_De_settle_28 : decode kc_De_settle 28 = .ok (.aload_n 0, 1) := by decide +kernel
theorem kd_De_settle_29 : decode kc_De_settle 29 = .ok (.getfield 17, 3) := by decide +kernel
theorem kd_De_settle_32 : decode kc_De_settle 32 = .ok (.iload_n 1, 1) := by decide +kernel
theorem kd_De_settle_33 : decode kc_De_settle 33 = .ok (.iload_n 3, 1) := by decide +kernel
theorem kd_De_settle_34 : decode kc_De_settle 34 = .ok (.iastore, 1) := by decide +kernel
theorem kd_De_settle_35 : decode kc_De_settle 35 = .ok (.iinc 1 1, 3) := by decide +kernel
theorem kd_De_settle_38 : decode kc_De_settle 38 = .ok (.iinc 3 1, 3) := by decide +kernel
theorem kd_De_settle_41 : decode kc_De_settle 41 = .ok (.goto (-31), 3) := by decide +kernel
theorem kd_De_settle_44 : decode kc_De_settle 44 = .ok (.iinc 2 (-1), 3) := by decide +kernel
theorem kd_De_settle_47 : decode kc_De_settle 47 = .ok (.goto (-43), 3) := by decide +kernel
theorem kd_De_settle_50 : decode kc_De_settle 50 = .ok (.iconst 0, 1) := by decide +kernel
theorem kd_De_settle_51 : decode kc_De_settle 51 = .ok (.istore_n 2, 1) := by decide +kernel
theorem kd_De_settle_52 : decode kc_De_settle 52 = .ok (.iload_n 2, 1) := by decide +kernel
theorem kd_De_settle_53 : decode kc_De_settle 53 = .ok (.bipush 8, 2) := by decide +kernel
theorem kd_De_settle_55 : decode kc_De_settle 55 = .ok (.if_icmp .ge 33, 3) := by decide +kernel
theorem kd_De_settle_58 : decode kc_De_settle 58 = .ok (.aload_n 0, 1) := by decide +kernel
theorem kd_De_settle_59 : decode kc_De_settle 59 = .ok (.getfield 11, 3) := by decide +kernel
theorem kd_De_settle_62 : decode kc_De_settle 62 = .ok (.aload_n 0, 1) := by decide +kernel
theorem kd_De_settle_63 : decode kc_De_settle 63 = .ok (.getfield 17, 3) := by decide +kernel
theorem kd_De_settle_66 : decode kc_De_settle 66 = .ok (.iload_n 2, 1) := by decide +kernel
theorem kd_De_settle_67 : decode kc_De_settle 67 = .ok (.iaload, 1) := by decide +kernel
theorem kd_De_settle_68 : decode kc_De_settle 68 = .ok (.aaload, 1) := by decide +kernel
theorem kd_De_settle_69 : decode kc_De_settle 69 = .ok (.aload_n 0, 1) := by decide +kernel
theorem kd_De_settle_70 : decode kc_De_settle 70 = .ok (.aload_n 0, 1) := by decide +kernel
theorem kd_De_settle_71 : decode kc_De_settle 71 = .ok (.getfield 17, 3) := by decide +kernel
theorem kd_De_settle_74 : decode kc_De_settle 74 = .ok (.iload_n 2, 1) := by decide +kernel
theorem kd_De_settle_75 : decode kc_De_settle 75 = .ok (.iaload, 1) := by decide +kernel
theorem kd_De_settle_76 : decode kc_De_settle 76 = .ok (.invokevirtual 45, 3) := by decide +kernel
theorem kd_De_settle_79 : decode kc_De_settle 79 = .ok (.invokevirtual 48, 3) := by decide +kernel
theorem kd_De_settle_82 : decode kc_De_settle 82 = .ok (.iinc 2 1, 3) := by decide +kernel
theorem kd_De_settle_85 : decode kc_De_settle 85 = .ok (.goto (-33), 3) := by decide +kernel
theorem kd_De_settle_88 : decode kc_De_settle 88 = .ok (.return_, 1) := by decide +kernel
theorem kd_De_mixInto_0 : decode kc_De_mixInto 0 = .ok (.aload_n 0, 1) := by decide +kernel
theorem kd_De_mixInto_1 : decode kc_De_mixInto 1 = .ok (.getfield 11, 3) := by decide +kernel
theorem kd_De_mixInto_4 : decode kc_De_mixInto 4 = .ok (.iload_n 1, 1) := by decide +kernel
theorem kd_De_mixInto_5 : decode kc_De_mixInto 5 = .ok (.aaload, 1) := by decide +kernel
theorem kd_De_mixInto_6 : decode kc_De_mixInto 6 = .ok (.getfield 51, 3) := by decide +kernel
theorem kd_De_mixInto_9 : decode kc_De_mixInto 9 = .ok (.astore_n 3, 1) := by decide +kernel
theorem kd_De_mixInto_10 : decode kc_De_mixInto 10 = .ok (.aload_n 3, 1) := by decide +kernel
theorem kd_De_mixInto_11 : decode kc_De_mixInto 11 = .ok (.iconst 0, 1) := by decide +kernel
theorem kd_De_mixInto_12 : decode kc_De_mixInto 12 = .ok (.iload_n 2, 1) := by decide +kernel
theorem kd_De_mixInto_13 : decode kc_De_mixInto 13 = .ok (.iconst 0, 1) := by decide +kernel
theorem kd_De_mixInto_14 : decode kc_De_mixInto 14 = .ok (.invokestatic 54, 3) := by decide +kernel
theorem kd_De_mixInto_17 : decode kc_De_mixInto 17 = .ok (.iconst 0, 1) := by decide +kernel
theorem kd_De_mixInto_18 : decode kc_De_mixInto 18 = .ok (.istore 4, 2) := by decide +kernel
theorem kd_De_mixInto_20 : decode kc_De_mixInto 20 = .ok (.iload 4, 2) := by decide +kernel
theorem kd_De_mixInto_22 : decode kc_De_mixInto 22 = .ok (.bipush 7, 2) := by decide +kernel
theorem kd_De_mixInto_24 : decode kc_De_mixInto 24 = .ok (.if_icmp .ge 82, 3) := by decide +kernel
theorem kd_De_mixInto_27 : decode kc_De_mixInto 27 = .ok (.aload_n 0, 1) := by decide +kernel
theorem kd_De_mixInto_28 : decode kc_De_mixInto 28 = .ok (.getfield 11, 3) := by decide +kernel
theorem kd_De_mixInto_31 : decode kc_De_mixInto 31 = .ok (.iload 4, 2) := by decide +kernel
theorem kd_De_mixInto_33 : decode kc_De_mixInto 33 = .ok (.aaload, 1) := by decide +kernel
theorem kd_De_mixInto_34 : decode kc_De_mixInto 34 = .ok (.astore 5, 2) := by decide +kernel
theorem kd_De_mixInto_36 : decode kc_De_mixInto 36 = .ok (.aload_n 0, 1) := by decide +kernel
theorem kd_De_mixInto_37 : decode kc_De_mixInto 37 = .ok (.getfield 11, 3) := by decide +kernel
theorem kd_De_mixInto_40 : decode kc_De_mixInto 40 = .ok (.iload_n 1, 1) := by decide +kernel
theorem kd_De_mixInto_41 : decode kc_De_mixInto 41 = .ok (.aaload, 1) := by decide +kernel
theorem kd_De_mixInto_42 : decode kc_De_mixInto 42 = .ok (.getfield 60, 3) := by decide +kernel
theorem kd_De_mixInto_45 : decode kc_De_mixInto 45 = .ok (.aload 5, 2) := by decide +kernel
theorem kd_De_mixInto_47 : decode kc_De_mixInto 47 = .ok (.getfield 64, 3) := by decide +kernel
theorem kd_De_mixInto_50 : decode kc_De_mixInto 50 = .ok (.isub, 1) := by decide +kernel
theorem kd_De_mixInto_51 : decode kc_De_mixInto 51 = .ok (.istore 6, 2) := by decide +kernel
theorem kd_De_mixInto_53 : decode kc_De_mixInto 53 = .ok (.aload 5, 2) := by decide +kernel
theorem kd_De_mixInto_55 : decode kc_De_mixInto 55 = .ok (.getfield 67, 3) := by decide +kernel
theorem kd_De_mixInto_58 : decode kc_De_mixInto 58 = .ok (.iload_n 1, 1) := by decide +kernel
theorem kd_De_mixInto_59 : decode kc_De_mixInto 59 = .ok (.if_icmp .ne 15, 3) := by decide +kernel
theorem kd_De_mixInto_62 : decode kc_De_mixInto 62 = .ok (.aload 5, 2) := by decide +kernel
theorem kd_De_mixInto_64 : decode kc_De_mixInto 64 = .ok (.aload_n 3, 1) := by decide +kernel
theorem kd_De_mixInto_65 : decode kc_De_mixInto 65 = .ok (.sipush 256, 3) := by decide +kernel
theorem kd_De_mixInto_68 : decode kc_De_mixInto 68 = .ok (.iload 6, 2) := by decide +kernel
theorem kd_De_mixInto_70 : decode kc_De_mixInto 70 = .ok (.iload_n 2, 1) := by decide +kernel
theorem kd_De_mixInto_71 : decode kc_De_mixInto 71 = .ok (.invokevirtual 70, 3) := by decide +kernel
theorem kd_De_mixInto_74 : decode kc_De_mixInto 74 = .ok (.aload 5, 2) := by decide +kernel
theorem kd_De_mixInto_76 : decode kc_De_mixInto 76 = .ok (.getfield 73, 3) := by decide +kernel
theorem kd_De_mixInto_79 : decode kc_De_mixInto 79 = .ok (.iload_n 1, 1) := by decide +kernel
theorem kd_De_mixInto_80 : decode kc_De_mixInto 80 = .ok (.iaload, 1) := by decide +kernel
theorem kd_De_mixInto_81 : decode kc_De_mixInto 81 = .ok (.ifCond .le 19, 3) := by decide +kernel
theorem kd_De_mixInto_84 : decode kc_De_mixInto 84 = .ok (.aload 5, 2) := by decide +kernel
theorem kd_De_mixInto_86 : decode kc_De_mixInto 86 = .ok (.aload_n 3, 1) := by decide +kernel
theorem kd_De_mixInto_87 : decode kc_De_mixInto 87 = .ok (.aload 5, 2) := by decide +kernel
theorem kd_De_mixInto_89 : decode kc_De_mixInto 89 = .ok (.getfield 73, 3) := by decide +kernel
theorem kd_De_mixInto_92 : decode kc_De_mixInto 92 = .ok (.iload_n 1, 1) := by decide +kernel
theorem kd_De_mixInto_93 : decode kc_De_mixInto 93 = .ok (.iaload, 1) := by decide +kernel
theorem kd_De_mixInto_94 : decode kc_De_mixInto 94 = .ok (.iload 6, 2) := by decide +kernel
theorem kd_De_mixInto_96 : decode kc_De_mixInto 96 = .ok (.iload_n 2, 1) := by decide +kernel
theorem kd_De_mixInto_97 : decode kc_De_mixInto 97 = .ok (.invokevirtual 70, 3) := by decide +kernel
theorem kd_De_mixInto_100 : decode kc_De_mixInto 100 = .ok (.iinc 4 1, 3) := by decide +kernel
theorem kd_De_mixInto_103 : decode kc_De_mixInto 103 = .ok (.goto (-83), 3) := by decide +kernel
theorem kd_De_mixInto_106 : decode kc_De_mixInto 106 = .ok (.return_, 1) := by decide +kernel
theorem kd_De_greatestDelayInto_0 : decode kc_De_greatestDelayInto 0 = .ok (.iconst 0, 1) := by decide +kernel
theorem kd_De_greatestDelayInto_1 : decode kc_De_greatestDelayInto 1 = .ok (.istore_n 2, 1) := by decide +kernel
theorem kd_De_greatestDelayInto_2 : decode kc_De_greatestDelayInto 2 = .ok (.iconst 0, 1) := by decide +kernel
theorem kd_De_greatestDelayInto_3 : decode kc_De_greatestDelayInto 3 = .ok (.istore_n 3, 1) := by decide +kernel
theorem kd_De_greatestDelayInto_4 : decode kc_De_greatestDelayInto 4 = .ok (.iload_n 3, 1) := by decide +kernel
theorem kd_De_greatestDelayInto_5 : decode kc_De_greatestDelayInto 5 = .ok (.bipush 7, 2) := by decide +kernel
theorem kd_De_greatestDelayInto_7 : decode kc_De_greatestDelayInto 7 = .ok (.if_icmp .ge 36, 3) := by decide +kernel
theorem kd_De_greatestDelayInto_10 : decode kc_De_greatestDelayInto 10 = .ok (.aload_n 0, 1) := by decide +kernel
theorem kd_De_greatestDelayInto_11 : decode kc_De_greatestDelayInto 11 = .ok (.getfield 11, 3) := by decide +kernel
theorem kd_De_greatestDelayInto_14 : decode kc_De_greatestDelayInto 14 = .ok (.iload_n 3, 1) := by decide +kernel
theorem kd_De_greatestDelayInto_15 : decode kc_De_greatestDelayInto 15 = .ok (.aaload, 1) := by decide +kernel
theorem kd_De_greatestDelayInto_16 : decode kc_De_greatestDelayInto 16 = .ok (.iload_n 1, 1) := by decide +kernel
theorem kd_De_greatestDelayInto_17 : decode kc_De_greatestDelayInto 17 = .ok (.invokevirtual 76, 3) := by decide +kernel
theorem kd_De_greatestDelayInto_20 : decode kc_De_greatestDelayInto 20 = .ok (.ifCond .eq 17, 3) := by decide +kernel
theorem kd_De_greatestDelayInto_23 : decode kc_De_greatestDelayInto 23 = .ok (.iload_n 2, 1) := by decide +kernel
theorem kd_De_greatestDelayInto_24 : decode kc_De_greatestDelayInto 24 = .ok (.aload_n 0, 1) := by decide +kernel
theorem kd_De_greatestDelayInto_25 : decode kc_De_greatestDelayInto 25 = .ok (.getfield 11, 3) := by decide +kernel
theorem kd_De_greatestDelayInto_28 : decode kc_De_greatestDelayInto 28 = .ok (.iload_n 3, 1) := by decide +kernel
theorem kd_De_greatestDelayInto_29 : decode kc_De_greatestDelayInto 29 = .ok (.aaload, 1) := by decide +kernel
theorem kd_De_greatestDelayInto_30 : decode kc_De_greatestDelayInto 30 = .ok (.getfield 64, 3) := by decide +kernel
theorem kd_De_greatestDelayInto_33 : decode kc_De_greatestDelayInto 33 = .ok (.invokestatic 80, 3) := by decide +kernel
theorem kd_De_greatestDelayInto_36 : decode kc_De_greatestDelayInto 36 = .ok (.istore_n 2, 1) := by decide +kernel
theorem kd_De_greatestDelayInto_37 : decode kc_De_greatestDelayInto 37 = .ok (.iinc 3 1, 3) := by decide +kernel
theorem kd_De_greatestDelayInto_40 : decode kc_De_greatestDelayInto 40 = .ok (.goto (-36), 3) := by decide +kernel
theorem kd_De_greatestDelayInto_43 : decode kc_De_greatestDelayInto 43 = .ok (.iload_n 2, 1) := by decide +kernel
theorem kd_De_greatestDelayInto_44 : decode kc_De_greatestDelayInto 44 = .ok (.ireturn, 1) := by decide +kernel
theorem kd_De_reach_0 : decode kc_De_reach 0 = .ok (.aload_n 0, 1) := by decide +kernel
theorem kd_De_reach_1 : decode kc_De_reach 1 = .ok (.iload_n 1, 1) := by decide +kernel
theorem kd_De_reach_2 : decode kc_De_reach 2 = .ok (.invokevirtual 86, 3) := by decide +kernel
theorem kd_De_reach_5 : decode kc_De_reach 5 = .ok (.istore_n 2, 1) := by decide +kernel
theorem kd_De_reach_6 : decode kc_De_reach 6 = .ok (.iconst 4, 1) := by decide +kernel
theorem kd_De_reach_7 : decode kc_De_reach 7 = .ok (.istore_n 3, 1) := by decide +kernel
theorem kd_De_reach_8 : decode kc_De_reach 8 = .ok (.iload_n 3, 1) := by decide +kernel
theorem kd_De_reach_9 : decode kc_De_reach 9 = .ok (.bipush 7, 2) := by decide +kernel
theorem kd_De_reach_11 : decode kc_De_reach 11 = .ok (.if_icmp .ge 43, 3) := by decide +kernel
theorem kd_De_reach_14 : decode kc_De_reach 14 = .ok (.iconst 4, 1) := by decide +kernel
theorem kd_De_reach_15 : decode kc_De_reach 15 = .ok (.istore 4, 2) := by decide +kernel
theorem kd_De_reach_17 : decode kc_De_reach 17 = .ok (.iload 4, 2) := by decide +kernel
theorem kd_De_reach_19 : decode kc_De_reach 19 = .ok (.bipush 7, 2) := by decide +kernel
theorem kd_De_reach_21 : decode kc_De_reach 21 = .ok (.if_icmp .ge 27, 3) := by decide +kernel
theorem kd_De_reach_24 : decode kc_De_reach 24 = .ok (.iload_n 2, 1) := by decide +kernel
theorem kd_De_reach_25 : decode kc_De_reach 25 = .ok (.iload 4, 2) := by decide +kernel
theorem kd_De_reach_27 : decode kc_De_reach 27 = .ok (.invokestatic 28, 3) := by decide +kernel
theorem kd_De_reach_30 : decode kc_De_reach 30 = .ok (.ifCond .eq 12, 3) := by decide +kernel
theorem kd_De_reach_33 : decode kc_De_reach 33 = .ok (.iload_n 2, 1) := by decide +kernel
theorem kd_De_reach_34 : decode kc_De_reach 34 = .ok (.aload_n 0, 1) := by decide +kernel
theorem kd_De_reach_35 : decode kc_De_reach 35 = .ok (.iload 4, 2) := by decide +kernel
theorem kd_De_reach_37 : decode kc_De_reach 37 = .ok (.invokevirtual 86, 3) := by decide +kernel
theorem kd_De_reach_40 : decode kc_De_reach 40 = .ok (.ior, 1) := by decide +kernel
theorem kd_De_reach_41 : decode kc_De_reach 41 = .ok (.istore_n 2, 1) := by decide +kernel
theorem kd_De_reach_42 : decode kc_De_reach 42 = .ok (.iinc 4 1, 3) := by decide +kernel
theorem kd_De_reach_45 : decode kc_De_reach 45 = .ok (.goto (-28), 3) := by decide +kernel
theorem kd_De_reach_48 : decode kc_De_reach 48 = .ok (.iinc 3 1, 3) := by decide +kernel
theorem kd_De_reach_51 : decode kc_De_reach 51 = .ok (.goto (-43), 3) := by decide +kernel
theorem kd_De_reach_54 : decode kc_De_reach 54 = .ok (.iload_n 2, 1) := by decide +kernel
theorem kd_De_reach_55 : decode kc_De_reach 55 = .ok (.ireturn, 1) := by decide +kernel
theorem kd_De_fedBy_0 : decode kc_De_fedBy 0 = .ok (.iconst 0, 1) := by decide +kernel
theorem kd_De_fedBy_1 : decode kc_De_fedBy 1 = .ok (.istore_n 2, 1) := by decide +kernel
theorem kd_De_fedBy_2 : decode kc_De_fedBy 2 = .ok (.iconst 4, 1) := by decide +kernel
theorem kd_De_fedBy_3 : decode kc_De_fedBy 3 = .ok (.istore_n 3, 1) := by decide +kernel
theorem kd_De_fedBy_4 : decode kc_De_fedBy 4 = .ok (.iload_n 3, 1) := by decide +kernel
theorem kd_De_fedBy_5 : decode kc_De_fedBy 5 = .ok (.bipush 8, 2) := by decide +kernel
theorem kd_De_fedBy_7 : decode kc_De_fedBy 7 = .ok (.if_icmp .ge 28, 3) := by decide +kernel
theorem kd_De_fedBy_10 : decode kc_De_fedBy 10 = .ok (.aload_n 0, 1) := by decide +kernel
theorem kd_De_fedBy_11 : decode kc_De_fedBy 11 = .ok (.getfield 11, 3) := by decide +kernel
theorem kd_De_fedBy_14 : decode kc_De_fedBy 14 = .ok (.iload_n 1, 1) := by decide +kernel
theorem kd_De_fedBy_15 : decode kc_De_fedBy 15 = .ok (.aaload, 1) := by decide +kernel
theorem kd_De_fedBy_16 : decode kc_De_fedBy 16 = .ok (.iload_n 3, 1) := by decide +kernel
theorem kd_De_fedBy_17 : decode kc_De_fedBy 17 = .ok (.invokevirtual 76, 3) := by decide +kernel
theorem kd_De_fedBy_20 : decode kc_De_fedBy 20 = .ok (.ifCond .eq 9, 3) := by decide +kernel
theorem kd_De_fedBy_23 : decode kc_De_fedBy 23 = .ok (.iload_n 2, 1) := by decide +kernel
theorem kd_De_fedBy_24 : decode kc_De_fedBy 24 = .ok (.iconst 1, 1) := by decide +kernel
theorem kd_De_fedBy_25 : decode kc_De_fedBy 25 = .ok (.iload_n 3, 1) := by decide +kernel
theorem kd_De_fedBy_26 : decode kc_De_fedBy 26 = .ok (.ishl, 1) := by decide +kernel
theorem kd_De_fedBy_27 : decode kc_De_fedBy 27 = .ok (.ior, 1) := by decide +kernel
theorem kd_De_fedBy_28 : decode kc_De_fedBy 28 = .ok (.istore_n 2, 1) := by decide +kernel
theorem kd_De_fedBy_29 : decode kc_De_fedBy 29 = .ok (.iinc 3 1, 3) := by decide +kernel
theorem kd_De_fedBy_32 : decode kc_De_fedBy 32 = .ok (.goto (-28), 3) := by decide +kernel
theorem kd_De_fedBy_35 : decode kc_De_fedBy 35 = .ok (.iload_n 2, 1) := by decide +kernel
theorem kd_De_fedBy_36 : decode kc_De_fedBy 36 = .ok (.ireturn, 1) := by decide +kernel
theorem kd_De_solos_0 : decode kc_De_solos 0 = .ok (.iconst 0, 1) := by decide +kernel
theorem kd_De_solos_1 : decode kc_De_solos 1 = .ok (.istore_n 1, 1) := by decide +kernel
theorem kd_De_solos_2 : decode kc_De_solos 2 = .ok (.iconst 0, 1) := by decide +kernel
theorem kd_De_solos_3 : decode kc_De_solos 3 = .ok (.istore_n 2, 1) := by decide +kernel
theorem kd_De_solos_4 : decode kc_De_solos 4 = .ok (.iload_n 2, 1) := by decide +kernel
theorem kd_De_solos_5 : decode kc_De_solos 5 = .ok (.bipush 8, 2) := by decide +kernel
theorem kd_De_solos_7 : decode kc_De_solos 7 = .ok (.if_icmp .ge 27, 3) := by decide +kernel
theorem kd_De_solos_10 : decode kc_De_solos 10 = .ok (.aload_n 0, 1) := by decide +kernel
theorem kd_De_solos_11 : decode kc_De_solos 11 = .ok (.getfield 11, 3) := by decide +kernel
theorem kd_De_solos_14 : decode kc_De_solos 14 = .ok (.iload_n 2, 1) := by decide +kernel
theorem kd_De_solos_15 : decode kc_De_solos 15 = .ok (.aaload, 1) := by decide +kernel
theorem kd_De_solos_16 : decode kc_De_solos 16 = .ok (.getfield 89, 3) := by decide +kernel
theorem kd_De_solos_19 : decode kc_De_solos 19 = .ok (.ifCond .eq 9, 3) := by decide +kernel
theorem kd_De_solos_22 : decode kc_De_solos 22 = .ok (.iload_n 1, 1) := by decide +kernel
theorem kd_De_solos_23 : decode kc_De_solos 23 = .ok (.iconst 1, 1) := by decide +kernel
theorem kd_De_solos_24 : decode kc_De_solos 24 = .ok (.iload_n 2, 1) := by decide +kernel
theorem kd_De_solos_25 : decode kc_De_solos 25 = .ok (.ishl, 1) := by decide +kernel
theorem kd_De_solos_26 : decode kc_De_solos 26 = .ok (.ior, 1) := by decide +kernel
theorem kd_De_solos_27 : decode kc_De_solos 27 = .ok (.istore_n 1, 1) := by decide +kernel
theorem kd_De_solos_28 : decode kc_De_solos 28 = .ok (.iinc 2 1, 3) := by decide +kernel
theorem kd_De_solos_31 : decode kc_De_solos 31 = .ok (.goto (-27), 3) := by decide +kernel
theorem kd_De_solos_34 : decode kc_De_solos 34 = .ok (.iload_n 1, 1) := by decide +kernel
theorem kd_De_solos_35 : decode kc_De_solos 35 = .ok (.ireturn, 1) := by decide +kernel
theorem kd_De_has_0 : decode kc_De_has 0 = .ok (.iload_n 0, 1) := by decide +kernel
theorem kd_De_has_1 : decode kc_De_has 1 = .ok (.iload_n 1, 1) := by decide +kernel
theorem kd_De_has_2 : decode kc_De_has 2 = .ok (.ishr, 1) := by decide +kernel
theorem kd_De_has_3 : decode kc_De_has 3 = .ok (.iconst 1, 1) := by decide +kernel
theorem kd_De_has_4 : decode kc_De_has 4 = .ok (.iand, 1) := by decide +kernel
theorem kd_De_has_5 : decode kc_De_has 5 = .ok (.iconst 1, 1) := by decide +kernel
theorem kd_De_has_6 : decode kc_De_has 6 = .ok (.if_icmp .ne 7, 3) := by decide +kernel
theorem kd_De_has_9 : decode kc_De_has 9 = .ok (.iconst 1, 1) := by decide +kernel
theorem kd_De_has_10 : decode kc_De_has 10 = .ok (.goto 4, 3) := by decide +kernel
theorem kd_De_has_13 : decode kc_De_has 13 = .ok (.iconst 0, 1) := by decide +kernel
theorem kd_De_has_14 : decode kc_De_has 14 = .ok (.ireturn, 1) := by decide +kernel
theorem kd_Ef_init_0 : decode kc_Ef_init 0 = .ok (.aload_n 0, 1) := by decide +kernel
theorem kd_Ef_init_1 : decode kc_Ef_init 1 = .ok (.invokespecial 3, 3) := by decide +kernel
theorem kd_Ef_init_4 : decode kc_Ef_init 4 = .ok (.aload_n 0, 1) := by decide +kernel
theorem kd_Ef_init_5 : decode kc_Ef_init 5 = .ok (.bipush 32, 2) := by decide +kernel
theorem kd_Ef_init_7 : decode kc_Ef_init 7 = .ok (.newarray .int, 2) := by decide +kernel
theorem kd_Ef_init_9 : decode kc_Ef_init 9 = .ok (.putfield 11, 3) := by decide +kernel
theorem kd_Ef_init_12 : decode kc_Ef_init 12 = .ok (.return_, 1) := by decide +kernel
theorem kd_Ef_allows_0 : decode kc_Ef_allows 0 = .ok (.iload_n 0, 1) := by decide +kernel
theorem kd_Ef_allows_1 : decode kc_Ef_allows 1 = .ok (.tableswitch 146 0 6 #[43, 45, 50, 59, 86, 112, 138], 43) := by decide +kernel
theorem kd_Ef_allows_44 : decode kc_Ef_allows 44 = .ok (.iconst 1, 1) := by decide +kernel
theorem kd_Ef_allows_45 : decode kc_Ef_allows 45 = .ok (.ireturn, 1) := by decide +kernel
theorem kd_Ef_allows_46 : decode kc_Ef_allows 46 = .ok (.iload_n 1, 1) := by decide +kernel
theorem kd_Ef_allows_47 : decode kc_Ef_allows 47 = .ok (.invokestatic 15, 3) := by decide +kernel
theorem kd_Ef_allows_50 : decode kc_Ef_allows 50 = .ok (.ireturn, 1) := by decide +kernel
theorem kd_Ef_allows_51 : decode kc_Ef_allows 51 = .ok (.iload_n 1, 1) := by decide +kernel
theorem kd_Ef_allows_52 : decode kc_Ef_allows 52 = .ok (.iconst 0, 1) := by decide +kernel
theorem kd_Ef_allows_53 : decode kc_Ef_allows 53 = .ok (.sipush 256, 3) := by decide +kernel
theorem kd_Ef_allows_56 : decode kc_Ef_allows 56 = .ok (.invokestatic 19, 3) := by decide +kernel
theorem kd_Ef_allows_59 : decode kc_Ef_allows 59 = .ok (.ireturn, 1) := by decide +kernel
theorem kd_Ef_allows_60 : decode kc_Ef_allows 60 = .ok (.iload_n 1, 1) := by decide +kernel
theorem kd_Ef_allows_61 : decode kc_Ef_allows 61 = .ok (.iconst 1, 1) := by decide +kernel
theorem kd_Ef_allows_62 : decode kc_Ef_allows 62 = .ok (.bipush 32, 2) := by decide +kernel
theorem kd_Ef_allows_64 : decode kc_Ef_allows 64 = .ok (.invokestatic 19, 3) := by decide +kernel
theorem kd_Ef_allows_67 : decode kc_Ef_allows 67 = .ok (.ifCond .eq 18, 3) := by decide +kernel
theorem kd_Ef_allows_70 : decode kc_Ef_allows 70 = .ok (.iload_n 2, 1) := by decide +kernel
theorem kd_Ef_allows_71 : decode kc_Ef_allows 71 = .ok (.iconst 0, 1) := by decide +kernel
theorem kd_Ef_allows_72 : decode kc_Ef_allows 72 = .ok (.sipush 255, 3) := by decide +kernel
theorem kd_Ef_allows_75 : decode kc_Ef_allows 75 = .ok (.invokestatic 19, 3) := by decide +kernel
theorem kd_Ef_allows_78 : decode kc_Ef_allows 78 = .ok (.ifCond .eq 7, 3) := by decide +kernel
theorem kd_Ef_allows_81 : decode kc_Ef_allows 81 = .ok (.iconst 1, 1) := by decide +kernel
theorem kd_Ef_allows_82 : decode kc_Ef_allows 82 = .ok (.goto 4, 3) := by decide +kernel
theorem kd_Ef_allows_85 : decode kc_Ef_allows 85 = .ok (.iconst 0, 1) := by decide +kernel
theorem kd_Ef_allows_86 : decode kc_Ef_allows 86 = .ok (.ireturn, 1) := by decide +kernel
theorem kd_Ef_allows_87 : decode kc_Ef_allows 87 = .ok (.iload_n 1, 1) := by decide +kernel
theorem kd_Ef_allows_88 : decode kc_Ef_allows 88 = .ok (.iconst 1, 1) := by decide +kernel
theorem kd_Ef_allows_89 : decode kc_Ef_allows 89 = .ok (.ldc 23, 2) := by decide +kernel
theorem kd_Ef_allows_91 : decode kc_Ef_allows 91 = .ok (.invokestatic 19, 3) := by decide +kernel
theorem kd_Ef_allows_94 : decode kc_Ef_allows 94 = .ok (.ifCond .eq 17, 3) := by decide +kernel
theorem kd_Ef_allows_97 : decode kc_Ef_allows 97 = .ok (.iload_n 2, 1) := by decide +kernel
theorem kd_Ef_allows_98 : decode kc_Ef_allows 98 = .ok (.iconst 0, 1) := by decide +kernel
theorem kd_Ef_allows_99 : decode kc_Ef_allows 99 = .ok (.bipush 16, 2) := by decide +kernel
theorem kd_Ef_allows_101 : decode kc_Ef_allows 101 = .ok (.invokestatic 19, 3) := by decide +kernel
theorem kd_Ef_allows_104 : decode kc_Ef_allows 104 = .ok (.ifCond .eq 7, 3) := by decide +kernel
theorem kd_Ef_allows_107 : decode kc_Ef_allows 107 = .ok (.iconst 1, 1) := by decide +kernel
theorem kd_Ef_allows_108 : decode kc_Ef_allows 108 = .ok (.goto 4, 3) := by decide +kernel
theorem kd_Ef_allows_111 : decode kc_Ef_allows 111 = .ok (.iconst 0, 1) := by decide +kernel
theorem kd_Ef_allows_112 : decode kc_Ef_allows 112 = .ok (.ireturn, 1) := by decide +kernel
theorem kd_Ef_allows_113 : decode kc_Ef_allows 113 = .ok (.iload_n 1, 1) := by decide +kernel
theorem kd_Ef_allows_114 : decode kc_Ef_allows 114 = .ok (.iconst 0, 1) := by decide +kernel
theorem kd_Ef_allows_115 : decode kc_Ef_allows 115 = .ok (.ldc 23, 2) := by decide +kernel
theorem kd_Ef_allows_117 : decode kc_Ef_allows 117 = .ok (.invokestatic 19, 3) := by decide +kernel
theorem kd_Ef_allows_120 : decode kc_Ef_allows 120 = .ok (.ifCond .eq 17, 3) := by decide +kernel
theorem kd_Ef_allows_123 : decode kc_Ef_allows 123 = .ok (.iload_n 2, 1) := by decide +kernel
theorem kd_Ef_allows_124 : decode kc_Ef_allows 124 = .ok (.iconst 0, 1) := by decide +kernel
theorem kd_Ef_allows_125 : decode kc_Ef_allows 125 = .ok (.bipush 64, 2) := by decide +kernel
theorem kd_Ef_allows_127 : decode kc_Ef_allows 127 = .ok (.invokestatic 19, 3) := by decide +kernel
theorem kd_Ef_allows_130 : decode kc_Ef_allows 130 = .ok (.ifCond .eq 7, 3) := by decide +kernel
theorem kd_Ef_allows_133 : decode kc_Ef_allows 133 = .ok (.iconst 1, 1) := by decide +kernel
theorem kd_Ef_allows_134 : decode kc_Ef_allows 134 = .ok (.goto 4, 3) := by decide +kernel
theorem kd_Ef_allows_137 : decode kc_Ef_allows 137 = .ok (.iconst 0, 1) := by decide +kernel
theorem kd_Ef_allows_138 : decode kc_Ef_allows 138 = .ok (.ireturn, 1) := by decide +kernel
theorem kd_Ef_allows_139 : decode kc_Ef_allows 139 = .ok (.iload_n 1, 1) := by decide +kernel
theorem kd_Ef_allows_140 : decode kc_Ef_allows 140 = .ok (.iconst 0, 1) := by decide +kernel
theorem kd_Ef_allows_141 : decode kc_Ef_allows 141 = .ok (.ldc 23, 2) := by decide +kernel
theorem kd_Ef_allows_143 : decode kc_Ef_allows 143 = .ok (.invokestatic 19, 3) := by decide +kernel
theorem kd_Ef_allows_146 : decode kc_Ef_allows 146 = .ok (.ireturn, 1) := by decide +kernel
theorem kd_Ef_allows_147 : decode kc_Ef_allows 147 = .ok (.iconst 0, 1) := by decide +kernel
theorem kd_Ef_allows_148 : decode kc_Ef_allows 148 = .ok (.ireturn, 1) := by decide +kernel
theorem kd_Ef_become_0 : decode kc_Ef_become 0 = .ok (.aload_n 0, 1) := by decide +kernel
theorem kd_Ef_become_1 : decode kc_Ef_become 1 = .ok (.iload_n 1, 1) := by decide +kernel
theorem kd_Ef_become_2 : decode kc_Ef_become 2 = .ok (.putfield 24, 3) := by decide +kernel
theorem kd_Ef_become_5 : decode kc_Ef_become 5 = .ok (.aload_n 0, 1) := by decide +kernel
theorem kd_Ef_become_6 : decode kc_Ef_become 6 = .ok (.iload_n 2, 1) := by decide +kernel
theorem kd_Ef_become_7 : decode kc_Ef_become 7 = .ok (.putfield 28, 3) := by decide +kernel
theorem kd_Ef_become_10 : decode kc_Ef_become 10 = .ok (.aload_n 0, 1) := by decide +kernel
theorem kd_Ef_become_11 : decode kc_Ef_become 11 = .ok (.iload_n 3, 1) := by decide +kernel
theorem kd_Ef_become_12 : decode kc_Ef_become 12 = .ok (.putfield 31, 3) := by decide +kernel
theorem kd_Ef_become_15 : decode kc_Ef_become 15 = .ok (.return_, 1) := by decide +kernel
theorem kd_Ef_ownDelay_0 : decode kc_Ef_ownDelay 0 = .ok (.aload_n 0, 1) := by decide +kernel
theorem kd_Ef_ownDelay_1 : decode kc_Ef_ownDelay 1 = .ok (.getfield 24, 3) := by decide +kernel
theorem kd_Ef_ownDelay_4 : decode kc_Ef_ownDelay 4 = .ok (.iconst 4, 1) := by decide +kernel
theorem kd_Ef_ownDelay_5 : decode kc_Ef_ownDelay 5 = .ok (.if_icmp .ne 10, 3) := by decide +kernel
theorem kd_Ef_ownDelay_8 : decode kc_Ef_ownDelay 8 = .ok (.aload_n 0, 1) := by decide +kernel
theorem kd_Ef_ownDelay_9 : decode kc_Ef_ownDelay 9 = .ok (.getfield 31, 3) := by decide +kernel
theorem kd_Ef_ownDelay_12 : decode kc_Ef_ownDelay 12 = .ok (.goto 4, 3) := by decide +kernel
theorem kd_Ef_ownDelay_15 : decode kc_Ef_ownDelay 15 = .ok (.iconst 0, 1) := by decide +kernel
theorem kd_Ef_ownDelay_16 : decode kc_Ef_ownDelay 16 = .ok (.ireturn, 1) := by decide +kernel
theorem kd_Ef_forget_0 : decode kc_Ef_forget 0 = .ok (.aload_n 0, 1) := by decide +kernel
theorem kd_Ef_forget_1 : decode kc_Ef_forget 1 = .ok (.getfield 11, 3) := by decide +kernel
theorem kd_Ef_forget_4 : decode kc_Ef_forget 4 = .ok (.iconst 0, 1) := by decide +kernel
theorem kd_Ef_forget_5 : decode kc_Ef_forget 5 = .ok (.invokestatic 34, 3) := by decide +kernel
theorem kd_Ef_forget_8 : decode kc_Ef_forget 8 = .ok (.aload_n 0, 1) := by decide +kernel
theorem kd_Ef_forget_9 : decode kc_Ef_forget 9 = .ok (.iconst 0, 1) := by decide +kernel
theorem kd_Ef_forget_10 : decode kc_Ef_forget 10 = .ok (.putfield 40, 3) := by decide +kernel
theorem kd_Ef_forget_13 : decode kc_Ef_forget 13 = .ok (.aload_n 0, 1) := by decide +kernel
theorem kd_Ef_forget_14 : decode kc_Ef_forget 14 = .ok (.iconst 0, 1) := by decide +kernel
theorem kd_Ef_forget_15 : decode kc_Ef_forget 15 = .ok (.putfield 43, 3) := by decide +kernel
theorem kd_Ef_forget_18 : decode kc_Ef_forget 18 = .ok (.return_, 1) := by decide +kernel
theorem kd_Ef_next_0 : decode kc_Ef_next 0 = .ok (.aload_n 0, 1) := by decide +kernel
theorem kd_Ef_next_1 : decode kc_Ef_next 1 = .ok (.getfield 24, 3) := by decide +kernel
theorem kd_Ef_next_4 : decode kc_Ef_next 4 = .ok (.tableswitch 117 1 6 #[40, 52, 82, 88, 94, 100], 40) := by decide +kernel
theorem kd_Ef_next_44 : decode kc_Ef_next 44 = .ok (.iload_n 1, 1) := by decide +kernel
theorem kd_Ef_next_45 : decode kc_Ef_next 45 = .ok (.aload_n 0, 1) := by decide +kernel
