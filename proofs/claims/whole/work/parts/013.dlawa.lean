/-! A row that decodes each instruction. Printed. -/
theorem kd_La_samples_0 : decode kc_La_samples 0 = .ok (.aload_n 0, 1) := by decide +kernel
theorem kd_La_samples_1 : decode kc_La_samples 1 = .ok (.iload_n 1, 1) := by decide +kernel
theorem kd_La_samples_2 : decode kc_La_samples 2 = .ok (.iload_n 2, 1) := by decide +kernel
theorem kd_La_samples_3 : decode kc_La_samples 3 = .ok (.lload_n 3, 1) := by decide +kernel
theorem kd_La_samples_4 : decode kc_La_samples 4 = .ok (.invokevirtual 7, 3) := by decide +kernel
theorem kd_La_samples_7 : decode kc_La_samples 7 = .ok (.goto 11, 3) := by decide +kernel
theorem kd_La_samples_10 : decode kc_La_samples 10 = .ok (.astore 5, 2) := by decide +kernel
theorem kd_La_samples_12 : decode kc_La_samples 12 = .ok (.iconst 1, 1) := by decide +kernel
theorem kd_La_samples_13 : decode kc_La_samples 13 = .ok (.ireturn, 1) := by decide +kernel
theorem kd_La_samples_14 : decode kc_La_samples 14 = .ok (.astore 5, 2) := by decide +kernel
theorem kd_La_samples_16 : decode kc_La_samples 16 = .ok (.iconst 2, 1) := by decide +kernel
theorem kd_La_samples_17 : decode kc_La_samples 17 = .ok (.ireturn, 1) := by decide +kernel
theorem kd_La_samples_18 : decode kc_La_samples 18 = .ok (.iconst 0, 1) := by decide +kernel
theorem kd_La_samples_19 : decode kc_La_samples 19 = .ok (.ireturn, 1) := by decide +kernel
theorem kd_La_seal_0 : decode kc_La_seal 0 = .ok (.aload_n 0, 1) := by decide +kernel
theorem kd_La_seal_1 : decode kc_La_seal 1 = .ok (.iload_n 1, 1) := by decide +kernel
theorem kd_La_seal_2 : decode kc_La_seal 2 = .ok (.iload_n 2, 1) := by decide +kernel
theorem kd_La_seal_3 : decode kc_La_seal 3 = .ok (.invokevirtual 17, 3) := by decide +kernel
theorem kd_La_seal_6 : decode kc_La_seal 6 = .ok (.goto 12, 3) := by decide +kernel
theorem kd_La_seal_9 : decode kc_La_seal 9 = .ok (.astore_n 3, 1) := by decide +kernel
theorem kd_La_seal_10 : decode kc_La_seal 10 = .ok (.iconst 1, 1) := by decide +kernel
theorem kd_La_seal_11 : decode kc_La_seal 11 = .ok (.ireturn, 1) := by decide +kernel
theorem kd_La_seal_12 : decode kc_La_seal 12 = .ok (.astore_n 3, 1) := by decide +kernel
theorem kd_La_seal_13 : decode kc_La_seal 13 = .ok (.iconst 2, 1) := by decide +kernel
theorem kd_La_seal_14 : decode kc_La_seal 14 = .ok (.ireturn, 1) := by decide +kernel
theorem kd_La_seal_15 : decode kc_La_seal 15 = .ok (.astore_n 3, 1) := by decide +kernel
theorem kd_La_seal_16 : decode kc_La_seal 16 = .ok (.iconst 3, 1) := by decide +kernel
theorem kd_La_seal_17 : decode kc_La_seal 17 = .ok (.ireturn, 1) := by decide +kernel
theorem kd_La_seal_18 : decode kc_La_seal 18 = .ok (.iconst 0, 1) := by decide +kernel
theorem kd_La_seal_19 : decode kc_La_seal 19 = .ok (.ireturn, 1) := by decide +kernel
theorem kd_La_take_0 : decode kc_La_take 0 = .ok (.aload_n 3, 1) := by decide +kernel
theorem kd_La_take_1 : decode kc_La_take 1 = .ok (.iconst 0, 1) := by decide +kernel
theorem kd_La_take_2 : decode kc_La_take 2 = .ok (.aload_n 0, 1) := by decide +kernel
theorem kd_La_take_3 : decode kc_La_take 3 = .ok (.iload_n 1, 1) := by decide +kernel
theorem kd_La_take_4 : decode kc_La_take 4 = .ok (.iload_n 2, 1) := by decide +kernel
theorem kd_La_take_5 : decode kc_La_take 5 = .ok (.invokevirtual 23, 3) := by decide +kernel
theorem kd_La_take_8 : decode kc_La_take 8 = .ok (.i2l, 1) := by decide +kernel
theorem kd_La_take_9 : decode kc_La_take 9 = .ok (.lastore, 1) := by decide +kernel
theorem kd_La_take_10 : decode kc_La_take 10 = .ok (.goto 7, 3) := by decide +kernel
theorem kd_La_take_13 : decode kc_La_take 13 = .ok (.astore 4, 2) := by decide +kernel
theorem kd_La_take_15 : decode kc_La_take 15 = .ok (.iconst 1, 1) := by decide +kernel
theorem kd_La_take_16 : decode kc_La_take 16 = .ok (.ireturn, 1) := by decide +kernel
theorem kd_La_take_17 : decode kc_La_take 17 = .ok (.iconst 0, 1) := by decide +kernel
theorem kd_La_take_18 : decode kc_La_take 18 = .ok (.ireturn, 1) := by decide +kernel
theorem kd_La_clip_0 : decode kc_La_clip 0 = .ok (.aload 6, 2) := by decide +kernel
theorem kd_La_clip_2 : decode kc_La_clip 2 = .ok (.iconst 0, 1) := by decide +kernel
theorem kd_La_clip_3 : decode kc_La_clip 3 = .ok (.aload_n 0, 1) := by decide +kernel
theorem kd_La_clip_4 : decode kc_La_clip 4 = .ok (.iload_n 1, 1) := by decide +kernel
theorem kd_La_clip_5 : decode kc_La_clip 5 = .ok (.iload_n 2, 1) := by decide +kernel
theorem kd_La_clip_6 : decode kc_La_clip 6 = .ok (.iload_n 3, 1) := by decide +kernel
theorem kd_La_clip_7 : decode kc_La_clip 7 = .ok (.iload 4, 2) := by decide +kernel
theorem kd_La_clip_9 : decode kc_La_clip 9 = .ok (.iload 5, 2) := by decide +kernel
theorem kd_La_clip_11 : decode kc_La_clip 11 = .ok (.invokevirtual 27, 3) := by decide +kernel
theorem kd_La_clip_14 : decode kc_La_clip 14 = .ok (.i2l, 1) := by decide +kernel
theorem kd_La_clip_15 : decode kc_La_clip 15 = .ok (.lastore, 1) := by decide +kernel
theorem kd_La_clip_16 : decode kc_La_clip 16 = .ok (.goto 11, 3) := by decide +kernel
theorem kd_La_clip_19 : decode kc_La_clip 19 = .ok (.astore 7, 2) := by decide +kernel
theorem kd_La_clip_21 : decode kc_La_clip 21 = .ok (.iconst 1, 1) := by decide +kernel
theorem kd_La_clip_22 : decode kc_La_clip 22 = .ok (.ireturn, 1) := by decide +kernel
theorem kd_La_clip_23 : decode kc_La_clip 23 = .ok (.astore 7, 2) := by decide +kernel
theorem kd_La_clip_25 : decode kc_La_clip 25 = .ok (.iconst 2, 1) := by decide +kernel
theorem kd_La_clip_26 : decode kc_La_clip 26 = .ok (.ireturn, 1) := by decide +kernel
theorem kd_La_clip_27 : decode kc_La_clip 27 = .ok (.iconst 0, 1) := by decide +kernel
theorem kd_La_clip_28 : decode kc_La_clip 28 = .ok (.ireturn, 1) := by decide +kernel
theorem kd_La_drop_0 : decode kc_La_drop 0 = .ok (.aload_n 0, 1) := by decide +kernel
theorem kd_La_drop_1 : decode kc_La_drop 1 = .ok (.iload_n 1, 1) := by decide +kernel
theorem kd_La_drop_2 : decode kc_La_drop 2 = .ok (.invokevirtual 31, 3) := by decide +kernel
theorem kd_La_drop_5 : decode kc_La_drop 5 = .ok (.goto 6, 3) := by decide +kernel
theorem kd_La_drop_8 : decode kc_La_drop 8 = .ok (.astore_n 2, 1) := by decide +kernel
theorem kd_La_drop_9 : decode kc_La_drop 9 = .ok (.iconst 1, 1) := by decide +kernel
theorem kd_La_drop_10 : decode kc_La_drop 10 = .ok (.ireturn, 1) := by decide +kernel
theorem kd_La_drop_11 : decode kc_La_drop 11 = .ok (.iconst 0, 1) := by decide +kernel
theorem kd_La_drop_12 : decode kc_La_drop 12 = .ok (.ireturn, 1) := by decide +kernel
theorem kd_La_move_0 : decode kc_La_move 0 = .ok (.aload 4, 2) := by decide +kernel
theorem kd_La_move_2 : decode kc_La_move 2 = .ok (.iconst 0, 1) := by decide +kernel
theorem kd_La_move_3 : decode kc_La_move 3 = .ok (.aload_n 0, 1) := by decide +kernel
theorem kd_La_move_4 : decode kc_La_move 4 = .ok (.iload_n 1, 1) := by decide +kernel
theorem kd_La_move_5 : decode kc_La_move 5 = .ok (.iload_n 2, 1) := by decide +kernel
theorem kd_La_move_6 : decode kc_La_move 6 = .ok (.iload_n 3, 1) := by decide +kernel
theorem kd_La_move_7 : decode kc_La_move 7 = .ok (.invokevirtual 37, 3) := by decide +kernel
theorem kd_La_move_10 : decode kc_La_move 10 = .ok (.ifCond .eq 7, 3) := by decide +kernel
theorem kd_La_move_13 : decode kc_La_move 13 = .ok (.lconst 1, 1) := by decide +kernel
theorem kd_La_move_14 : decode kc_La_move 14 = .ok (.goto 4, 3) := by decide +kernel
theorem kd_La_move_17 : decode kc_La_move 17 = .ok (.lconst 0, 1) := by decide +kernel
theorem kd_La_move_18 : decode kc_La_move 18 = .ok (.lastore, 1) := by decide +kernel
theorem kd_La_move_19 : decode kc_La_move 19 = .ok (.goto 11, 3) := by decide +kernel
theorem kd_La_move_22 : decode kc_La_move 22 = .ok (.astore 5, 2) := by decide +kernel
theorem kd_La_move_24 : decode kc_La_move 24 = .ok (.iconst 1, 1) := by decide +kernel
theorem kd_La_move_25 : decode kc_La_move 25 = .ok (.ireturn, 1) := by decide +kernel
theorem kd_La_move_26 : decode kc_La_move 26 = .ok (.astore 5, 2) := by decide +kernel
theorem kd_La_move_28 : decode kc_La_move 28 = .ok (.iconst 2, 1) := by decide +kernel
theorem kd_La_move_29 : decode kc_La_move 29 = .ok (.ireturn, 1) := by decide +kernel
theorem kd_La_move_30 : decode kc_La_move 30 = .ok (.iconst 0, 1) := by decide +kernel
theorem kd_La_move_31 : decode kc_La_move 31 = .ok (.ireturn, 1) := by decide +kernel
theorem kd_La_split_0 : decode kc_La_split 0 = .ok (.aload_n 3, 1) := by decide +kernel
theorem kd_La_split_1 : decode kc_La_split 1 = .ok (.iconst 0, 1) := by decide +kernel
theorem kd_La_split_2 : decode kc_La_split 2 = .ok (.aload_n 0, 1) := by decide +kernel
theorem kd_La_split_3 : decode kc_La_split 3 = .ok (.iload_n 1, 1) := by decide +kernel
theorem kd_La_split_4 : decode kc_La_split 4 = .ok (.iload_n 2, 1) := by decide +kernel
theorem kd_La_split_5 : decode kc_La_split 5 = .ok (.invokevirtual 41, 3) := by decide +kernel
theorem kd_La_split_8 : decode kc_La_split 8 = .ok (.i2l, 1) := by decide +kernel
theorem kd_La_split_9 : decode kc_La_split 9 = .ok (.lastore, 1) := by decide +kernel
theorem kd_La_split_10 : decode kc_La_split 10 = .ok (.goto 11, 3) := by decide +kernel
theorem kd_La_split_13 : decode kc_La_split 13 = .ok (.astore 4, 2) := by decide +kernel
theorem kd_La_split_15 : decode kc_La_split 15 = .ok (.iconst 1, 1) := by decide +kernel
theorem kd_La_split_16 : decode kc_La_split 16 = .ok (.ireturn, 1) := by decide +kernel
theorem kd_La_split_17 : decode kc_La_split 17 = .ok (.astore 4, 2) := by decide +kernel
theorem kd_La_split_19 : decode kc_La_split 19 = .ok (.iconst 2, 1) := by decide +kernel
theorem kd_La_split_20 : decode kc_La_split 20 = .ok (.ireturn, 1) := by decide +kernel
theorem kd_La_split_21 : decode kc_La_split 21 = .ok (.iconst 0, 1) := by decide +kernel
theorem kd_La_split_22 : decode kc_La_split 22 = .ok (.ireturn, 1) := by decide +kernel
theorem kd_La_shape_0 : decode kc_La_shape 0 = .ok (.aload_n 0, 1) := by decide +kernel
theorem kd_La_shape_1 : decode kc_La_shape 1 = .ok (.iload_n 1, 1) := by decide +kernel
theorem kd_La_shape_2 : decode kc_La_shape 2 = .ok (.iload_n 2, 1) := by decide +kernel
theorem kd_La_shape_3 : decode kc_La_shape 3 = .ok (.iload_n 3, 1) := by decide +kernel
theorem kd_La_shape_4 : decode kc_La_shape 4 = .ok (.iload 4, 2) := by decide +kernel
theorem kd_La_shape_6 : decode kc_La_shape 6 = .ok (.invokevirtual 44, 3) := by decide +kernel
theorem kd_La_shape_9 : decode kc_La_shape 9 = .ok (.goto 11, 3) := by decide +kernel
theorem kd_La_shape_12 : decode kc_La_shape 12 = .ok (.astore 5, 2) := by decide +kernel
theorem kd_La_shape_14 : decode kc_La_shape 14 = .ok (.iconst 1, 1) := by decide +kernel
theorem kd_La_shape_15 : decode kc_La_shape 15 = .ok (.ireturn, 1) := by decide +kernel
theorem kd_La_shape_16 : decode kc_La_shape 16 = .ok (.astore 5, 2) := by decide +kernel
theorem kd_La_shape_18 : decode kc_La_shape 18 = .ok (.iconst 2, 1) := by decide +kernel
theorem kd_La_shape_19 : decode kc_La_shape 19 = .ok (.ireturn, 1) := by decide +kernel
theorem kd_La_shape_20 : decode kc_La_shape 20 = .ok (.iconst 0, 1) := by decide +kernel
theorem kd_La_shape_21 : decode kc_La_shape 21 = .ok (.ireturn, 1) := by decide +kernel
theorem kd_La_route_0 : decode kc_La_route 0 = .ok (.aload_n 3, 1) := by decide +kernel
theorem kd_La_route_1 : decode kc_La_route 1 = .ok (.iconst 0, 1) := by decide +kernel
theorem kd_La_route_2 : decode kc_La_route 2 = .ok (.aload_n 0, 1) := by decide +kernel
theorem kd_La_route_3 : decode kc_La_route 3 = .ok (.iload_n 1, 1) := by decide +kernel
theorem kd_La_route_4 : decode kc_La_route 4 = .ok (.iload_n 2, 1) := by decide +kernel
theorem kd_La_route_5 : decode kc_La_route 5 = .ok (.invokevirtual 48, 3) := by decide +kernel
theorem kd_La_route_8 : decode kc_La_route 8 = .ok (.ifCond .eq 7, 3) := by decide +kernel
theorem kd_La_route_11 : decode kc_La_route 11 = .ok (.lconst 1, 1) := by decide +kernel
theorem kd_La_route_12 : decode kc_La_route 12 = .ok (.goto 4, 3) := by decide +kernel
theorem kd_La_route_15 : decode kc_La_route 15 = .ok (.lconst 0, 1) := by decide +kernel
theorem kd_La_route_16 : decode kc_La_route 16 = .ok (.lastore, 1) := by decide +kernel
theorem kd_La_route_17 : decode kc_La_route 17 = .ok (.goto 7, 3) := by decide +kernel
theorem kd_La_route_20 : decode kc_La_route 20 = .ok (.astore 4, 2) := by decide +kernel
theorem kd_La_route_22 : decode kc_La_route 22 = .ok (.iconst 1, 1) := by decide +kernel
theorem kd_La_route_23 : decode kc_La_route 23 = .ok (.ireturn, 1) := by decide +kernel
theorem kd_La_route_24 : decode kc_La_route 24 = .ok (.iconst 0, 1) := by decide +kernel
theorem kd_La_route_25 : decode kc_La_route 25 = .ok (.ireturn, 1) := by decide +kernel
theorem kd_La_send_0 : decode kc_La_send 0 = .ok (.aload 4, 2) := by decide +kernel
theorem kd_La_send_2 : decode kc_La_send 2 = .ok (.iconst 0, 1) := by decide +kernel
theorem kd_La_send_3 : decode kc_La_send 3 = .ok (.aload_n 0, 1) := by decide +kernel
theorem kd_La_send_4 : decode kc_La_send 4 = .ok (.iload_n 1, 1) := by decide +kernel
theorem kd_La_send_5 : decode kc_La_send 5 = .ok (.iload_n 2, 1) := by decide +kernel
theorem kd_La_send_6 : decode kc_La_send 6 = .ok (.iload_n 3, 1) := by decide +kernel
theorem kd_La_send_7 : decode kc_La_send 7 = .ok (.invokevirtual 52, 3) := by decide +kernel
theorem kd_La_send_10 : decode kc_La_send 10 = .ok (.ifCond .eq 7, 3) := by decide +kernel
theorem kd_La_send_13 : decode kc_La_send 13 = .ok (.lconst 1, 1) := by decide +kernel
theorem kd_La_send_14 : decode kc_La_send 14 = .ok (.goto 4, 3) := by decide +kernel
theorem kd_La_send_17 : decode kc_La_send 17 = .ok (.lconst 0, 1) := by decide +kernel
theorem kd_La_send_18 : decode kc_La_send 18 = .ok (.lastore, 1) := by decide +kernel
theorem kd_La_send_19 : decode kc_La_send 19 = .ok (.goto 7, 3) := by decide +kernel
theorem kd_La_send_22 : decode kc_La_send 22 = .ok (.astore 5, 2) := by decide +kernel
theorem kd_La_send_24 : decode kc_La_send 24 = .ok (.iconst 1, 1) := by decide +kernel
theorem kd_La_send_25 : decode kc_La_send 25 = .ok (.ireturn, 1) := by decide +kernel
theorem kd_La_send_26 : decode kc_La_send 26 = .ok (.iconst 0, 1) := by decide +kernel
theorem kd_La_send_27 : decode kc_La_send 27 = .ok (.ireturn, 1) := by decide +kernel
theorem kd_La_effect_0 : decode kc_La_effect 0 = .ok (.aload_n 0, 1) := by decide +kernel
theorem kd_La_effect_1 : decode kc_La_effect 1 = .ok (.iload_n 1, 1) := by decide +kernel
theorem kd_La_effect_2 : decode kc_La_effect 2 = .ok (.iload_n 2, 1) := by decide +kernel
theorem kd_La_effect_3 : decode kc_La_effect 3 = .ok (.iload_n 3, 1) := by decide +kernel
theorem kd_La_effect_4 : decode kc_La_effect 4 = .ok (.iload 4, 2) := by decide +kernel
theorem kd_La_effect_6 : decode kc_La_effect 6 = .ok (.iload 5, 2) := by decide +kernel
theorem kd_La_effect_8 : decode kc_La_effect 8 = .ok (.invokevirtual 55, 3) := by decide +kernel
theorem kd_La_effect_11 : decode kc_La_effect 11 = .ok (.goto 7, 3) := by decide +kernel
theorem kd_La_effect_14 : decode kc_La_effect 14 = .ok (.astore 6, 2) := by decide +kernel
theorem kd_La_effect_16 : decode kc_La_effect 16 = .ok (.iconst 1, 1) := by decide +kernel
theorem kd_La_effect_17 : decode kc_La_effect 17 = .ok (.ireturn, 1) := by decide +kernel
theorem kd_La_effect_18 : decode kc_La_effect 18 = .ok (.iconst 0, 1) := by decide +kernel
theorem kd_La_effect_19 : decode kc_La_effect 19 = .ok (.ireturn, 1) := by decide +kernel
theorem kd_La_fader_0 : decode kc_La_fader 0 = .ok (.aload_n 0, 1) := by decide +kernel
theorem kd_La_fader_1 : decode kc_La_fader 1 = .ok (.iload_n 1, 1) := by decide +kernel
theorem kd_La_fader_2 : decode kc_La_fader 2 = .ok (.iload_n 2, 1) := by decide +kernel
theorem kd_La_fader_3 : decode kc_La_fader 3 = .ok (.invokevirtual 59, 3) := by decide +kernel
theorem kd_La_fader_6 : decode kc_La_fader 6 = .ok (.goto 6, 3) := by decide +kernel
theorem kd_La_fader_9 : decode kc_La_fader 9 = .ok (.astore_n 3, 1) := by decide +kernel
theorem kd_La_fader_10 : decode kc_La_fader 10 = .ok (.iconst 1, 1) := by decide +kernel
theorem kd_La_fader_11 : decode kc_La_fader 11 = .ok (.ireturn, 1) := by decide +kernel
theorem kd_La_fader_12 : decode kc_La_fader 12 = .ok (.iconst 0, 1) := by decide +kernel
theorem kd_La_fader_13 : decode kc_La_fader 13 = .ok (.ireturn, 1) := by decide +kernel
theorem kd_La_point_0 : decode kc_La_point 0 = .ok (.aload 5, 2) := by decide +kernel
theorem kd_La_point_2 : decode kc_La_point 2 = .ok (.iconst 0, 1) := by decide +kernel
theorem kd_La_point_3 : decode kc_La_point 3 = .ok (.aload_n 0, 1) := by decide +kernel
theorem kd_La_point_4 : decode kc_La_point 4 = .ok (.iload_n 1, 1) := by decide +kernel
theorem kd_La_point_5 : decode kc_La_point 5 = .ok (.iload_n 2, 1) := by decide +kernel
theorem kd_La_point_6 : decode kc_La_point 6 = .ok (.iload_n 3, 1) := by decide +kernel
theorem kd_La_point_7 : decode kc_La_point 7 = .ok (.iload 4, 2) := by decide +kernel
theorem kd_La_point_9 : decode kc_La_point 9 = .ok (.invokevirtual 62, 3) := by decide +kernel
theorem kd_La_point_12 : decode kc_La_point 12 = .ok (.ifCond .eq 7, 3) := by decide +kernel
theorem kd_La_point_15 : decode kc_La_point 15 = .ok (.lconst 1, 1) := by decide +kernel
theorem kd_La_point_16 : decode kc_La_point 16 = .ok (.goto 4, 3) := by decide +kernel
theorem kd_La_point_19 : decode kc_La_point 19 = .ok (.lconst 0, 1) := by decide +kernel
theorem kd_La_point_20 : decode kc_La_point 20 = .ok (.lastore, 1) := by decide +kernel
theorem kd_La_point_21 : decode kc_La_point 21 = .ok (.goto 7, 3) := by decide +kernel
theorem kd_La_point_24 : decode kc_La_point 24 = .ok (.astore 6, 2) := by decide +kernel
theorem kd_La_point_26 : decode kc_La_point 26 = .ok (.iconst 1, 1) := by decide +kernel
theorem kd_La_point_27 : decode kc_La_point 27 = .ok (.ireturn, 1) := by decide +kernel
theorem kd_La_point_28 : decode kc_La_point 28 = .ok (.iconst 0, 1) := by decide +kernel
theorem kd_La_point_29 : decode kc_La_point 29 = .ok (.ireturn, 1) := by decide +kernel
theorem kd_La_turn_0 : decode kc_La_turn 0 = .ok (.aload_n 3, 1) := by decide +kernel
theorem kd_La_turn_1 : decode kc_La_turn 1 = .ok (.iconst 0, 1) := by decide +kernel
theorem kd_La_turn_2 : decode kc_La_turn 2 = .ok (.aload_n 0, 1) := by decide +kernel
theorem kd_La_turn_3 : decode kc_La_turn 3 = .ok (.iload_n 1, 1) := by decide +kernel
theorem kd_La_turn_4 : decode kc_La_turn 4 = .ok (.iload_n 2, 1) := by decide +kernel
theorem kd_La_turn_5 : decode kc_La_turn 5 = .ok (.invokevirtual 66, 3) := by decide +kernel
theorem kd_La_turn_8 : decode kc_La_turn 8 = .ok (.i2l, 1) := by decide +kernel
theorem kd_La_turn_9 : decode kc_La_turn 9 = .ok (.lastore, 1) := by decide +kernel
theorem kd_La_turn_10 : decode kc_La_turn 10 = .ok (.goto 7, 3) := by decide +kernel
theorem kd_La_turn_13 : decode kc_La_turn 13 = .ok (.astore 4, 2) := by decide +kernel
theorem kd_La_turn_15 : decode kc_La_turn 15 = .ok (.iconst 1, 1) := by decide +kernel
theorem kd_La_turn_16 : decode kc_La_turn 16 = .ok (.ireturn, 1) := by decide +kernel
theorem kd_La_turn_17 : decode kc_La_turn 17 = .ok (.iconst 0, 1) := by decide +kernel
theorem kd_La_turn_18 : decode kc_La_turn 18 = .ok (.ireturn, 1) := by decide +kernel
theorem kd_La_render_0 : decode kc_La_render 0 = .ok (.aload_n 0, 1) := by decide +kernel
theorem kd_La_render_1 : decode kc_La_render 1 = .ok (.iload_n 1, 1) := by decide +kernel
theorem kd_La_render_2 : decode kc_La_render 2 = .ok (.iload_n 2, 1) := by decide +kernel
theorem kd_La_render_3 : decode kc_La_render 3 = .ok (.invokevirtual 69, 3) := by decide +kernel
theorem kd_La_render_6 : decode kc_La_render 6 = .ok (.goto 6, 3) := by decide +kernel
theorem kd_La_render_9 : decode kc_La_render 9 = .ok (.astore_n 3, 1) := by decide +kernel
theorem kd_La_render_10 : decode kc_La_render 10 = .ok (.iconst 1, 1) := by decide +kernel
theorem kd_La_render_11 : decode kc_La_render 11 = .ok (.ireturn, 1) := by decide +kernel
theorem kd_La_render_12 : decode kc_La_render 12 = .ok (.iconst 0, 1) := by decide +kernel
theorem kd_La_render_13 : decode kc_La_render 13 = .ok (.ireturn, 1) := by decide +kernel
theorem kd_La_sample_0 : decode kc_La_sample 0 = .ok (.aload_n 3, 1) := by decide +kernel
theorem kd_La_sample_1 : decode kc_La_sample 1 = .ok (.iconst 0, 1) := by decide +kernel
theorem kd_La_sample_2 : decode kc_La_sample 2 = .ok (.aload_n 0, 1) := by decide +kernel
theorem kd_La_sample_3 : decode kc_La_sample 3 = .ok (.iload_n 1, 1) := by decide +kernel
theorem kd_La_sample_4 : decode kc_La_sample 4 = .ok (.iload_n 2, 1) := by decide +kernel
theorem kd_La_sample_5 : decode kc_La_sample 5 = .ok (.invokevirtual 72, 3) := by decide +kernel
theorem kd_La_sample_8 : decode kc_La_sample 8 = .ok (.i2l, 1) := by decide +kernel
theorem kd_La_sample_9 : decode kc_La_sample 9 = .ok (.lastore, 1) := by decide +kernel
theorem kd_La_sample_10 : decode kc_La_sample 10 = .ok (.goto 7, 3) := by decide +kernel
theorem kd_La_sample_13 : decode kc_La_sample 13 = .ok (.astore 4, 2) := by decide +kernel
theorem kd_La_sample_15 : decode kc_La_sample 15 = .ok (.iconst 1, 1) := by decide +kernel
theorem kd_La_sample_16 : decode kc_La_sample 16 = .ok (.ireturn, 1) := by decide +kernel
theorem kd_La_sample_17 : decode kc_La_sample 17 = .ok (.iconst 0, 1) := by decide +kernel
theorem kd_La_sample_18 : decode kc_La_sample 18 = .ok (.ireturn, 1) := by decide +kernel
theorem kd_La_meter_0 : decode kc_La_meter 0 = .ok (.aload_n 3, 1) := by decide +kernel
theorem kd_La_meter_1 : decode kc_La_meter 1 = .ok (.iconst 0, 1) := by decide +kernel
theorem kd_La_meter_2 : decode kc_La_meter 2 = .ok (.aload_n 0, 1) := by decide +kernel
theorem kd_La_meter_3 : decode kc_La_meter 3 = .ok (.iload_n 1, 1) := by decide +kernel
theorem kd_La_meter_4 : decode kc_La_meter 4 = .ok (.iload_n 2, 1) := by decide +kernel
theorem kd_La_meter_5 : decode kc_La_meter 5 = .ok (.invokevirtual 75, 3) := by decide +kernel
theorem kd_La_meter_8 : decode kc_La_meter 8 = .ok (.lastore, 1) := by decide +kernel
theorem kd_La_meter_9 : decode kc_La_meter 9 = .ok (.goto 7, 3) := by decide +kernel
theorem kd_La_meter_12 : decode kc_La_meter 12 = .ok (.astore 4, 2) := by decide +kernel
theorem kd_La_meter_14 : decode kc_La_meter 14 = .ok (.iconst 1, 1) := by decide +kernel
theorem kd_La_meter_15 : decode kc_La_meter 15 = .ok (.ireturn, 1) := by decide +kernel
theorem kd_La_meter_16 : decode kc_La_meter 16 = .ok (.iconst 0, 1) := by decide +kernel
theorem kd_La_meter_17 : decode kc_La_meter 17 = .ok (.ireturn, 1) := by decide +kernel
theorem kd_La_bounce_0 : decode kc_La_bounce 0 = .ok (.aload 4, 2) := by decide +kernel
theorem kd_La_bounce_2 : decode kc_La_bounce 2 = .ok (.iconst 0, 1) := by decide +kernel
theorem kd_La_bounce_3 : decode kc_La_bounce 3 = .ok (.aload_n 0, 1) := by decide +kernel
theorem kd_La_bounce_4 : decode kc_La_bounce 4 = .ok (.iload_n 1, 1) := by decide +kernel
theorem kd_La_bounce_5 : decode kc_La_bounce 5 = .ok (.iload_n 2, 1) := by decide +kernel
theorem kd_La_bounce_6 : decode kc_La_bounce 6 = .ok (.iload_n 3, 1) := by decide +kernel
theorem kd_La_bounce_7 : decode kc_La_bounce 7 = .ok (.invokevirtual 79, 3) := by decide +kernel
theorem kd_La_bounce_10 : decode kc_La_bounce 10 = .ok (.i2l, 1) := by decide +kernel
theorem kd_La_bounce_11 : decode kc_La_bounce 11 = .ok (.lastore, 1) := by decide +kernel
theorem kd_La_bounce_12 : decode kc_La_bounce 12 = .ok (.goto 7, 3) := by decide +kernel
theorem kd_La_bounce_15 : decode kc_La_bounce 15 = .ok (.astore 5, 2) := by decide +kernel
theorem kd_La_bounce_17 : decode kc_La_bounce 17 = .ok (.iconst 1, 1) := by decide +kernel
theorem kd_La_bounce_18 : decode kc_La_bounce 18 = .ok (.ireturn, 1) := by decide +kernel
theorem kd_La_bounce_19 : decode kc_La_bounce 19 = .ok (.iconst 0, 1) := by decide +kernel
theorem kd_La_bounce_20 : decode kc_La_bounce 20 = .ok (.ireturn, 1) := by decide +kernel
