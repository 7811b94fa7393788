theorem d_L_part_0 : decode c_L_part 0 = .ok (.aload 7, 2) := by decide +kernel
theorem d_L_part_2 : decode c_L_part 2 = .ok (.iconst 0, 1) := by decide +kernel
theorem d_L_part_3 : decode c_L_part 3 = .ok (.aload_n 0, 1) := by decide +kernel
theorem d_L_part_4 : decode c_L_part 4 = .ok (.iload_n 1, 1) := by decide +kernel
theorem d_L_part_5 : decode c_L_part 5 = .ok (.iload_n 2, 1) := by decide +kernel
theorem d_L_part_6 : decode c_L_part 6 = .ok (.iload_n 3, 1) := by decide +kernel
theorem d_L_part_7 : decode c_L_part 7 = .ok (.iload 4, 2) := by decide +kernel
theorem d_L_part_9 : decode c_L_part 9 = .ok (.iload 5, 2) := by decide +kernel
theorem d_L_part_11 : decode c_L_part 11 = .ok (.iload 6, 2) := by decide +kernel
theorem d_L_part_13 : decode c_L_part 13 = .ok (.invokevirtual 7, 3) := by decide +kernel
theorem d_L_part_16 : decode c_L_part 16 = .ok (.i2l, 1) := by decide +kernel
theorem d_L_part_17 : decode c_L_part 17 = .ok (.lastore, 1) := by decide +kernel
theorem d_L_part_18 : decode c_L_part 18 = .ok (.goto 11, 3) := by decide +kernel
theorem d_L_part_21 : decode c_L_part 21 = .ok (.astore 8, 2) := by decide +kernel
theorem d_L_part_23 : decode c_L_part 23 = .ok (.iconst 1, 1) := by decide +kernel
theorem d_L_part_24 : decode c_L_part 24 = .ok (.ireturn, 1) := by decide +kernel
theorem d_L_part_25 : decode c_L_part 25 = .ok (.astore 8, 2) := by decide +kernel
theorem d_L_part_27 : decode c_L_part 27 = .ok (.iconst 2, 1) := by decide +kernel
theorem d_L_part_28 : decode c_L_part 28 = .ok (.ireturn, 1) := by decide +kernel
theorem d_L_part_29 : decode c_L_part 29 = .ok (.iconst 0, 1) := by decide +kernel
theorem d_L_part_30 : decode c_L_part 30 = .ok (.ireturn, 1) := by decide +kernel
theorem d_L_cut_0 : decode c_L_cut 0 = .ok (.aload 8, 2) := by decide +kernel
theorem d_L_cut_2 : decode c_L_cut 2 = .ok (.iconst 0, 1) := by decide +kernel
theorem d_L_cut_3 : decode c_L_cut 3 = .ok (.aload_n 0, 1) := by decide +kernel
theorem d_L_cut_4 : decode c_L_cut 4 = .ok (.iload_n 1, 1) := by decide +kernel
theorem d_L_cut_5 : decode c_L_cut 5 = .ok (.iload_n 2, 1) := by decide +kernel
theorem d_L_cut_6 : decode c_L_cut 6 = .ok (.iload_n 3, 1) := by decide +kernel
theorem d_L_cut_7 : decode c_L_cut 7 = .ok (.iload 4, 2) := by decide +kernel
theorem d_L_cut_9 : decode c_L_cut 9 = .ok (.iload 5, 2) := by decide +kernel
theorem d_L_cut_11 : decode c_L_cut 11 = .ok (.iload 6, 2) := by decide +kernel
theorem d_L_cut_13 : decode c_L_cut 13 = .ok (.iload 7, 2) := by decide +kernel
theorem d_L_cut_15 : decode c_L_cut 15 = .ok (.invokevirtual 17, 3) := by decide +kernel
theorem d_L_cut_18 : decode c_L_cut 18 = .ok (.ifCond .eq 7, 3) := by decide +kernel
theorem d_L_cut_21 : decode c_L_cut 21 = .ok (.lconst 1, 1) := by decide +kernel
theorem d_L_cut_22 : decode c_L_cut 22 = .ok (.goto 4, 3) := by decide +kernel
theorem d_L_cut_25 : decode c_L_cut 25 = .ok (.lconst 0, 1) := by decide +kernel
theorem d_L_cut_26 : decode c_L_cut 26 = .ok (.lastore, 1) := by decide +kernel
theorem d_L_cut_27 : decode c_L_cut 27 = .ok (.goto 15, 3) := by decide +kernel
theorem d_L_cut_30 : decode c_L_cut 30 = .ok (.astore 9, 2) := by decide +kernel
theorem d_L_cut_32 : decode c_L_cut 32 = .ok (.iconst 1, 1) := by decide +kernel
theorem d_L_cut_33 : decode c_L_cut 33 = .ok (.ireturn, 1) := by decide +kernel
theorem d_L_cut_34 : decode c_L_cut 34 = .ok (.astore 9, 2) := by decide +kernel
theorem d_L_cut_36 : decode c_L_cut 36 = .ok (.iconst 2, 1) := by decide +kernel
theorem d_L_cut_37 : decode c_L_cut 37 = .ok (.ireturn, 1) := by decide +kernel
theorem d_L_cut_38 : decode c_L_cut 38 = .ok (.astore 9, 2) := by decide +kernel
theorem d_L_cut_40 : decode c_L_cut 40 = .ok (.iconst 3, 1) := by decide +kernel
theorem d_L_cut_41 : decode c_L_cut 41 = .ok (.ireturn, 1) := by decide +kernel
theorem d_L_cut_42 : decode c_L_cut 42 = .ok (.iconst 0, 1) := by decide +kernel
theorem d_L_cut_43 : decode c_L_cut 43 = .ok (.ireturn, 1) := by decide +kernel
theorem d_L_clear_0 : decode c_L_clear 0 = .ok (.aload_n 0, 1) := by decide +kernel
theorem d_L_clear_1 : decode c_L_clear 1 = .ok (.iload_n 1, 1) := by decide +kernel
theorem d_L_clear_2 : decode c_L_clear 2 = .ok (.invokevirtual 23, 3) := by decide +kernel
theorem d_L_clear_5 : decode c_L_clear 5 = .ok (.goto 6, 3) := by decide +kernel
theorem d_L_clear_8 : decode c_L_clear 8 = .ok (.astore_n 2, 1) := by decide +kernel
theorem d_L_clear_9 : decode c_L_clear 9 = .ok (.iconst 1, 1) := by decide +kernel
theorem d_L_clear_10 : decode c_L_clear 10 = .ok (.ireturn, 1) := by decide +kernel
theorem d_L_clear_11 : decode c_L_clear 11 = .ok (.iconst 0, 1) := by decide +kernel
theorem d_L_clear_12 : decode c_L_clear 12 = .ok (.ireturn, 1) := by decide +kernel
theorem d_L_joint_0 : decode c_L_joint 0 = .ok (.aload 6, 2) := by decide +kernel
theorem d_L_joint_2 : decode c_L_joint 2 = .ok (.iconst 0, 1) := by decide +kernel
theorem d_L_joint_3 : decode c_L_joint 3 = .ok (.aload_n 0, 1) := by decide +kernel
theorem d_L_joint_4 : decode c_L_joint 4 = .ok (.iload_n 1, 1) := by decide +kernel
theorem d_L_joint_5 : decode c_L_joint 5 = .ok (.iload_n 2, 1) := by decide +kernel
theorem d_L_joint_6 : decode c_L_joint 6 = .ok (.iload_n 3, 1) := by decide +kernel
theorem d_L_joint_7 : decode c_L_joint 7 = .ok (.iload 4, 2) := by decide +kernel
theorem d_L_joint_9 : decode c_L_joint 9 = .ok (.iload 5, 2) := by decide +kernel
theorem d_L_joint_11 : decode c_L_joint 11 = .ok (.invokevirtual 27, 3) := by decide +kernel
theorem d_L_joint_14 : decode c_L_joint 14 = .ok (.i2l, 1) := by decide +kernel
theorem d_L_joint_15 : decode c_L_joint 15 = .ok (.lastore, 1) := by decide +kernel
theorem d_L_joint_16 : decode c_L_joint 16 = .ok (.goto 15, 3) := by decide +kernel
theorem d_L_joint_19 : decode c_L_joint 19 = .ok (.astore 7, 2) := by decide +kernel
theorem d_L_joint_21 : decode c_L_joint 21 = .ok (.iconst 1, 1) := by decide +kernel
theorem d_L_joint_22 : decode c_L_joint 22 = .ok (.ireturn, 1) := by decide +kernel
theorem d_L_joint_23 : decode c_L_joint 23 = .ok (.astore 7, 2) := by decide +kernel
theorem d_L_joint_25 : decode c_L_joint 25 = .ok (.iconst 2, 1) := by decide +kernel
theorem d_L_joint_26 : decode c_L_joint 26 = .ok (.ireturn, 1) := by decide +kernel
theorem d_L_joint_27 : decode c_L_joint 27 = .ok (.astore 7, 2) := by decide +kernel
theorem d_L_joint_29 : decode c_L_joint 29 = .ok (.iconst 3, 1) := by decide +kernel
theorem d_L_joint_30 : decode c_L_joint 30 = .ok (.ireturn, 1) := by decide +kernel
theorem d_L_joint_31 : decode c_L_joint 31 = .ok (.iconst 0, 1) := by decide +kernel
theorem d_L_joint_32 : decode c_L_joint 32 = .ok (.ireturn, 1) := by decide +kernel
theorem d_L_pieces_0 : decode c_L_pieces 0 = .ok (.aload_n 2, 1) := by decide +kernel
theorem d_L_pieces_1 : decode c_L_pieces 1 = .ok (.iconst 0, 1) := by decide +kernel
theorem d_L_pieces_2 : decode c_L_pieces 2 = .ok (.aload_n 0, 1) := by decide +kernel
theorem d_L_pieces_3 : decode c_L_pieces 3 = .ok (.iload_n 1, 1) := by decide +kernel
theorem d_L_pieces_4 : decode c_L_pieces 4 = .ok (.invokevirtual 31, 3) := by decide +kernel
theorem d_L_pieces_7 : decode c_L_pieces 7 = .ok (.i2l, 1) := by decide +kernel
theorem d_L_pieces_8 : decode c_L_pieces 8 = .ok (.lastore, 1) := by decide +kernel
theorem d_L_pieces_9 : decode c_L_pieces 9 = .ok (.goto 6, 3) := by decide +kernel
theorem d_L_pieces_12 : decode c_L_pieces 12 = .ok (.astore_n 3, 1) := by decide +kernel
theorem d_L_pieces_13 : decode c_L_pieces 13 = .ok (.iconst 1, 1) := by decide +kernel
theorem d_L_pieces_14 : decode c_L_pieces 14 = .ok (.ireturn, 1) := by decide +kernel
theorem d_L_pieces_15 : decode c_L_pieces 15 = .ok (.iconst 0, 1) := by decide +kernel
theorem d_L_pieces_16 : decode c_L_pieces 16 = .ok (.ireturn, 1) := by decide +kernel
theorem d_L_corner_0 : decode c_L_corner 0 = .ok (.aload 4, 2) := by decide +kernel
theorem d_L_corner_2 : decode c_L_corner 2 = .ok (.iconst 0, 1) := by decide +kernel
theorem d_L_corner_3 : decode c_L_corner 3 = .ok (.aload_n 0, 1) := by decide +kernel
theorem d_L_corner_4 : decode c_L_corner 4 = .ok (.iload_n 1, 1) := by decide +kernel
theorem d_L_corner_5 : decode c_L_corner 5 = .ok (.iload_n 2, 1) := by decide +kernel
theorem d_L_corner_6 : decode c_L_corner 6 = .ok (.iload_n 3, 1) := by decide +kernel
theorem d_L_corner_7 : decode c_L_corner 7 = .ok (.invokevirtual 35, 3) := by decide +kernel
theorem d_L_corner_10 : decode c_L_corner 10 = .ok (.i2l, 1) := by decide +kernel
theorem d_L_corner_11 : decode c_L_corner 11 = .ok (.lastore, 1) := by decide +kernel
theorem d_L_corner_12 : decode c_L_corner 12 = .ok (.goto 7, 3) := by decide +kernel
theorem d_L_corner_15 : decode c_L_corner 15 = .ok (.astore 5, 2) := by decide +kernel
theorem d_L_corner_17 : decode c_L_corner 17 = .ok (.iconst 1, 1) := by decide +kernel
theorem d_L_corner_18 : decode c_L_corner 18 = .ok (.ireturn, 1) := by decide +kernel
theorem d_L_corner_19 : decode c_L_corner 19 = .ok (.iconst 0, 1) := by decide +kernel
theorem d_L_corner_20 : decode c_L_corner 20 = .ok (.ireturn, 1) := by decide +kernel
theorem d_L_volume_0 : decode c_L_volume 0 = .ok (.aload_n 2, 1) := by decide +kernel
theorem d_L_volume_1 : decode c_L_volume 1 = .ok (.iconst 0, 1) := by decide +kernel
theorem d_L_volume_2 : decode c_L_volume 2 = .ok (.aload_n 0, 1) := by decide +kernel
theorem d_L_volume_3 : decode c_L_volume 3 = .ok (.iload_n 1, 1) := by decide +kernel
theorem d_L_volume_4 : decode c_L_volume 4 = .ok (.invokevirtual 39, 3) := by decide +kernel
theorem d_L_volume_7 : decode c_L_volume 7 = .ok (.lastore, 1) := by decide +kernel
theorem d_L_volume_8 : decode c_L_volume 8 = .ok (.goto 6, 3) := by decide +kernel
theorem d_L_volume_11 : decode c_L_volume 11 = .ok (.astore_n 3, 1) := by decide +kernel
theorem d_L_volume_12 : decode c_L_volume 12 = .ok (.iconst 1, 1) := by decide +kernel
theorem d_L_volume_13 : decode c_L_volume 13 = .ok (.ireturn, 1) := by decide +kernel
theorem d_L_volume_14 : decode c_L_volume 14 = .ok (.iconst 0, 1) := by decide +kernel
theorem d_L_volume_15 : decode c_L_volume 15 = .ok (.ireturn, 1) := by decide +kernel
theorem d_L_overlap_0 : decode c_L_overlap 0 = .ok (.aload_n 3, 1) := by decide +kernel
theorem d_L_overlap_1 : decode c_L_overlap 1 = .ok (.iconst 0, 1) := by decide +kernel
theorem d_L_overlap_2 : decode c_L_overlap 2 = .ok (.aload_n 0, 1) := by decide +kernel
theorem d_L_overlap_3 : decode c_L_overlap 3 = .ok (.iload_n 1, 1) := by decide +kernel
theorem d_L_overlap_4 : decode c_L_overlap 4 = .ok (.iload_n 2, 1) := by decide +kernel
theorem d_L_overlap_5 : decode c_L_overlap 5 = .ok (.invokevirtual 43, 3) := by decide +kernel
theorem d_L_overlap_8 : decode c_L_overlap 8 = .ok (.lastore, 1) := by decide +kernel
theorem d_L_overlap_9 : decode c_L_overlap 9 = .ok (.goto 11, 3) := by decide +kernel
theorem d_L_overlap_12 : decode c_L_overlap 12 = .ok (.astore 4, 2) := by decide +kernel
theorem d_L_overlap_14 : decode c_L_overlap 14 = .ok (.iconst 1, 1) := by decide +kernel
theorem d_L_overlap_15 : decode c_L_overlap 15 = .ok (.ireturn, 1) := by decide +kernel
theorem d_L_overlap_16 : decode c_L_overlap 16 = .ok (.astore 4, 2) := by decide +kernel
theorem d_L_overlap_18 : decode c_L_overlap 18 = .ok (.iconst 2, 1) := by decide +kernel
theorem d_L_overlap_19 : decode c_L_overlap 19 = .ok (.ireturn, 1) := by decide +kernel
theorem d_L_overlap_20 : decode c_L_overlap 20 = .ok (.iconst 0, 1) := by decide +kernel
theorem d_L_overlap_21 : decode c_L_overlap 21 = .ok (.ireturn, 1) := by decide +kernel
theorem d_L_touch_0 : decode c_L_touch 0 = .ok (.aload_n 3, 1) := by decide +kernel
theorem d_L_touch_1 : decode c_L_touch 1 = .ok (.iconst 0, 1) := by decide +kernel
theorem d_L_touch_2 : decode c_L_touch 2 = .ok (.aload_n 0, 1) := by decide +kernel
theorem d_L_touch_3 : decode c_L_touch 3 = .ok (.iload_n 1, 1) := by decide +kernel
theorem d_L_touch_4 : decode c_L_touch 4 = .ok (.iload_n 2, 1) := by decide +kernel
theorem d_L_touch_5 : decode c_L_touch 5 = .ok (.invokevirtual 47, 3) := by decide +kernel
theorem d_L_touch_8 : decode c_L_touch 8 = .ok (.lastore, 1) := by decide +kernel
theorem d_L_touch_9 : decode c_L_touch 9 = .ok (.goto 11, 3) := by decide +kernel
theorem d_L_touch_12 : decode c_L_touch 12 = .ok (.astore 4, 2) := by decide +kernel
theorem d_L_touch_14 : decode c_L_touch 14 = .ok (.iconst 1, 1) := by decide +kernel
theorem d_L_touch_15 : decode c_L_touch 15 = .ok (.ireturn, 1) := by decide +kernel
theorem d_L_touch_16 : decode c_L_touch 16 = .ok (.astore 4, 2) := by decide +kernel
theorem d_L_touch_18 : decode c_L_touch 18 = .ok (.iconst 2, 1) := by decide +kernel
theorem d_L_touch_19 : decode c_L_touch 19 = .ok (.ireturn, 1) := by decide +kernel
theorem d_L_touch_20 : decode c_L_touch 20 = .ok (.iconst 0, 1) := by decide +kernel
theorem d_L_touch_21 : decode c_L_touch 21 = .ok (.ireturn, 1) := by decide +kernel
theorem d_L_has_0 : decode c_L_has 0 = .ok (.aload 5, 2) := by decide +kernel
theorem d_L_has_2 : decode c_L_has 2 = .ok (.iconst 0, 1) := by decide +kernel
theorem d_L_has_3 : decode c_L_has 3 = .ok (.aload_n 0, 1) := by decide +kernel
theorem d_L_has_4 : decode c_L_has 4 = .ok (.iload_n 1, 1) := by decide +kernel
theorem d_L_has_5 : decode c_L_has 5 = .ok (.iload_n 2, 1) := by decide +kernel
theorem d_L_has_6 : decode c_L_has 6 = .ok (.iload_n 3, 1) := by decide +kernel
theorem d_L_has_7 : decode c_L_has 7 = .ok (.iload 4, 2) := by decide +kernel
theorem d_L_has_9 : decode c_L_has 9 = .ok (.invokevirtual 50, 3) := by decide +kernel
theorem d_L_has_12 : decode c_L_has 12 = .ok (.ifCond .eq 7, 3) := by decide +kernel
theorem d_L_has_15 : decode c_L_has 15 = .ok (.lconst 1, 1) := by decide +kernel
theorem d_L_has_16 : decode c_L_has 16 = .ok (.goto 4, 3) := by decide +kernel
theorem d_L_has_19 : decode c_L_has 19 = .ok (.lconst 0, 1) := by decide +kernel
theorem d_L_has_20 : decode c_L_has 20 = .ok (.lastore, 1) := by decide +kernel
theorem d_L_has_21 : decode c_L_has 21 = .ok (.goto 7, 3) := by decide +kernel
theorem d_L_has_24 : decode c_L_has 24 = .ok (.astore 6, 2) := by decide +kernel
theorem d_L_has_26 : decode c_L_has 26 = .ok (.iconst 1, 1) := by decide +kernel
theorem d_L_has_27 : decode c_L_has 27 = .ok (.ireturn, 1) := by decide +kernel
theorem d_L_has_28 : decode c_L_has 28 = .ok (.iconst 0, 1) := by decide +kernel
theorem d_L_has_29 : decode c_L_has 29 = .ok (.ireturn, 1) := by decide +kernel
theorem d_L_row_0 : decode c_L_row 0 = .ok (.aload_n 0, 1) := by decide +kernel
theorem d_L_row_1 : decode c_L_row 1 = .ok (.iload_n 1, 1) := by decide +kernel
theorem d_L_row_2 : decode c_L_row 2 = .ok (.iload_n 2, 1) := by decide +kernel
theorem d_L_row_3 : decode c_L_row 3 = .ok (.invokevirtual 54, 3) := by decide +kernel
theorem d_L_row_6 : decode c_L_row 6 = .ok (.goto 9, 3) := by decide +kernel
theorem d_L_row_9 : decode c_L_row 9 = .ok (.astore_n 3, 1) := by decide +kernel
theorem d_L_row_10 : decode c_L_row 10 = .ok (.iconst 1, 1) := by decide +kernel
theorem d_L_row_11 : decode c_L_row 11 = .ok (.ireturn, 1) := by decide +kernel
theorem d_L_row_12 : decode c_L_row 12 = .ok (.astore_n 3, 1) := by decide +kernel
theorem d_L_row_13 : decode c_L_row 13 = .ok (.iconst 2, 1) := by decide +kernel
theorem d_L_row_14 : decode c_L_row 14 = .ok (.ireturn, 1) := by decide +kernel
theorem d_L_row_15 : decode c_L_row 15 = .ok (.iconst 0, 1) := by decide +kernel
theorem d_L_row_16 : decode c_L_row 16 = .ok (.ireturn, 1) := by decide +kernel
theorem d_L_strength_0 : decode c_L_strength 0 = .ok (.aload_n 2, 1) := by decide +kernel
theorem d_L_strength_1 : decode c_L_strength 1 = .ok (.iconst 0, 1) := by decide +kernel
theorem d_L_strength_2 : decode c_L_strength 2 = .ok (.aload_n 0, 1) := by decide +kernel
theorem d_L_strength_3 : decode c_L_strength 3 = .ok (.iload_n 1, 1) := by decide +kernel
theorem d_L_strength_4 : decode c_L_strength 4 = .ok (.invokevirtual 58, 3) := by decide +kernel
theorem d_L_strength_7 : decode c_L_strength 7 = .ok (.lastore, 1) := by decide +kernel
theorem d_L_strength_8 : decode c_L_strength 8 = .ok (.goto 6, 3) := by decide +kernel
theorem d_L_strength_11 : decode c_L_strength 11 = .ok (.astore_n 3, 1) := by decide +kernel
theorem d_L_strength_12 : decode c_L_strength 12 = .ok (.iconst 1, 1) := by decide +kernel
theorem d_L_strength_13 : decode c_L_strength 13 = .ok (.ireturn, 1) := by decide +kernel
theorem d_L_strength_14 : decode c_L_strength 14 = .ok (.iconst 0, 1) := by decide +kernel
theorem d_L_strength_15 : decode c_L_strength 15 = .ok (.ireturn, 1) := by decide +kernel
theorem d_L_about_0 : decode c_L_about 0 = .ok (.aload_n 3, 1) := by decide +kernel
theorem d_L_about_1 : decode c_L_about 1 = .ok (.iconst 0, 1) := by decide +kernel
theorem d_L_about_2 : decode c_L_about 2 = .ok (.aload_n 0, 1) := by decide +kernel
theorem d_L_about_3 : decode c_L_about 3 = .ok (.iload_n 1, 1) := by decide +kernel
theorem d_L_about_4 : decode c_L_about 4 = .ok (.iload_n 2, 1) := by decide +kernel
theorem d_L_about_5 : decode c_L_about 5 = .ok (.invokevirtual 61, 3) := by decide +kernel
theorem d_L_about_8 : decode c_L_about 8 = .ok (.lastore, 1) := by decide +kernel
theorem d_L_about_9 : decode c_L_about 9 = .ok (.goto 7, 3) := by decide +kernel
theorem d_L_about_12 : decode c_L_about 12 = .ok (.astore 4, 2) := by decide +kernel
theorem d_L_about_14 : decode c_L_about 14 = .ok (.iconst 1, 1) := by decide +kernel
theorem d_L_about_15 : decode c_L_about 15 = .ok (.ireturn, 1) := by decide +kernel
theorem d_L_about_16 : decode c_L_about 16 = .ok (.iconst 0, 1) := by decide +kernel
theorem d_L_about_17 : decode c_L_about 17 = .ok (.ireturn, 1) := by decide +kernel
theorem d_L_law_0 : decode c_L_law 0 = .ok (.new 8, 3) := by decide +kernel
theorem d_L_law_3 : decode c_L_law 3 = .ok (.dup, 1) := by decide +kernel
theorem d_L_law_4 : decode c_L_law 4 = .ok (.invokespecial 64, 3) := by decide +kernel
theorem d_L_law_7 : decode c_L_law 7 = .ok (.astore_n 1, 1) := by decide +kernel
theorem d_L_law_8 : decode c_L_law 8 = .ok (.new 65, 3) := by decide +kernel
theorem d_L_law_11 : decode c_L_law 11 = .ok (.dup, 1) := by decide +kernel
theorem d_L_law_12 : decode c_L_law 12 = .ok (.invokespecial 67, 3) := by decide +kernel
theorem d_L_law_15 : decode c_L_law 15 = .ok (.astore_n 2, 1) := by decide +kernel
theorem d_L_law_16 : decode c_L_law 16 = .ok (.iconst 1, 1) := by decide +kernel
theorem d_L_law_17 : decode c_L_law 17 = .ok (.newarray .long, 2) := by decide +kernel
theorem d_L_law_19 : decode c_L_law 19 = .ok (.astore_n 3, 1) := by decide +kernel
theorem d_L_law_20 : decode c_L_law 20 = .ok (.iconst 0, 1) := by decide +kernel
theorem d_L_law_21 : decode c_L_law 21 = .ok (.istore 4, 2) := by decide +kernel
theorem d_L_law_23 : decode c_L_law 23 = .ok (.iload 4, 2) := by decide +kernel
theorem d_L_law_25 : decode c_L_law 25 = .ok (.aload_n 0, 1) := by decide +kernel
theorem d_L_law_26 : decode c_L_law 26 = .ok (.arraylength, 1) := by decide +kernel
theorem d_L_law_27 : decode c_L_law 27 = .ok (.bipush 8, 2) := by decide +kernel
theorem d_L_law_29 : decode c_L_law 29 = .ok (.isub, 1) := by decide +kernel
theorem d_L_law_30 : decode c_L_law 30 = .ok (.if_icmp .gt 1092, 3) := by decide +kernel
theorem d_L_law_33 : decode c_L_law 33 = .ok (.aload_n 0, 1) := by decide +kernel
theorem d_L_law_34 : decode c_L_law 34 = .ok (.iload 4, 2) := by decide +kernel
theorem d_L_law_36 : decode c_L_law 36 = .ok (.iaload, 1) := by decide +kernel
theorem d_L_law_37 : decode c_L_law 37 = .ok (.bipush 15, 2) := by decide +kernel
theorem d_L_law_39 : decode c_L_law 39 = .ok (.iand, 1) := by decide +kernel
theorem d_L_law_40 : decode c_L_law 40 = .ok (.tableswitch 1076 0 13 #[72, 190, 329, 365, 469, 525, 605, 660, 727, 794, 893, 941, 996, 1063], 72) := by decide +kernel
theorem d_L_law_112 : decode c_L_law 112 = .ok (.aload_n 1, 1) := by decide +kernel
theorem d_L_law_113 : decode c_L_law 113 = .ok (.aload_n 0, 1) := by decide +kernel
theorem d_L_law_114 : decode c_L_law 114 = .ok (.iload 4, 2) := by decide +kernel
theorem d_L_law_116 : decode c_L_law 116 = .ok (.iconst 1, 1) := by decide +kernel
theorem d_L_law_117 : decode c_L_law 117 = .ok (.iadd, 1) := by decide +kernel
theorem d_L_law_118 : decode c_L_law 118 = .ok (.iaload, 1) := by decide +kernel
theorem d_L_law_119 : decode c_L_law 119 = .ok (.aload_n 0, 1) := by decide +kernel
theorem d_L_law_120 : decode c_L_law 120 = .ok (.iload 4, 2) := by decide +kernel
theorem d_L_law_122 : decode c_L_law 122 = .ok (.iconst 2, 1) := by decide +kernel
theorem d_L_law_123 : decode c_L_law 123 = .ok (.iadd, 1) := by decide +kernel
theorem d_L_law_124 : decode c_L_law 124 = .ok (.iaload, 1) := by decide +kernel
theorem d_L_law_125 : decode c_L_law 125 = .ok (.aload_n 0, 1) := by decide +kernel
theorem d_L_law_126 : decode c_L_law 126 = .ok (.iload 4, 2) := by decide +kernel
theorem d_L_law_128 : decode c_L_law 128 = .ok (.iconst 3, 1) := by decide +kernel
theorem d_L_law_129 : decode c_L_law 129 = .ok (.iadd, 1) := by decide +kernel
theorem d_L_law_130 : decode c_L_law 130 = .ok (.iaload, 1) := by decide +kernel
theorem d_L_law_131 : decode c_L_law 131 = .ok (.aload_n 0, 1) := by decide +kernel
theorem d_L_law_132 : decode c_L_law 132 = .ok (.iload 4, 2) := by decide +kernel
theorem d_L_law_134 : decode c_L_law 134 = .ok (.iconst 4, 1) := by decide +kernel
theorem d_L_law_135 : decode c_L_law 135 = .ok (.iadd, 1) := by decide +kernel
theorem d_L_law_136 : decode c_L_law 136 = .ok (.iaload, 1) := by decide +kernel
theorem d_L_law_137 : decode c_L_law 137 = .ok (.aload_n 0, 1) := by decide +kernel
theorem d_L_law_138 : decode c_L_law 138 = .ok (.iload 4, 2) := by decide +kernel
theorem d_L_law_140 : decode c_L_law 140 = .ok (.iconst 5, 1) := by decide +kernel
theorem d_L_law_141 : decode c_L_law 141 = .ok (.iadd, 1) := by decide +kernel
theorem d_L_law_142 : decode c_L_law 142 = .ok (.iaload, 1) := by decide +kernel
theorem d_L_law_143 : decode c_L_law 143 = .ok (.aload_n 0, 1) := by decide +kernel
theorem d_L_law_144 : decode c_L_law 144 = .ok (.iload 4, 2) := by decide +kernel
theorem d_L_law_146 : decode c_L_law 146 = .ok (.bipush 6, 2) := by decide +kernel
theorem d_L_law_148 : decode c_L_law 148 = .ok (.iadd, 1) := by decide +kernel
theorem d_L_law_149 : decode c_L_law 149 = .ok (.iaload, 1) := by decide +kernel
theorem d_L_law_150 : decode c_L_law 150 = .ok (.aload_n 3, 1) := by decide +kernel
theorem d_L_law_151 : decode c_L_law 151 = .ok (.invokestatic 68, 3) := by decide +kernel
theorem d_L_law_154 : decode c_L_law 154 = .ok (.istore 5, 2) := by decide +kernel
theorem d_L_law_156 : decode c_L_law 156 = .ok (.aload_n 2, 1) := by decide +kernel
theorem d_L_law_157 : decode c_L_law 157 = .ok (.aload_n 0, 1) := by decide +kernel
theorem d_L_law_158 : decode c_L_law 158 = .ok (.iload 4, 2) := by decide +kernel
theorem d_L_law_160 : decode c_L_law 160 = .ok (.iconst 1, 1) := by decide +kernel
theorem d_L_law_161 : decode c_L_law 161 = .ok (.iadd, 1) := by decide +kernel
theorem d_L_law_162 : decode c_L_law 162 = .ok (.iaload, 1) := by decide +kernel
theorem d_L_law_163 : decode c_L_law 163 = .ok (.aload_n 0, 1) := by decide +kernel
theorem d_L_law_164 : decode c_L_law 164 = .ok (.iload 4, 2) := by decide +kernel
theorem d_L_law_166 : decode c_L_law 166 = .ok (.iconst 2, 1) := by decide +kernel
theorem d_L_law_167 : decode c_L_law 167 = .ok (.iadd, 1) := by decide +kernel
theorem d_L_law_168 : decode c_L_law 168 = .ok (.iaload, 1) := by decide +kernel
theorem d_L_law_169 : decode c_L_law 169 = .ok (.aload_n 0, 1) := by decide +kernel
theorem d_L_law_170 : decode c_L_law 170 = .ok (.iload 4, 2) := by decide +kernel
theorem d_L_law_172 : decode c_L_law 172 = .ok (.iconst 3, 1) := by decide +kernel
theorem d_L_law_173 : decode c_L_law 173 = .ok (.iadd, 1) := by decide +kernel
theorem d_L_law_174 : decode c_L_law 174 = .ok (.iaload, 1) := by decide +kernel
theorem d_L_law_175 : decode c_L_law 175 = .ok (.aload_n 0, 1) := by decide +kernel
theorem d_L_law_176 : decode c_L_law 176 = .ok (.iload 4, 2) := by decide +kernel
theorem d_L_law_178 : decode c_L_law 178 = .ok (.iconst 4, 1) := by decide +kernel
theorem d_L_law_179 : decode c_L_law 179 = .ok (.iadd, 1) := by decide +kernel
theorem d_L_law_180 : decode c_L_law 180 = .ok (.iaload, 1) := by decide +kernel
theorem d_L_law_181 : decode c_L_law 181 = .ok (.aload_n 0, 1) := by decide +kernel
theorem d_L_law_182 : decode c_L_law 182 = .ok (.iload 4, 2) := by decide +kernel
theorem d_L_law_184 : decode c_L_law 184 = .ok (.iconst 5, 1) := by decide +kernel
theorem d_L_law_185 : decode c_L_law 185 = .ok (.iadd, 1) := by decide +kernel
theorem d_L_law_186 : decode c_L_law 186 = .ok (.iaload, 1) := by decide +kernel
theorem d_L_law_187 : decode c_L_law 187 = .ok (.aload_n 0, 1) := by decide +kernel
theorem d_L_law_188 : decode c_L_law 188 = .ok (.iload 4, 2) := by decide +kernel
theorem d_L_law_190 : decode c_L_law 190 = .ok (.bipush 6, 2) := by decide +kernel
theorem d_L_law_192 : decode c_L_law 192 = .ok (.iadd, 1) := by decide +kernel
theorem d_L_law_193 : decode c_L_law 193 = .ok (.iaload, 1) := by decide +kernel
theorem d_L_law_194 : decode c_L_law 194 = .ok (.invokevirtual 73, 3) := by decide +kernel
theorem d_L_law_197 : decode c_L_law 197 = .ok (.istore 6, 2) := by decide +kernel
theorem d_L_law_199 : decode c_L_law 199 = .ok (.aload_n 2, 1) := by decide +kernel
theorem d_L_law_200 : decode c_L_law 200 = .ok (.invokevirtual 74, 3) := by decide +kernel
theorem d_L_law_203 : decode c_L_law 203 = .ok (.iload 5, 2) := by decide +kernel
theorem d_L_law_205 : decode c_L_law 205 = .ok (.if_icmp .eq 5, 3) := by decide +kernel
theorem d_L_law_208 : decode c_L_law 208 = .ok (.iconst 0, 1) := by decide +kernel
theorem d_L_law_209 : decode c_L_law 209 = .ok (.ireturn, 1) := by decide +kernel
theorem d_L_law_210 : decode c_L_law 210 = .ok (.iload 5, 2) := by decide +kernel
theorem d_L_law_212 : decode c_L_law 212 = .ok (.ifCond .ne 15, 3) := by decide +kernel
theorem d_L_law_215 : decode c_L_law 215 = .ok (.aload_n 3, 1) := by decide +kernel
theorem d_L_law_216 : decode c_L_law 216 = .ok (.iconst 0, 1) := by decide +kernel
theorem d_L_law_217 : decode c_L_law 217 = .ok (.laload, 1) := by decide +kernel
theorem d_L_law_218 : decode c_L_law 218 = .ok (.iload 6, 2) := by decide +kernel
theorem d_L_law_220 : decode c_L_law 220 = .ok (.i2l, 1) := by decide +kernel
theorem d_L_law_221 : decode c_L_law 221 = .ok (.lcmp, 1) := by decide +kernel
theorem d_L_law_222 : decode c_L_law 222 = .ok (.ifCond .eq 5, 3) := by decide +kernel
theorem d_L_law_225 : decode c_L_law 225 = .ok (.iconst 0, 1) := by decide +kernel
theorem d_L_law_226 : decode c_L_law 226 = .ok (.ireturn, 1) := by decide +kernel
theorem d_L_law_227 : decode c_L_law 227 = .ok (.goto 889, 3) := by decide +kernel
theorem d_L_law_230 : decode c_L_law 230 = .ok (.aload_n 1, 1) := by decide +kernel
theorem d_L_law_231 : decode c_L_law 231 = .ok (.aload_n 0, 1) := by decide +kernel
theorem d_L_law_232 : decode c_L_law 232 = .ok (.iload 4, 2) := by decide +kernel
theorem d_L_law_234 : decode c_L_law 234 = .ok (.iconst 1, 1) := by decide +kernel
theorem d_L_law_235 : decode c_L_law 235 = .ok (.iadd, 1) := by decide +kernel
theorem d_L_law_236 : decode c_L_law 236 = .ok (.iaload, 1) := by decide +kernel
theorem d_L_law_237 : decode c_L_law 237 = .ok (.aload_n 0, 1) := by decide +kernel
theorem d_L_law_238 : decode c_L_law 238 = .ok (.iload 4, 2) := by decide +kernel
theorem d_L_law_240 : decode c_L_law 240 = .ok (.iconst 2, 1) := by decide +kernel
theorem d_L_law_241 : decode c_L_law 241 = .ok (.iadd, 1) := by decide +kernel
theorem d_L_law_242 : decode c_L_law 242 = .ok (.iaload, 1) := by decide +kernel
theorem d_L_law_243 : decode c_L_law 243 = .ok (.aload_n 0, 1) := by decide +kernel
theorem d_L_law_244 : decode c_L_law 244 = .ok (.iload 4, 2) := by decide +kernel
theorem d_L_law_246 : decode c_L_law 246 = .ok (.iconst 3, 1) := by decide +kernel
theorem d_L_law_247 : decode c_L_law 247 = .ok (.iadd, 1) := by decide +kernel
theorem d_L_law_248 : decode c_L_law 248 = .ok (.iaload, 1) := by decide +kernel
theorem d_L_law_249 : decode c_L_law 249 = .ok (.aload_n 0, 1) := by decide +kernel
theorem d_L_law_250 : decode c_L_law 250 = .ok (.iload 4, 2) := by decide +kernel
theorem d_L_law_252 : decode c_L_law 252 = .ok (.iconst 4, 1) := by decide +kernel
theorem d_L_law_253 : decode c_L_law 253 = .ok (.iadd, 1) := by decide +kernel
theorem d_L_law_254 : decode c_L_law 254 = .ok (.iaload, 1) := by decide +kernel
theorem d_L_law_255 : decode c_L_law 255 = .ok (.aload_n 0, 1) := by decide +kernel
theorem d_L_law_256 : decode c_L_law 256 = .ok (.iload 4, 2) := by decide +kernel
theorem d_L_law_258 : decode c_L_law 258 = .ok (.iconst 5, 1) := by decide +kernel
theorem d_L_law_259 : decode c_L_law 259 = .ok (.iadd, 1) := by decide +kernel
theorem d_L_law_260 : decode c_L_law 260 = .ok (.iaload, 1) := by decide +kernel
theorem d_L_law_261 : decode c_L_law 261 = .ok (.aload_n 0, 1) := by decide +kernel
theorem d_L_law_262 : decode c_L_law 262 = .ok (.iload 4, 2) := by decide +kernel
theorem d_L_law_264 : decode c_L_law 264 = .ok (.bipush 6, 2) := by decide +kernel
theorem d_L_law_266 : decode c_L_law 266 = .ok (.iadd, 1) := by decide +kernel
theorem d_L_law_267 : decode c_L_law 267 = .ok (.iaload, 1) := by decide +kernel
theorem d_L_law_268 : decode c_L_law 268 = .ok (.aload_n 0, 1) := by decide +kernel
theorem d_L_law_269 : decode c_L_law 269 = .ok (.iload 4, 2) := by decide +kernel
theorem d_L_law_271 : decode c_L_law 271 = .ok (.bipush 7, 2) := by decide +kernel
theorem d_L_law_273 : decode c_L_law 273 = .ok (.iadd, 1) := by decide +kernel
theorem d_L_law_274 : decode c_L_law 274 = .ok (.iaload, 1) := by decide +kernel
theorem d_L_law_275 : decode c_L_law 275 = .ok (.aload_n 3, 1) := by decide +kernel
theorem d_L_law_276 : decode c_L_law 276 = .ok (.invokestatic 78, 3) := by decide +kernel
theorem d_L_law_279 : decode c_L_law 279 = .ok (.istore 5, 2) := by decide +kernel
theorem d_L_law_281 : decode c_L_law 281 = .ok (.aload_n 2, 1) := by decide +kernel
theorem d_L_law_282 : decode c_L_law 282 = .ok (.aload_n 0, 1) := by decide +kernel
theorem d_L_law_283 : decode c_L_law 283 = .ok (.iload 4, 2) := by decide +kernel
theorem d_L_law_285 : decode c_L_law 285 = .ok (.iconst 1, 1) := by decide +kernel
theorem d_L_law_286 : decode c_L_law 286 = .ok (.iadd, 1) := by decide +kernel
theorem d_L_law_287 : decode c_L_law 287 = .ok (.iaload, 1) := by decide +kernel
theorem d_L_law_288 : decode c_L_law 288 = .ok (.aload_n 0, 1) := by decide +kernel
theorem d_L_law_289 : decode c_L_law 289 = .ok (.iload 4, 2) := by decide +kernel
theorem d_L_law_291 : decode c_L_law 291 = .ok (.iconst 2, 1) := by decide +kernel
theorem d_L_law_292 : decode c_L_law 292 = .ok (.iadd, 1) := by decide +kernel
theorem d_L_law_293 : decode c_L_law 293 = .ok (.iaload, 1) := by decide +kernel
theorem d_L_law_294 : decode c_L_law 294 = .ok (.aload_n 0, 1) := by decide +kernel
theorem d_L_law_295 : decode c_L_law 295 = .ok (.iload 4, 2) := by decide +kernel
theorem d_L_law_297 : decode c_L_law 297 = .ok (.iconst 3, 1) := by decide +kernel
theorem d_L_law_298 : decode c_L_law 298 = .ok (.iadd, 1) := by decide +kernel
theorem d_L_law_299 : decode c_L_law 299 = .ok (.iaload, 1) := by decide +kernel
theorem d_L_law_300 : decode c_L_law 300 = .ok (.aload_n 0, 1) := by decide +kernel
theorem d_L_law_301 : decode c_L_law 301 = .ok (.iload 4, 2) := by decide +kernel
theorem d_L_law_303 : decode c_L_law 303 = .ok (.iconst 4, 1) := by decide +kernel
theorem d_L_law_304 : decode c_L_law 304 = .ok (.iadd, 1) := by decide +kernel
theorem d_L_law_305 : decode c_L_law 305 = .ok (.iaload, 1) := by decide +kernel
theorem d_L_law_306 : decode c_L_law 306 = .ok (.aload_n 0, 1) := by decide +kernel
theorem d_L_law_307 : decode c_L_law 307 = .ok (.iload 4, 2) := by decide +kernel
theorem d_L_law_309 : decode c_L_law 309 = .ok (.iconst 5, 1) := by decide +kernel
theorem d_L_law_310 : decode c_L_law 310 = .ok (.iadd, 1) := by decide +kernel
theorem d_L_law_311 : decode c_L_law 311 = .ok (.iaload, 1) := by decide +kernel
theorem d_L_law_312 : decode c_L_law 312 = .ok (.aload_n 0, 1) := by decide +kernel
theorem d_L_law_313 : decode c_L_law 313 = .ok (.iload 4, 2) := by decide +kernel
theorem d_L_law_315 : decode c_L_law 315 = .ok (.bipush 6, 2) := by decide +kernel
theorem d_L_law_317 : decode c_L_law 317 = .ok (.iadd, 1) := by decide +kernel
theorem d_L_law_318 : decode c_L_law 318 = .ok (.iaload, 1) := by decide +kernel
theorem d_L_law_319 : decode c_L_law 319 = .ok (.aload_n 0, 1) := by decide +kernel
theorem d_L_law_320 : decode c_L_law 320 = .ok (.iload 4, 2) := by decide +kernel
theorem d_L_law_322 : decode c_L_law 322 = .ok (.bipush 7, 2) := by decide +kernel
theorem d_L_law_324 : decode c_L_law 324 = .ok (.iadd, 1) := by decide +kernel
theorem d_L_law_325 : decode c_L_law 325 = .ok (.iaload, 1) := by decide +kernel
theorem d_L_law_326 : decode c_L_law 326 = .ok (.invokevirtual 81, 3) := by decide +kernel
theorem d_L_law_329 : decode c_L_law 329 = .ok (.istore 6, 2) := by decide +kernel
theorem d_L_law_331 : decode c_L_law 331 = .ok (.aload_n 2, 1) := by decide +kernel
theorem d_L_law_332 : decode c_L_law 332 = .ok (.invokevirtual 74, 3) := by decide +kernel
theorem d_L_law_335 : decode c_L_law 335 = .ok (.iload 5, 2) := by decide +kernel
theorem d_L_law_337 : decode c_L_law 337 = .ok (.if_icmp .eq 5, 3) := by decide +kernel
theorem d_L_law_340 : decode c_L_law 340 = .ok (.iconst 0, 1) := by decide +kernel
theorem d_L_law_341 : decode c_L_law 341 = .ok (.ireturn, 1) := by decide +kernel
theorem d_L_law_342 : decode c_L_law 342 = .ok (.iload 5, 2) := by decide +kernel
theorem d_L_law_344 : decode c_L_law 344 = .ok (.ifCond .ne 22, 3) := by decide +kernel
theorem d_L_law_347 : decode c_L_law 347 = .ok (.aload_n 3, 1) := by decide +kernel
theorem d_L_law_348 : decode c_L_law 348 = .ok (.iconst 0, 1) := by decide +kernel
theorem d_L_law_349 : decode c_L_law 349 = .ok (.laload, 1) := by decide +kernel
theorem d_L_law_350 : decode c_L_law 350 = .ok (.iload 6, 2) := by decide +kernel
theorem d_L_law_352 : decode c_L_law 352 = .ok (.ifCond .eq 7, 3) := by decide +kernel
theorem d_L_law_355 : decode c_L_law 355 = .ok (.lconst 1, 1) := by decide +kernel
theorem d_L_law_356 : decode c_L_law 356 = .ok (.goto 4, 3) := by decide +kernel
theorem d_L_law_359 : decode c_L_law 359 = .ok (.lconst 0, 1) := by decide +kernel
theorem d_L_law_360 : decode c_L_law 360 = .ok (.lcmp, 1) := by decide +kernel
theorem d_L_law_361 : decode c_L_law 361 = .ok (.ifCond .eq 5, 3) := by decide +kernel
theorem d_L_law_364 : decode c_L_law 364 = .ok (.iconst 0, 1) := by decide +kernel
theorem d_L_law_365 : decode c_L_law 365 = .ok (.ireturn, 1) := by decide +kernel
theorem d_L_law_366 : decode c_L_law 366 = .ok (.goto 750, 3) := by decide +kernel
theorem d_L_law_369 : decode c_L_law 369 = .ok (.aload_n 1, 1) := by decide +kernel
theorem d_L_law_370 : decode c_L_law 370 = .ok (.aload_n 0, 1) := by decide +kernel
theorem d_L_law_371 : decode c_L_law 371 = .ok (.iload 4, 2) := by decide +kernel
theorem d_L_law_373 : decode c_L_law 373 = .ok (.iconst 1, 1) := by decide +kernel
theorem d_L_law_374 : decode c_L_law 374 = .ok (.iadd, 1) := by decide +kernel
theorem d_L_law_375 : decode c_L_law 375 = .ok (.iaload, 1) := by decide +kernel
theorem d_L_law_376 : decode c_L_law 376 = .ok (.invokestatic 82, 3) := by decide +kernel
theorem d_L_law_379 : decode c_L_law 379 = .ok (.istore 5, 2) := by decide +kernel
theorem d_L_law_381 : decode c_L_law 381 = .ok (.aload_n 2, 1) := by decide +kernel
theorem d_L_law_382 : decode c_L_law 382 = .ok (.aload_n 0, 1) := by decide +kernel
theorem d_L_law_383 : decode c_L_law 383 = .ok (.iload 4, 2) := by decide +kernel
theorem d_L_law_385 : decode c_L_law 385 = .ok (.iconst 1, 1) := by decide +kernel
theorem d_L_law_386 : decode c_L_law 386 = .ok (.iadd, 1) := by decide +kernel
theorem d_L_law_387 : decode c_L_law 387 = .ok (.iaload, 1) := by decide +kernel
theorem d_L_law_388 : decode c_L_law 388 = .ok (.invokevirtual 85, 3) := by decide +kernel
theorem d_L_law_391 : decode c_L_law 391 = .ok (.aload_n 2, 1) := by decide +kernel
theorem d_L_law_392 : decode c_L_law 392 = .ok (.invokevirtual 74, 3) := by decide +kernel
theorem d_L_law_395 : decode c_L_law 395 = .ok (.iload 5, 2) := by decide +kernel
theorem d_L_law_397 : decode c_L_law 397 = .ok (.if_icmp .eq 5, 3) := by decide +kernel
theorem d_L_law_400 : decode c_L_law 400 = .ok (.iconst 0, 1) := by decide +kernel
theorem d_L_law_401 : decode c_L_law 401 = .ok (.ireturn, 1) := by decide +kernel
theorem d_L_law_402 : decode c_L_law 402 = .ok (.goto 714, 3) := by decide +kernel
theorem d_L_law_405 : decode c_L_law 405 = .ok (.aload_n 1, 1) := by decide +kernel
theorem d_L_law_406 : decode c_L_law 406 = .ok (.aload_n 0, 1) := by decide +kernel
theorem d_L_law_407 : decode c_L_law 407 = .ok (.iload 4, 2) := by decide +kernel
theorem d_L_law_409 : decode c_L_law 409 = .ok (.iconst 1, 1) := by decide +kernel
theorem d_L_law_410 : decode c_L_law 410 = .ok (.iadd, 1) := by decide +kernel
theorem d_L_law_411 : decode c_L_law 411 = .ok (.iaload, 1) := by decide +kernel
theorem d_L_law_412 : decode c_L_law 412 = .ok (.aload_n 0, 1) := by decide +kernel
theorem d_L_law_413 : decode c_L_law 413 = .ok (.iload 4, 2) := by decide +kernel
theorem d_L_law_415 : decode c_L_law 415 = .ok (.iconst 2, 1) := by decide +kernel
theorem d_L_law_416 : decode c_L_law 416 = .ok (.iadd, 1) := by decide +kernel
theorem d_L_law_417 : decode c_L_law 417 = .ok (.iaload, 1) := by decide +kernel
theorem d_L_law_418 : decode c_L_law 418 = .ok (.aload_n 0, 1) := by decide +kernel
theorem d_L_law_419 : decode c_L_law 419 = .ok (.iload 4, 2) := by decide +kernel
theorem d_L_law_421 : decode c_L_law 421 = .ok (.iconst 3, 1) := by decide +kernel
theorem d_L_law_422 : decode c_L_law 422 = .ok (.iadd, 1) := by decide +kernel
theorem d_L_law_423 : decode c_L_law 423 = .ok (.iaload, 1) := by decide +kernel
theorem d_L_law_424 : decode c_L_law 424 = .ok (.aload_n 0, 1) := by decide +kernel
theorem d_L_law_425 : decode c_L_law 425 = .ok (.iload 4, 2) := by decide +kernel
theorem d_L_law_427 : decode c_L_law 427 = .ok (.iconst 4, 1) := by decide +kernel
theorem d_L_law_428 : decode c_L_law 428 = .ok (.iadd, 1) := by decide +kernel
theorem d_L_law_429 : decode c_L_law 429 = .ok (.iaload, 1) := by decide +kernel
theorem d_L_law_430 : decode c_L_law 430 = .ok (.aload_n 0, 1) := by decide +kernel
theorem d_L_law_431 : decode c_L_law 431 = .ok (.iload 4, 2) := by decide +kernel
theorem d_L_law_433 : decode c_L_law 433 = .ok (.iconst 5, 1) := by decide +kernel
theorem d_L_law_434 : decode c_L_law 434 = .ok (.iadd, 1) := by decide +kernel
theorem d_L_law_435 : decode c_L_law 435 = .ok (.iaload, 1) := by decide +kernel
theorem d_L_law_436 : decode c_L_law 436 = .ok (.aload_n 3, 1) := by decide +kernel
theorem d_L_law_437 : decode c_L_law 437 = .ok (.invokestatic 86, 3) := by decide +kernel
theorem d_L_law_440 : decode c_L_law 440 = .ok (.istore 5, 2) := by decide +kernel
theorem d_L_law_442 : decode c_L_law 442 = .ok (.aload_n 2, 1) := by decide +kernel
theorem d_L_law_443 : decode c_L_law 443 = .ok (.aload_n 0, 1) := by decide +kernel
theorem d_L_law_444 : decode c_L_law 444 = .ok (.iload 4, 2) := by decide +kernel
theorem d_L_law_446 : decode c_L_law 446 = .ok (.iconst 1, 1) := by decide +kernel
theorem d_L_law_447 : decode c_L_law 447 = .ok (.iadd, 1) := by decide +kernel
theorem d_L_law_448 : decode c_L_law 448 = .ok (.iaload, 1) := by decide +kernel
theorem d_L_law_449 : decode c_L_law 449 = .ok (.aload_n 0, 1) := by decide +kernel
theorem d_L_law_450 : decode c_L_law 450 = .ok (.iload 4, 2) := by decide +kernel
theorem d_L_law_452 : decode c_L_law 452 = .ok (.iconst 2, 1) := by decide +kernel
theorem d_L_law_453 : decode c_L_law 453 = .ok (.iadd, 1) := by decide +kernel
theorem d_L_law_454 : decode c_L_law 454 = .ok (.iaload, 1) := by decide +kernel
theorem d_L_law_455 : decode c_L_law 455 = .ok (.aload_n 0, 1) := by decide +kernel
theorem d_L_law_456 : decode c_L_law 456 = .ok (.iload 4, 2) := by decide +kernel
theorem d_L_law_458 : decode c_L_law 458 = .ok (.iconst 3, 1) := by decide +kernel
theorem d_L_law_459 : decode c_L_law 459 = .ok (.iadd, 1) := by decide +kernel
theorem d_L_law_460 : decode c_L_law 460 = .ok (.iaload, 1) := by decide +kernel
theorem d_L_law_461 : decode c_L_law 461 = .ok (.aload_n 0, 1) := by decide +kernel
theorem d_L_law_462 : decode c_L_law 462 = .ok (.iload 4, 2) := by decide +kernel
theorem d_L_law_464 : decode c_L_law 464 = .ok (.iconst 4, 1) := by decide +kernel
theorem d_L_law_465 : decode c_L_law 465 = .ok (.iadd, 1) := by decide +kernel
theorem d_L_law_466 : decode c_L_law 466 = .ok (.iaload, 1) := by decide +kernel
theorem d_L_law_467 : decode c_L_law 467 = .ok (.aload_n 0, 1) := by decide +kernel
theorem d_L_law_468 : decode c_L_law 468 = .ok (.iload 4, 2) := by decide +kernel
theorem d_L_law_470 : decode c_L_law 470 = .ok (.iconst 5, 1) := by decide +kernel
theorem d_L_law_471 : decode c_L_law 471 = .ok (.iadd, 1) := by decide +kernel
theorem d_L_law_472 : decode c_L_law 472 = .ok (.iaload, 1) := by decide +kernel
theorem d_L_law_473 : decode c_L_law 473 = .ok (.invokevirtual 89, 3) := by decide +kernel
theorem d_L_law_476 : decode c_L_law 476 = .ok (.istore 6, 2) := by decide +kernel
theorem d_L_law_478 : decode c_L_law 478 = .ok (.aload_n 2, 1) := by decide +kernel
theorem d_L_law_479 : decode c_L_law 479 = .ok (.invokevirtual 74, 3) := by decide +kernel
theorem d_L_law_482 : decode c_L_law 482 = .ok (.iload 5, 2) := by decide +kernel
theorem d_L_law_484 : decode c_L_law 484 = .ok (.if_icmp .eq 5, 3) := by decide +kernel
theorem d_L_law_487 : decode c_L_law 487 = .ok (.iconst 0, 1) := by decide +kernel
theorem d_L_law_488 : decode c_L_law 488 = .ok (.ireturn, 1) := by decide +kernel
theorem d_L_law_489 : decode c_L_law 489 = .ok (.iload 5, 2) := by decide +kernel
theorem d_L_law_491 : decode c_L_law 491 = .ok (.ifCond .ne 15, 3) := by decide +kernel
theorem d_L_law_494 : decode c_L_law 494 = .ok (.aload_n 3, 1) := by decide +kernel
theorem d_L_law_495 : decode c_L_law 495 = .ok (.iconst 0, 1) := by decide +kernel
theorem d_L_law_496 : decode c_L_law 496 = .ok (.laload, 1) := by decide +kernel
theorem d_L_law_497 : decode c_L_law 497 = .ok (.iload 6, 2) := by decide +kernel
theorem d_L_law_499 : decode c_L_law 499 = .ok (.i2l, 1) := by decide +kernel
theorem d_L_law_500 : decode c_L_law 500 = .ok (.lcmp, 1) := by decide +kernel
theorem d_L_law_501 : decode c_L_law 501 = .ok (.ifCond .eq 5, 3) := by decide +kernel
theorem d_L_law_504 : decode c_L_law 504 = .ok (.iconst 0, 1) := by decide +kernel
theorem d_L_law_505 : decode c_L_law 505 = .ok (.ireturn, 1) := by decide +kernel
theorem d_L_law_506 : decode c_L_law 506 = .ok (.goto 610, 3) := by decide +kernel
theorem d_L_law_509 : decode c_L_law 509 = .ok (.aload_n 1, 1) := by decide +kernel
theorem d_L_law_510 : decode c_L_law 510 = .ok (.aload_n 0, 1) := by decide +kernel
theorem d_L_law_511 : decode c_L_law 511 = .ok (.iload 4, 2) := by decide +kernel
theorem d_L_law_513 : decode c_L_law 513 = .ok (.iconst 1, 1) := by decide +kernel
theorem d_L_law_514 : decode c_L_law 514 = .ok (.iadd, 1) := by decide +kernel
theorem d_L_law_515 : decode c_L_law 515 = .ok (.iaload, 1) := by decide +kernel
theorem d_L_law_516 : decode c_L_law 516 = .ok (.aload_n 3, 1) := by decide +kernel
theorem d_L_law_517 : decode c_L_law 517 = .ok (.invokestatic 90, 3) := by decide +kernel
theorem d_L_law_520 : decode c_L_law 520 = .ok (.istore 5, 2) := by decide +kernel
theorem d_L_law_522 : decode c_L_law 522 = .ok (.aload_n 2, 1) := by decide +kernel
theorem d_L_law_523 : decode c_L_law 523 = .ok (.aload_n 0, 1) := by decide +kernel
theorem d_L_law_524 : decode c_L_law 524 = .ok (.iload 4, 2) := by decide +kernel
theorem d_L_law_526 : decode c_L_law 526 = .ok (.iconst 1, 1) := by decide +kernel
theorem d_L_law_527 : decode c_L_law 527 = .ok (.iadd, 1) := by decide +kernel
theorem d_L_law_528 : decode c_L_law 528 = .ok (.iaload, 1) := by decide +kernel
theorem d_L_law_529 : decode c_L_law 529 = .ok (.invokevirtual 93, 3) := by decide +kernel
theorem d_L_law_532 : decode c_L_law 532 = .ok (.istore 6, 2) := by decide +kernel
theorem d_L_law_534 : decode c_L_law 534 = .ok (.aload_n 2, 1) := by decide +kernel
theorem d_L_law_535 : decode c_L_law 535 = .ok (.invokevirtual 74, 3) := by decide +kernel
theorem d_L_law_538 : decode c_L_law 538 = .ok (.iload 5, 2) := by decide +kernel
theorem d_L_law_540 : decode c_L_law 540 = .ok (.if_icmp .eq 5, 3) := by decide +kernel
theorem d_L_law_543 : decode c_L_law 543 = .ok (.iconst 0, 1) := by decide +kernel
theorem d_L_law_544 : decode c_L_law 544 = .ok (.ireturn, 1) := by decide +kernel
theorem d_L_law_545 : decode c_L_law 545 = .ok (.iload 5, 2) := by decide +kernel
theorem d_L_law_547 : decode c_L_law 547 = .ok (.ifCond .ne 15, 3) := by decide +kernel
theorem d_L_law_550 : decode c_L_law 550 = .ok (.aload_n 3, 1) := by decide +kernel
theorem d_L_law_551 : decode c_L_law 551 = .ok (.iconst 0, 1) := by decide +kernel
theorem d_L_law_552 : decode c_L_law 552 = .ok (.laload, 1) := by decide +kernel
theorem d_L_law_553 : decode c_L_law 553 = .ok (.iload 6, 2) := by decide +kernel
theorem d_L_law_555 : decode c_L_law 555 = .ok (.i2l, 1) := by decide +kernel
theorem d_L_law_556 : decode c_L_law 556 = .ok (.lcmp, 1) := by decide +kernel
theorem d_L_law_557 : decode c_L_law 557 = .ok (.ifCond .eq 5, 3) := by decide +kernel
theorem d_L_law_560 : decode c_L_law 560 = .ok (.iconst 0, 1) := by decide +kernel
theorem d_L_law_561 : decode c_L_law 561 = .ok (.ireturn, 1) := by decide +kernel
theorem d_L_law_562 : decode c_L_law 562 = .ok (.goto 554, 3) := by decide +kernel
theorem d_L_law_565 : decode c_L_law 565 = .ok (.aload_n 1, 1) := by decide +kernel
theorem d_L_law_566 : decode c_L_law 566 = .ok (.aload_n 0, 1) := by decide +kernel
theorem d_L_law_567 : decode c_L_law 567 = .ok (.iload 4, 2) := by decide +kernel
theorem d_L_law_569 : decode c_L_law 569 = .ok (.iconst 1, 1) := by decide +kernel
theorem d_L_law_570 : decode c_L_law 570 = .ok (.iadd, 1) := by decide +kernel
theorem d_L_law_571 : decode c_L_law 571 = .ok (.iaload, 1) := by decide +kernel
theorem d_L_law_572 : decode c_L_law 572 = .ok (.aload_n 0, 1) := by decide +kernel
theorem d_L_law_573 : decode c_L_law 573 = .ok (.iload 4, 2) := by decide +kernel
theorem d_L_law_575 : decode c_L_law 575 = .ok (.iconst 2, 1) := by decide +kernel
theorem d_L_law_576 : decode c_L_law 576 = .ok (.iadd, 1) := by decide +kernel
theorem d_L_law_577 : decode c_L_law 577 = .ok (.iaload, 1) := by decide +kernel
theorem d_L_law_578 : decode c_L_law 578 = .ok (.aload_n 0, 1) := by decide +kernel
theorem d_L_law_579 : decode c_L_law 579 = .ok (.iload 4, 2) := by decide +kernel
theorem d_L_law_581 : decode c_L_law 581 = .ok (.iconst 3, 1) := by decide +kernel
theorem d_L_law_582 : decode c_L_law 582 = .ok (.iadd, 1) := by decide +kernel
theorem d_L_law_583 : decode c_L_law 583 = .ok (.iaload, 1) := by decide +kernel
theorem d_L_law_584 : decode c_L_law 584 = .ok (.aload_n 3, 1) := by decide +kernel
theorem d_L_law_585 : decode c_L_law 585 = .ok (.invokestatic 94, 3) := by decide +kernel
theorem d_L_law_588 : decode c_L_law 588 = .ok (.istore 5, 2) := by decide +kernel
theorem d_L_law_590 : decode c_L_law 590 = .ok (.aload_n 2, 1) := by decide +kernel
theorem d_L_law_591 : decode c_L_law 591 = .ok (.aload_n 0, 1) := by decide +kernel
theorem d_L_law_592 : decode c_L_law 592 = .ok (.iload 4, 2) := by decide +kernel
theorem d_L_law_594 : decode c_L_law 594 = .ok (.iconst 1, 1) := by decide +kernel
theorem d_L_law_595 : decode c_L_law 595 = .ok (.iadd, 1) := by decide +kernel
theorem d_L_law_596 : decode c_L_law 596 = .ok (.iaload, 1) := by decide +kernel
theorem d_L_law_597 : decode c_L_law 597 = .ok (.aload_n 0, 1) := by decide +kernel
theorem d_L_law_598 : decode c_L_law 598 = .ok (.iload 4, 2) := by decide +kernel
theorem d_L_law_600 : decode c_L_law 600 = .ok (.iconst 2, 1) := by decide +kernel
theorem d_L_law_601 : decode c_L_law 601 = .ok (.iadd, 1) := by decide +kernel
theorem d_L_law_602 : decode c_L_law 602 = .ok (.iaload, 1) := by decide +kernel
theorem d_L_law_603 : decode c_L_law 603 = .ok (.aload_n 0, 1) := by decide +kernel
theorem d_L_law_604 : decode c_L_law 604 = .ok (.iload 4, 2) := by decide +kernel
theorem d_L_law_606 : decode c_L_law 606 = .ok (.iconst 3, 1) := by decide +kernel
theorem d_L_law_607 : decode c_L_law 607 = .ok (.iadd, 1) := by decide +kernel
theorem d_L_law_608 : decode c_L_law 608 = .ok (.iaload, 1) := by decide +kernel
theorem d_L_law_609 : decode c_L_law 609 = .ok (.invokevirtual 97, 3) := by decide +kernel
theorem d_L_law_612 : decode c_L_law 612 = .ok (.istore 6, 2) := by decide +kernel
theorem d_L_law_614 : decode c_L_law 614 = .ok (.aload_n 2, 1) := by decide +kernel
theorem d_L_law_615 : decode c_L_law 615 = .ok (.invokevirtual 74, 3) := by decide +kernel
theorem d_L_law_618 : decode c_L_law 618 = .ok (.iload 5, 2) := by decide +kernel
theorem d_L_law_620 : decode c_L_law 620 = .ok (.if_icmp .eq 5, 3) := by decide +kernel
theorem d_L_law_623 : decode c_L_law 623 = .ok (.iconst 0, 1) := by decide +kernel
theorem d_L_law_624 : decode c_L_law 624 = .ok (.ireturn, 1) := by decide +kernel
theorem d_L_law_625 : decode c_L_law 625 = .ok (.iload 5, 2) := by decide +kernel
theorem d_L_law_627 : decode c_L_law 627 = .ok (.ifCond .ne 15, 3) := by decide +kernel
theorem d_L_law_630 : decode c_L_law 630 = .ok (.aload_n 3, 1) := by decide +kernel
theorem d_L_law_631 : decode c_L_law 631 = .ok (.iconst 0, 1) := by decide +kernel
theorem d_L_law_632 : decode c_L_law 632 = .ok (.laload, 1) := by decide +kernel
theorem d_L_law_633 : decode c_L_law 633 = .ok (.iload 6, 2) := by decide +kernel
theorem d_L_law_635 : decode c_L_law 635 = .ok (.i2l, 1) := by decide +kernel
theorem d_L_law_636 : decode c_L_law 636 = .ok (.lcmp, 1) := by decide +kernel
theorem d_L_law_637 : decode c_L_law 637 = .ok (.ifCond .eq 5, 3) := by decide +kernel
theorem d_L_law_640 : decode c_L_law 640 = .ok (.iconst 0, 1) := by decide +kernel
theorem d_L_law_641 : decode c_L_law 641 = .ok (.ireturn, 1) := by decide +kernel
theorem d_L_law_642 : decode c_L_law 642 = .ok (.goto 474, 3) := by decide +kernel
theorem d_L_law_645 : decode c_L_law 645 = .ok (.aload_n 1, 1) := by decide +kernel
theorem d_L_law_646 : decode c_L_law 646 = .ok (.aload_n 0, 1) := by decide +kernel
theorem d_L_law_647 : decode c_L_law 647 = .ok (.iload 4, 2) := by decide +kernel
theorem d_L_law_649 : decode c_L_law 649 = .ok (.iconst 1, 1) := by decide +kernel
theorem d_L_law_650 : decode c_L_law 650 = .ok (.iadd, 1) := by decide +kernel
theorem d_L_law_651 : decode c_L_law 651 = .ok (.iaload, 1) := by decide +kernel
theorem d_L_law_652 : decode c_L_law 652 = .ok (.aload_n 3, 1) := by decide +kernel
theorem d_L_law_653 : decode c_L_law 653 = .ok (.invokestatic 98, 3) := by decide +kernel
theorem d_L_law_656 : decode c_L_law 656 = .ok (.istore 5, 2) := by decide +kernel
theorem d_L_law_658 : decode c_L_law 658 = .ok (.aload_n 2, 1) := by decide +kernel
theorem d_L_law_659 : decode c_L_law 659 = .ok (.aload_n 0, 1) := by decide +kernel
theorem d_L_law_660 : decode c_L_law 660 = .ok (.iload 4, 2) := by decide +kernel
theorem d_L_law_662 : decode c_L_law 662 = .ok (.iconst 1, 1) := by decide +kernel
theorem d_L_law_663 : decode c_L_law 663 = .ok (.iadd, 1) := by decide +kernel
theorem d_L_law_664 : decode c_L_law 664 = .ok (.iaload, 1) := by decide +kernel
theorem d_L_law_665 : decode c_L_law 665 = .ok (.invokevirtual 100, 3) := by decide +kernel
theorem d_L_law_668 : decode c_L_law 668 = .ok (.lstore 6, 2) := by decide +kernel
theorem d_L_law_670 : decode c_L_law 670 = .ok (.aload_n 2, 1) := by decide +kernel
theorem d_L_law_671 : decode c_L_law 671 = .ok (.invokevirtual 74, 3) := by decide +kernel
theorem d_L_law_674 : decode c_L_law 674 = .ok (.iload 5, 2) := by decide +kernel
theorem d_L_law_676 : decode c_L_law 676 = .ok (.if_icmp .eq 5, 3) := by decide +kernel
theorem d_L_law_679 : decode c_L_law 679 = .ok (.iconst 0, 1) := by decide +kernel
theorem d_L_law_680 : decode c_L_law 680 = .ok (.ireturn, 1) := by decide +kernel
theorem d_L_law_681 : decode c_L_law 681 = .ok (.iload 5, 2) := by decide +kernel
theorem d_L_law_683 : decode c_L_law 683 = .ok (.ifCond .ne 14, 3) := by decide +kernel
theorem d_L_law_686 : decode c_L_law 686 = .ok (.aload_n 3, 1) := by decide +kernel
theorem d_L_law_687 : decode c_L_law 687 = .ok (.iconst 0, 1) := by decide +kernel
theorem d_L_law_688 : decode c_L_law 688 = .ok (.laload, 1) := by decide +kernel
theorem d_L_law_689 : decode c_L_law 689 = .ok (.lload 6, 2) := by decide +kernel
theorem d_L_law_691 : decode c_L_law 691 = .ok (.lcmp, 1) := by decide +kernel
theorem d_L_law_692 : decode c_L_law 692 = .ok (.ifCond .eq 5, 3) := by decide +kernel
theorem d_L_law_695 : decode c_L_law 695 = .ok (.iconst 0, 1) := by decide +kernel
theorem d_L_law_696 : decode c_L_law 696 = .ok (.ireturn, 1) := by decide +kernel
theorem d_L_law_697 : decode c_L_law 697 = .ok (.goto 419, 3) := by decide +kernel
theorem d_L_law_700 : decode c_L_law 700 = .ok (.aload_n 1, 1) := by decide +kernel
theorem d_L_law_701 : decode c_L_law 701 = .ok (.aload_n 0, 1) := by decide +kernel
theorem d_L_law_702 : decode c_L_law 702 = .ok (.iload 4, 2) := by decide +kernel
theorem d_L_law_704 : decode c_L_law 704 = .ok (.iconst 1, 1) := by decide +kernel
theorem d_L_law_705 : decode c_L_law 705 = .ok (.iadd, 1) := by decide +kernel
theorem d_L_law_706 : decode c_L_law 706 = .ok (.iaload, 1) := by decide +kernel
theorem d_L_law_707 : decode c_L_law 707 = .ok (.aload_n 0, 1) := by decide +kernel
theorem d_L_law_708 : decode c_L_law 708 = .ok (.iload 4, 2) := by decide +kernel
theorem d_L_law_710 : decode c_L_law 710 = .ok (.iconst 2, 1) := by decide +kernel
theorem d_L_law_711 : decode c_L_law 711 = .ok (.iadd, 1) := by decide +kernel
theorem d_L_law_712 : decode c_L_law 712 = .ok (.iaload, 1) := by decide +kernel
theorem d_L_law_713 : decode c_L_law 713 = .ok (.aload_n 3, 1) := by decide +kernel
theorem d_L_law_714 : decode c_L_law 714 = .ok (.invokestatic 101, 3) := by decide +kernel
theorem d_L_law_717 : decode c_L_law 717 = .ok (.istore 5, 2) := by decide +kernel
theorem d_L_law_719 : decode c_L_law 719 = .ok (.aload_n 2, 1) := by decide +kernel
theorem d_L_law_720 : decode c_L_law 720 = .ok (.aload_n 0, 1) := by decide +kernel
theorem d_L_law_721 : decode c_L_law 721 = .ok (.iload 4, 2) := by decide +kernel
theorem d_L_law_723 : decode c_L_law 723 = .ok (.iconst 1, 1) := by decide +kernel
theorem d_L_law_724 : decode c_L_law 724 = .ok (.iadd, 1) := by decide +kernel
theorem d_L_law_725 : decode c_L_law 725 = .ok (.iaload, 1) := by decide +kernel
theorem d_L_law_726 : decode c_L_law 726 = .ok (.aload_n 0, 1) := by decide +kernel
theorem d_L_law_727 : decode c_L_law 727 = .ok (.iload 4, 2) := by decide +kernel
theorem d_L_law_729 : decode c_L_law 729 = .ok (.iconst 2, 1) := by decide +kernel
theorem d_L_law_730 : decode c_L_law 730 = .ok (.iadd, 1) := by decide +kernel
theorem d_L_law_731 : decode c_L_law 731 = .ok (.iaload, 1) := by decide +kernel
theorem d_L_law_732 : decode c_L_law 732 = .ok (.invokevirtual 104, 3) := by decide +kernel
theorem d_L_law_735 : decode c_L_law 735 = .ok (.lstore 6, 2) := by decide +kernel
theorem d_L_law_737 : decode c_L_law 737 = .ok (.aload_n 2, 1) := by decide +kernel
theorem d_L_law_738 : decode c_L_law 738 = .ok (.invokevirtual 74, 3) := by decide +kernel
theorem d_L_law_741 : decode c_L_law 741 = .ok (.iload 5, 2) := by decide +kernel
theorem d_L_law_743 : decode c_L_law 743 = .ok (.if_icmp .eq 5, 3) := by decide +kernel
theorem d_L_law_746 : decode c_L_law 746 = .ok (.iconst 0, 1) := by decide +kernel
theorem d_L_law_747 : decode c_L_law 747 = .ok (.ireturn, 1) := by decide +kernel
theorem d_L_law_748 : decode c_L_law 748 = .ok (.iload 5, 2) := by decide +kernel
theorem d_L_law_750 : decode c_L_law 750 = .ok (.ifCond .ne 14, 3) := by decide +kernel
theorem d_L_law_753 : decode c_L_law 753 = .ok (.aload_n 3, 1) := by decide +kernel
theorem d_L_law_754 : decode c_L_law 754 = .ok (.iconst 0, 1) := by decide +kernel
theorem d_L_law_755 : decode c_L_law 755 = .ok (.laload, 1) := by decide +kernel
theorem d_L_law_756 : decode c_L_law 756 = .ok (.lload 6, 2) := by decide +kernel
theorem d_L_law_758 : decode c_L_law 758 = .ok (.lcmp, 1) := by decide +kernel
theorem d_L_law_759 : decode c_L_law 759 = .ok (.ifCond .eq 5, 3) := by decide +kernel
theorem d_L_law_762 : decode c_L_law 762 = .ok (.iconst 0, 1) := by decide +kernel
theorem d_L_law_763 : decode c_L_law 763 = .ok (.ireturn, 1) := by decide +kernel
theorem d_L_law_764 : decode c_L_law 764 = .ok (.goto 352, 3) := by decide +kernel
theorem d_L_law_767 : decode c_L_law 767 = .ok (.aload_n 1, 1) := by decide +kernel
theorem d_L_law_768 : decode c_L_law 768 = .ok (.aload_n 0, 1) := by decide +kernel
theorem d_L_law_769 : decode c_L_law 769 = .ok (.iload 4, 2) := by decide +kernel
theorem d_L_law_771 : decode c_L_law 771 = .ok (.iconst 1, 1) := by decide +kernel
theorem d_L_law_772 : decode c_L_law 772 = .ok (.iadd, 1) := by decide +kernel
theorem d_L_law_773 : decode c_L_law 773 = .ok (.iaload, 1) := by decide +kernel
theorem d_L_law_774 : decode c_L_law 774 = .ok (.aload_n 0, 1) := by decide +kernel
theorem d_L_law_775 : decode c_L_law 775 = .ok (.iload 4, 2) := by decide +kernel
theorem d_L_law_777 : decode c_L_law 777 = .ok (.iconst 2, 1) := by decide +kernel
theorem d_L_law_778 : decode c_L_law 778 = .ok (.iadd, 1) := by decide +kernel
theorem d_L_law_779 : decode c_L_law 779 = .ok (.iaload, 1) := by decide +kernel
theorem d_L_law_780 : decode c_L_law 780 = .ok (.aload_n 3, 1) := by decide +kernel
theorem d_L_law_781 : decode c_L_law 781 = .ok (.invokestatic 105, 3) := by decide +kernel
theorem d_L_law_784 : decode c_L_law 784 = .ok (.istore 5, 2) := by decide +kernel
theorem d_L_law_786 : decode c_L_law 786 = .ok (.aload_n 2, 1) := by decide +kernel
theorem d_L_law_787 : decode c_L_law 787 = .ok (.aload_n 0, 1) := by decide +kernel
theorem d_L_law_788 : decode c_L_law 788 = .ok (.iload 4, 2) := by decide +kernel
theorem d_L_law_790 : decode c_L_law 790 = .ok (.iconst 1, 1) := by decide +kernel
theorem d_L_law_791 : decode c_L_law 791 = .ok (.iadd, 1) := by decide +kernel
theorem d_L_law_792 : decode c_L_law 792 = .ok (.iaload, 1) := by decide +kernel
theorem d_L_law_793 : decode c_L_law 793 = .ok (.aload_n 0, 1) := by decide +kernel
theorem d_L_law_794 : decode c_L_law 794 = .ok (.iload 4, 2) := by decide +kernel
theorem d_L_law_796 : decode c_L_law 796 = .ok (.iconst 2, 1) := by decide +kernel
theorem d_L_law_797 : decode c_L_law 797 = .ok (.iadd, 1) := by decide +kernel
theorem d_L_law_798 : decode c_L_law 798 = .ok (.iaload, 1) := by decide +kernel
theorem d_L_law_799 : decode c_L_law 799 = .ok (.invokevirtual 107, 3) := by decide +kernel
theorem d_L_law_802 : decode c_L_law 802 = .ok (.lstore 6, 2) := by decide +kernel
theorem d_L_law_804 : decode c_L_law 804 = .ok (.aload_n 2, 1) := by decide +kernel
theorem d_L_law_805 : decode c_L_law 805 = .ok (.invokevirtual 74, 3) := by decide +kernel
theorem d_L_law_808 : decode c_L_law 808 = .ok (.iload 5, 2) := by decide +kernel
theorem d_L_law_810 : decode c_L_law 810 = .ok (.if_icmp .eq 5, 3) := by decide +kernel
theorem d_L_law_813 : decode c_L_law 813 = .ok (.iconst 0, 1) := by decide +kernel
theorem d_L_law_814 : decode c_L_law 814 = .ok (.ireturn, 1) := by decide +kernel
theorem d_L_law_815 : decode c_L_law 815 = .ok (.iload 5, 2) := by decide +kernel
theorem d_L_law_817 : decode c_L_law 817 = .ok (.ifCond .ne 14, 3) := by decide +kernel
theorem d_L_law_820 : decode c_L_law 820 = .ok (.aload_n 3, 1) := by decide +kernel
theorem d_L_law_821 : decode c_L_law 821 = .ok (.iconst 0, 1) := by decide +kernel
theorem d_L_law_822 : decode c_L_law 822 = .ok (.laload, 1) := by decide +kernel
theorem d_L_law_823 : decode c_L_law 823 = .ok (.lload 6, 2) := by decide +kernel
theorem d_L_law_825 : decode c_L_law 825 = .ok (.lcmp, 1) := by decide +kernel
theorem d_L_law_826 : decode c_L_law 826 = .ok (.ifCond .eq 5, 3) := by decide +kernel
theorem d_L_law_829 : decode c_L_law 829 = .ok (.iconst 0, 1) := by decide +kernel
theorem d_L_law_830 : decode c_L_law 830 = .ok (.ireturn, 1) := by decide +kernel
theorem d_L_law_831 : decode c_L_law 831 = .ok (.goto 285, 3) := by decide +kernel
theorem d_L_law_834 : decode c_L_law 834 = .ok (.aload_n 1, 1) := by decide +kernel
theorem d_L_law_835 : decode c_L_law 835 = .ok (.aload_n 0, 1) := by decide +kernel
theorem d_L_law_836 : decode c_L_law 836 = .ok (.iload 4, 2) := by decide +kernel
theorem d_L_law_838 : decode c_L_law 838 = .ok (.iconst 1, 1) := by decide +kernel
theorem d_L_law_839 : decode c_L_law 839 = .ok (.iadd, 1) := by decide +kernel
theorem d_L_law_840 : decode c_L_law 840 = .ok (.iaload, 1) := by decide +kernel
theorem d_L_law_841 : decode c_L_law 841 = .ok (.aload_n 0, 1) := by decide +kernel
theorem d_L_law_842 : decode c_L_law 842 = .ok (.iload 4, 2) := by decide +kernel
theorem d_L_law_844 : decode c_L_law 844 = .ok (.iconst 2, 1) := by decide +kernel
theorem d_L_law_845 : decode c_L_law 845 = .ok (.iadd, 1) := by decide +kernel
theorem d_L_law_846 : decode c_L_law 846 = .ok (.iaload, 1) := by decide +kernel
theorem d_L_law_847 : decode c_L_law 847 = .ok (.aload_n 0, 1) := by decide +kernel
theorem d_L_law_848 : decode c_L_law 848 = .ok (.iload 4, 2) := by decide +kernel
theorem d_L_law_850 : decode c_L_law 850 = .ok (.iconst 3, 1) := by decide +kernel
theorem d_L_law_851 : decode c_L_law 851 = .ok (.iadd, 1) := by decide +kernel
theorem d_L_law_852 : decode c_L_law 852 = .ok (.iaload, 1) := by decide +kernel
theorem d_L_law_853 : decode c_L_law 853 = .ok (.aload_n 0, 1) := by decide +kernel
theorem d_L_law_854 : decode c_L_law 854 = .ok (.iload 4, 2) := by decide +kernel
theorem d_L_law_856 : decode c_L_law 856 = .ok (.iconst 4, 1) := by decide +kernel
theorem d_L_law_857 : decode c_L_law 857 = .ok (.iadd, 1) := by decide +kernel
theorem d_L_law_858 : decode c_L_law 858 = .ok (.iaload, 1) := by decide +kernel
theorem d_L_law_859 : decode c_L_law 859 = .ok (.aload_n 3, 1) := by decide +kernel
theorem d_L_law_860 : decode c_L_law 860 = .ok (.invokestatic 108, 3) := by decide +kernel
theorem d_L_law_863 : decode c_L_law 863 = .ok (.istore 5, 2) := by decide +kernel
theorem d_L_law_865 : decode c_L_law 865 = .ok (.aload_n 2, 1) := by decide +kernel
theorem d_L_law_866 : decode c_L_law 866 = .ok (.aload_n 0, 1) := by decide +kernel
theorem d_L_law_867 : decode c_L_law 867 = .ok (.iload 4, 2) := by decide +kernel
theorem d_L_law_869 : decode c_L_law 869 = .ok (.iconst 1, 1) := by decide +kernel
theorem d_L_law_870 : decode c_L_law 870 = .ok (.iadd, 1) := by decide +kernel
theorem d_L_law_871 : decode c_L_law 871 = .ok (.iaload, 1) := by decide +kernel
theorem d_L_law_872 : decode c_L_law 872 = .ok (.aload_n 0, 1) := by decide +kernel
theorem d_L_law_873 : decode c_L_law 873 = .ok (.iload 4, 2) := by decide +kernel
theorem d_L_law_875 : decode c_L_law 875 = .ok (.iconst 2, 1) := by decide +kernel
theorem d_L_law_876 : decode c_L_law 876 = .ok (.iadd, 1) := by decide +kernel
theorem d_L_law_877 : decode c_L_law 877 = .ok (.iaload, 1) := by decide +kernel
theorem d_L_law_878 : decode c_L_law 878 = .ok (.aload_n 0, 1) := by decide +kernel
theorem d_L_law_879 : decode c_L_law 879 = .ok (.iload 4, 2) := by decide +kernel
theorem d_L_law_881 : decode c_L_law 881 = .ok (.iconst 3, 1) := by decide +kernel
theorem d_L_law_882 : decode c_L_law 882 = .ok (.iadd, 1) := by decide +kernel
theorem d_L_law_883 : decode c_L_law 883 = .ok (.iaload, 1) := by decide +kernel
theorem d_L_law_884 : decode c_L_law 884 = .ok (.aload_n 0, 1) := by decide +kernel
theorem d_L_law_885 : decode c_L_law 885 = .ok (.iload 4, 2) := by decide +kernel
theorem d_L_law_887 : decode c_L_law 887 = .ok (.iconst 4, 1) := by decide +kernel
theorem d_L_law_888 : decode c_L_law 888 = .ok (.iadd, 1) := by decide +kernel
theorem d_L_law_889 : decode c_L_law 889 = .ok (.iaload, 1) := by decide +kernel
theorem d_L_law_890 : decode c_L_law 890 = .ok (.invokevirtual 111, 3) := by decide +kernel
theorem d_L_law_893 : decode c_L_law 893 = .ok (.istore 6, 2) := by decide +kernel
theorem d_L_law_895 : decode c_L_law 895 = .ok (.aload_n 2, 1) := by decide +kernel
theorem d_L_law_896 : decode c_L_law 896 = .ok (.invokevirtual 74, 3) := by decide +kernel
theorem d_L_law_899 : decode c_L_law 899 = .ok (.iload 5, 2) := by decide +kernel
theorem d_L_law_901 : decode c_L_law 901 = .ok (.if_icmp .eq 5, 3) := by decide +kernel
theorem d_L_law_904 : decode c_L_law 904 = .ok (.iconst 0, 1) := by decide +kernel
theorem d_L_law_905 : decode c_L_law 905 = .ok (.ireturn, 1) := by decide +kernel
theorem d_L_law_906 : decode c_L_law 906 = .ok (.iload 5, 2) := by decide +kernel
theorem d_L_law_908 : decode c_L_law 908 = .ok (.ifCond .ne 22, 3) := by decide +kernel
theorem d_L_law_911 : decode c_L_law 911 = .ok (.aload_n 3, 1) := by decide +kernel
theorem d_L_law_912 : decode c_L_law 912 = .ok (.iconst 0, 1) := by decide +kernel
theorem d_L_law_913 : decode c_L_law 913 = .ok (.laload, 1) := by decide +kernel
theorem d_L_law_914 : decode c_L_law 914 = .ok (.iload 6, 2) := by decide +kernel
theorem d_L_law_916 : decode c_L_law 916 = .ok (.ifCond .eq 7, 3) := by decide +kernel
theorem d_L_law_919 : decode c_L_law 919 = .ok (.lconst 1, 1) := by decide +kernel
theorem d_L_law_920 : decode c_L_law 920 = .ok (.goto 4, 3) := by decide +kernel
theorem d_L_law_923 : decode c_L_law 923 = .ok (.lconst 0, 1) := by decide +kernel
theorem d_L_law_924 : decode c_L_law 924 = .ok (.lcmp, 1) := by decide +kernel
theorem d_L_law_925 : decode c_L_law 925 = .ok (.ifCond .eq 5, 3) := by decide +kernel
theorem d_L_law_928 : decode c_L_law 928 = .ok (.iconst 0, 1) := by decide +kernel
theorem d_L_law_929 : decode c_L_law 929 = .ok (.ireturn, 1) := by decide +kernel
theorem d_L_law_930 : decode c_L_law 930 = .ok (.goto 186, 3) := by decide +kernel
theorem d_L_law_933 : decode c_L_law 933 = .ok (.aload_n 1, 1) := by decide +kernel
theorem d_L_law_934 : decode c_L_law 934 = .ok (.aload_n 0, 1) := by decide +kernel
theorem d_L_law_935 : decode c_L_law 935 = .ok (.iload 4, 2) := by decide +kernel
theorem d_L_law_937 : decode c_L_law 937 = .ok (.iconst 1, 1) := by decide +kernel
theorem d_L_law_938 : decode c_L_law 938 = .ok (.iadd, 1) := by decide +kernel
theorem d_L_law_939 : decode c_L_law 939 = .ok (.iaload, 1) := by decide +kernel
theorem d_L_law_940 : decode c_L_law 940 = .ok (.aload_n 0, 1) := by decide +kernel
theorem d_L_law_941 : decode c_L_law 941 = .ok (.iload 4, 2) := by decide +kernel
theorem d_L_law_943 : decode c_L_law 943 = .ok (.iconst 2, 1) := by decide +kernel
theorem d_L_law_944 : decode c_L_law 944 = .ok (.iadd, 1) := by decide +kernel
theorem d_L_law_945 : decode c_L_law 945 = .ok (.iaload, 1) := by decide +kernel
theorem d_L_law_946 : decode c_L_law 946 = .ok (.invokestatic 112, 3) := by decide +kernel
theorem d_L_law_949 : decode c_L_law 949 = .ok (.istore 5, 2) := by decide +kernel
theorem d_L_law_951 : decode c_L_law 951 = .ok (.aload_n 2, 1) := by decide +kernel
theorem d_L_law_952 : decode c_L_law 952 = .ok (.aload_n 0, 1) := by decide +kernel
theorem d_L_law_953 : decode c_L_law 953 = .ok (.iload 4, 2) := by decide +kernel
theorem d_L_law_955 : decode c_L_law 955 = .ok (.iconst 1, 1) := by decide +kernel
theorem d_L_law_956 : decode c_L_law 956 = .ok (.iadd, 1) := by decide +kernel
theorem d_L_law_957 : decode c_L_law 957 = .ok (.iaload, 1) := by decide +kernel
theorem d_L_law_958 : decode c_L_law 958 = .ok (.aload_n 0, 1) := by decide +kernel
theorem d_L_law_959 : decode c_L_law 959 = .ok (.iload 4, 2) := by decide +kernel
theorem d_L_law_961 : decode c_L_law 961 = .ok (.iconst 2, 1) := by decide +kernel
theorem d_L_law_962 : decode c_L_law 962 = .ok (.iadd, 1) := by decide +kernel
theorem d_L_law_963 : decode c_L_law 963 = .ok (.iaload, 1) := by decide +kernel
theorem d_L_law_964 : decode c_L_law 964 = .ok (.invokevirtual 115, 3) := by decide +kernel
theorem d_L_law_967 : decode c_L_law 967 = .ok (.aload_n 2, 1) := by decide +kernel
theorem d_L_law_968 : decode c_L_law 968 = .ok (.invokevirtual 74, 3) := by decide +kernel
theorem d_L_law_971 : decode c_L_law 971 = .ok (.iload 5, 2) := by decide +kernel
theorem d_L_law_973 : decode c_L_law 973 = .ok (.if_icmp .eq 5, 3) := by decide +kernel
theorem d_L_law_976 : decode c_L_law 976 = .ok (.iconst 0, 1) := by decide +kernel
theorem d_L_law_977 : decode c_L_law 977 = .ok (.ireturn, 1) := by decide +kernel
theorem d_L_law_978 : decode c_L_law 978 = .ok (.goto 138, 3) := by decide +kernel
theorem d_L_law_981 : decode c_L_law 981 = .ok (.aload_n 1, 1) := by decide +kernel
theorem d_L_law_982 : decode c_L_law 982 = .ok (.aload_n 0, 1) := by decide +kernel
theorem d_L_law_983 : decode c_L_law 983 = .ok (.iload 4, 2) := by decide +kernel
theorem d_L_law_985 : decode c_L_law 985 = .ok (.iconst 1, 1) := by decide +kernel
theorem d_L_law_986 : decode c_L_law 986 = .ok (.iadd, 1) := by decide +kernel
theorem d_L_law_987 : decode c_L_law 987 = .ok (.iaload, 1) := by decide +kernel
theorem d_L_law_988 : decode c_L_law 988 = .ok (.aload_n 3, 1) := by decide +kernel
theorem d_L_law_989 : decode c_L_law 989 = .ok (.invokestatic 116, 3) := by decide +kernel
theorem d_L_law_992 : decode c_L_law 992 = .ok (.istore 5, 2) := by decide +kernel
theorem d_L_law_994 : decode c_L_law 994 = .ok (.aload_n 2, 1) := by decide +kernel
theorem d_L_law_995 : decode c_L_law 995 = .ok (.aload_n 0, 1) := by decide +kernel
theorem d_L_law_996 : decode c_L_law 996 = .ok (.iload 4, 2) := by decide +kernel
theorem d_L_law_998 : decode c_L_law 998 = .ok (.iconst 1, 1) := by decide +kernel
theorem d_L_law_999 : decode c_L_law 999 = .ok (.iadd, 1) := by decide +kernel
theorem d_L_law_1000 : decode c_L_law 1000 = .ok (.iaload, 1) := by decide +kernel
theorem d_L_law_1001 : decode c_L_law 1001 = .ok (.invokevirtual 118, 3) := by decide +kernel
theorem d_L_law_1004 : decode c_L_law 1004 = .ok (.lstore 6, 2) := by decide +kernel
theorem d_L_law_1006 : decode c_L_law 1006 = .ok (.aload_n 2, 1) := by decide +kernel
theorem d_L_law_1007 : decode c_L_law 1007 = .ok (.invokevirtual 74, 3) := by decide +kernel
theorem d_L_law_1010 : decode c_L_law 1010 = .ok (.iload 5, 2) := by decide +kernel
theorem d_L_law_1012 : decode c_L_law 1012 = .ok (.if_icmp .eq 5, 3) := by decide +kernel
theorem d_L_law_1015 : decode c_L_law 1015 = .ok (.iconst 0, 1) := by decide +kernel
theorem d_L_law_1016 : decode c_L_law 1016 = .ok (.ireturn, 1) := by decide +kernel
theorem d_L_law_1017 : decode c_L_law 1017 = .ok (.iload 5, 2) := by decide +kernel
theorem d_L_law_1019 : decode c_L_law 1019 = .ok (.ifCond .ne 14, 3) := by decide +kernel
theorem d_L_law_1022 : decode c_L_law 1022 = .ok (.aload_n 3, 1) := by decide +kernel
theorem d_L_law_1023 : decode c_L_law 1023 = .ok (.iconst 0, 1) := by decide +kernel
theorem d_L_law_1024 : decode c_L_law 1024 = .ok (.laload, 1) := by decide +kernel
theorem d_L_law_1025 : decode c_L_law 1025 = .ok (.lload 6, 2) := by decide +kernel
theorem d_L_law_1027 : decode c_L_law 1027 = .ok (.lcmp, 1) := by decide +kernel
theorem d_L_law_1028 : decode c_L_law 1028 = .ok (.ifCond .eq 5, 3) := by decide +kernel
theorem d_L_law_1031 : decode c_L_law 1031 = .ok (.iconst 0, 1) := by decide +kernel
theorem d_L_law_1032 : decode c_L_law 1032 = .ok (.ireturn, 1) := by decide +kernel
theorem d_L_law_1033 : decode c_L_law 1033 = .ok (.goto 83, 3) := by decide +kernel
theorem d_L_law_1036 : decode c_L_law 1036 = .ok (.aload_n 1, 1) := by decide +kernel
theorem d_L_law_1037 : decode c_L_law 1037 = .ok (.aload_n 0, 1) := by decide +kernel
theorem d_L_law_1038 : decode c_L_law 1038 = .ok (.iload 4, 2) := by decide +kernel
theorem d_L_law_1040 : decode c_L_law 1040 = .ok (.iconst 1, 1) := by decide +kernel
theorem d_L_law_1041 : decode c_L_law 1041 = .ok (.iadd, 1) := by decide +kernel
theorem d_L_law_1042 : decode c_L_law 1042 = .ok (.iaload, 1) := by decide +kernel
theorem d_L_law_1043 : decode c_L_law 1043 = .ok (.aload_n 0, 1) := by decide +kernel
theorem d_L_law_1044 : decode c_L_law 1044 = .ok (.iload 4, 2) := by decide +kernel
theorem d_L_law_1046 : decode c_L_law 1046 = .ok (.iconst 2, 1) := by decide +kernel
theorem d_L_law_1047 : decode c_L_law 1047 = .ok (.iadd, 1) := by decide +kernel
theorem d_L_law_1048 : decode c_L_law 1048 = .ok (.iaload, 1) := by decide +kernel
theorem d_L_law_1049 : decode c_L_law 1049 = .ok (.aload_n 3, 1) := by decide +kernel
theorem d_L_law_1050 : decode c_L_law 1050 = .ok (.invokestatic 119, 3) := by decide +kernel
theorem d_L_law_1053 : decode c_L_law 1053 = .ok (.istore 5, 2) := by decide +kernel
theorem d_L_law_1055 : decode c_L_law 1055 = .ok (.aload_n 2, 1) := by decide +kernel
theorem d_L_law_1056 : decode c_L_law 1056 = .ok (.aload_n 0, 1) := by decide +kernel
theorem d_L_law_1057 : decode c_L_law 1057 = .ok (.iload 4, 2) := by decide +kernel
theorem d_L_law_1059 : decode c_L_law 1059 = .ok (.iconst 1, 1) := by decide +kernel
theorem d_L_law_1060 : decode c_L_law 1060 = .ok (.iadd, 1) := by decide +kernel
theorem d_L_law_1061 : decode c_L_law 1061 = .ok (.iaload, 1) := by decide +kernel
theorem d_L_law_1062 : decode c_L_law 1062 = .ok (.aload_n 0, 1) := by decide +kernel
theorem d_L_law_1063 : decode c_L_law 1063 = .ok (.iload 4, 2) := by decide +kernel
theorem d_L_law_1065 : decode c_L_law 1065 = .ok (.iconst 2, 1) := by decide +kernel
theorem d_L_law_1066 : decode c_L_law 1066 = .ok (.iadd, 1) := by decide +kernel
theorem d_L_law_1067 : decode c_L_law 1067 = .ok (.iaload, 1) := by decide +kernel
theorem d_L_law_1068 : decode c_L_law 1068 = .ok (.invokevirtual 121, 3) := by decide +kernel
theorem d_L_law_1071 : decode c_L_law 1071 = .ok (.lstore 6, 2) := by decide +kernel
theorem d_L_law_1073 : decode c_L_law 1073 = .ok (.aload_n 2, 1) := by decide +kernel
theorem d_L_law_1074 : decode c_L_law 1074 = .ok (.invokevirtual 74, 3) := by decide +kernel
theorem d_L_law_1077 : decode c_L_law 1077 = .ok (.iload 5, 2) := by decide +kernel
theorem d_L_law_1079 : decode c_L_law 1079 = .ok (.if_icmp .eq 5, 3) := by decide +kernel
theorem d_L_law_1082 : decode c_L_law 1082 = .ok (.iconst 0, 1) := by decide +kernel
theorem d_L_law_1083 : decode c_L_law 1083 = .ok (.ireturn, 1) := by decide +kernel
theorem d_L_law_1084 : decode c_L_law 1084 = .ok (.iload 5, 2) := by decide +kernel
theorem d_L_law_1086 : decode c_L_law 1086 = .ok (.ifCond .ne 14, 3) := by decide +kernel
theorem d_L_law_1089 : decode c_L_law 1089 = .ok (.aload_n 3, 1) := by decide +kernel
theorem d_L_law_1090 : decode c_L_law 1090 = .ok (.iconst 0, 1) := by decide +kernel
theorem d_L_law_1091 : decode c_L_law 1091 = .ok (.laload, 1) := by decide +kernel
theorem d_L_law_1092 : decode c_L_law 1092 = .ok (.lload 6, 2) := by decide +kernel
theorem d_L_law_1094 : decode c_L_law 1094 = .ok (.lcmp, 1) := by decide +kernel
theorem d_L_law_1095 : decode c_L_law 1095 = .ok (.ifCond .eq 5, 3) := by decide +kernel
theorem d_L_law_1098 : decode c_L_law 1098 = .ok (.iconst 0, 1) := by decide +kernel
theorem d_L_law_1099 : decode c_L_law 1099 = .ok (.ireturn, 1) := by decide +kernel
theorem d_L_law_1100 : decode c_L_law 1100 = .ok (.goto 16, 3) := by decide +kernel
theorem d_L_law_1103 : decode c_L_law 1103 = .ok (.aload_n 1, 1) := by decide +kernel
theorem d_L_law_1104 : decode c_L_law 1104 = .ok (.invokevirtual 122, 3) := by decide +kernel
theorem d_L_law_1107 : decode c_L_law 1107 = .ok (.aload_n 2, 1) := by decide +kernel
theorem d_L_law_1108 : decode c_L_law 1108 = .ok (.invokevirtual 125, 3) := by decide +kernel
theorem d_L_law_1111 : decode c_L_law 1111 = .ok (.if_icmp .eq 5, 3) := by decide +kernel
theorem d_L_law_1114 : decode c_L_law 1114 = .ok (.iconst 0, 1) := by decide +kernel
theorem d_L_law_1115 : decode c_L_law 1115 = .ok (.ireturn, 1) := by decide +kernel
theorem d_L_law_1116 : decode c_L_law 1116 = .ok (.iinc 4 8, 3) := by decide +kernel
theorem d_L_law_1119 : decode c_L_law 1119 = .ok (.goto (-1096), 3) := by decide +kernel
theorem d_L_law_1122 : decode c_L_law 1122 = .ok (.iconst 1, 1) := by decide +kernel
theorem d_L_law_1123 : decode c_L_law 1123 = .ok (.ireturn, 1) := by decide +kernel
