theorem d_J_init_0 : decode c_J_init 0 = .ok (.aload_n 0, 1) := by decide +kernel
theorem d_J_init_1 : decode c_J_init 1 = .ok (.invokespecial 1, 3) := by decide +kernel
theorem d_J_init_4 : decode c_J_init 4 = .ok (.aload_n 0, 1) := by decide +kernel
theorem d_J_init_5 : decode c_J_init 5 = .ok (.bipush 8, 2) := by decide +kernel
theorem d_J_init_7 : decode c_J_init 7 = .ok (.anewarray 9, 3) := by decide +kernel
theorem d_J_init_10 : decode c_J_init 10 = .ok (.putfield 11, 3) := by decide +kernel
theorem d_J_init_13 : decode c_J_init 13 = .ok (.aload_n 0, 1) := by decide +kernel
theorem d_J_init_14 : decode c_J_init 14 = .ok (.bipush 48, 2) := by decide +kernel
theorem d_J_init_16 : decode c_J_init 16 = .ok (.newarray .int, 2) := by decide +kernel
theorem d_J_init_18 : decode c_J_init 18 = .ok (.putfield 15, 3) := by decide +kernel
theorem d_J_init_21 : decode c_J_init 21 = .ok (.aload_n 0, 1) := by decide +kernel
theorem d_J_init_22 : decode c_J_init 22 = .ok (.bipush 12, 2) := by decide +kernel
theorem d_J_init_24 : decode c_J_init 24 = .ok (.anewarray 19, 3) := by decide +kernel
theorem d_J_init_27 : decode c_J_init 27 = .ok (.putfield 21, 3) := by decide +kernel
theorem d_J_init_30 : decode c_J_init 30 = .ok (.aload_n 0, 1) := by decide +kernel
theorem d_J_init_31 : decode c_J_init 31 = .ok (.iconst 5, 1) := by decide +kernel
theorem d_J_init_32 : decode c_J_init 32 = .ok (.newarray .int, 2) := by decide +kernel
theorem d_J_init_34 : decode c_J_init 34 = .ok (.putfield 25, 3) := by decide +kernel
theorem d_J_init_37 : decode c_J_init 37 = .ok (.aload_n 0, 1) := by decide +kernel
theorem d_J_init_38 : decode c_J_init 38 = .ok (.new 9, 3) := by decide +kernel
theorem d_J_init_41 : decode c_J_init 41 = .ok (.dup, 1) := by decide +kernel
theorem d_J_init_42 : decode c_J_init 42 = .ok (.invokespecial 28, 3) := by decide +kernel
theorem d_J_init_45 : decode c_J_init 45 = .ok (.putfield 29, 3) := by decide +kernel
theorem d_J_init_48 : decode c_J_init 48 = .ok (.aload_n 0, 1) := by decide +kernel
theorem d_J_init_49 : decode c_J_init 49 = .ok (.new 9, 3) := by decide +kernel
theorem d_J_init_52 : decode c_J_init 52 = .ok (.dup, 1) := by decide +kernel
theorem d_J_init_53 : decode c_J_init 53 = .ok (.invokespecial 28, 3) := by decide +kernel
theorem d_J_init_56 : decode c_J_init 56 = .ok (.putfield 33, 3) := by decide +kernel
theorem d_J_init_59 : decode c_J_init 59 = .ok (.aload_n 0, 1) := by decide +kernel
theorem d_J_init_60 : decode c_J_init 60 = .ok (.new 9, 3) := by decide +kernel
theorem d_J_init_63 : decode c_J_init 63 = .ok (.dup, 1) := by decide +kernel
theorem d_J_init_64 : decode c_J_init 64 = .ok (.invokespecial 28, 3) := by decide +kernel
theorem d_J_init_67 : decode c_J_init 67 = .ok (.putfield 36, 3) := by decide +kernel
theorem d_J_init_70 : decode c_J_init 70 = .ok (.aload_n 0, 1) := by decide +kernel
theorem d_J_init_71 : decode c_J_init 71 = .ok (.bipush 6, 2) := by decide +kernel
theorem d_J_init_73 : decode c_J_init 73 = .ok (.newarray .int, 2) := by decide +kernel
theorem d_J_init_75 : decode c_J_init 75 = .ok (.putfield 39, 3) := by decide +kernel
theorem d_J_init_78 : decode c_J_init 78 = .ok (.aload_n 0, 1) := by decide +kernel
theorem d_J_init_79 : decode c_J_init 79 = .ok (.bipush 6, 2) := by decide +kernel
theorem d_J_init_81 : decode c_J_init 81 = .ok (.newarray .int, 2) := by decide +kernel
theorem d_J_init_83 : decode c_J_init 83 = .ok (.putfield 42, 3) := by decide +kernel
theorem d_J_init_86 : decode c_J_init 86 = .ok (.aload_n 0, 1) := by decide +kernel
theorem d_J_init_87 : decode c_J_init 87 = .ok (.bipush 6, 2) := by decide +kernel
theorem d_J_init_89 : decode c_J_init 89 = .ok (.newarray .int, 2) := by decide +kernel
theorem d_J_init_91 : decode c_J_init 91 = .ok (.putfield 45, 3) := by decide +kernel
theorem d_J_init_94 : decode c_J_init 94 = .ok (.aload_n 0, 1) := by decide +kernel
theorem d_J_init_95 : decode c_J_init 95 = .ok (.bipush 9, 2) := by decide +kernel
theorem d_J_init_97 : decode c_J_init 97 = .ok (.newarray .int, 2) := by decide +kernel
theorem d_J_init_99 : decode c_J_init 99 = .ok (.putfield 48, 3) := by decide +kernel
theorem d_J_init_102 : decode c_J_init 102 = .ok (.return_, 1) := by decide +kernel
theorem d_J_part_0 : decode c_J_part 0 = .ok (.sipush 1000, 3) := by decide +kernel
theorem d_J_part_3 : decode c_J_part 3 = .ok (.iload_n 1, 1) := by decide +kernel
theorem d_J_part_4 : decode c_J_part 4 = .ok (.iload_n 2, 1) := by decide +kernel
theorem d_J_part_5 : decode c_J_part 5 = .ok (.iload_n 3, 1) := by decide +kernel
theorem d_J_part_6 : decode c_J_part 6 = .ok (.invokestatic 51, 3) := by decide +kernel
theorem d_J_part_9 : decode c_J_part 9 = .ok (.sipush 1000, 3) := by decide +kernel
theorem d_J_part_12 : decode c_J_part 12 = .ok (.iload 4, 2) := by decide +kernel
theorem d_J_part_14 : decode c_J_part 14 = .ok (.iload 5, 2) := by decide +kernel
theorem d_J_part_16 : decode c_J_part 16 = .ok (.iload 6, 2) := by decide +kernel
theorem d_J_part_18 : decode c_J_part 18 = .ok (.invokestatic 55, 3) := by decide +kernel
theorem d_J_part_21 : decode c_J_part 21 = .ok (.aload_n 0, 1) := by decide +kernel
theorem d_J_part_22 : decode c_J_part 22 = .ok (.getfield 58, 3) := by decide +kernel
theorem d_J_part_25 : decode c_J_part 25 = .ok (.bipush 8, 2) := by decide +kernel
theorem d_J_part_27 : decode c_J_part 27 = .ok (.if_icmp .lt 13, 3) := by decide +kernel
theorem d_J_part_30 : decode c_J_part 30 = .ok (.new 62, 3) := by decide +kernel
theorem d_J_part_33 : decode c_J_part 33 = .ok (.dup, 1) := by decide +kernel
theorem d_J_part_34 : decode c_J_part 34 = .ok (.ldc 64, 2) := by decide +kernel
theorem d_J_part_36 : decode c_J_part 36 = .ok (.invokespecial 66, 3) := by decide +kernel
theorem d_J_part_39 : decode c_J_part 39 = .ok (.athrow, 1) := by decide +kernel
theorem d_J_part_40 : decode c_J_part 40 = .ok (.aload_n 0, 1) := by decide +kernel
theorem d_J_part_41 : decode c_J_part 41 = .ok (.iload_n 1, 1) := by decide +kernel
theorem d_J_part_42 : decode c_J_part 42 = .ok (.iload_n 2, 1) := by decide +kernel
theorem d_J_part_43 : decode c_J_part 43 = .ok (.iload_n 3, 1) := by decide +kernel
theorem d_J_part_44 : decode c_J_part 44 = .ok (.iload 4, 2) := by decide +kernel
theorem d_J_part_46 : decode c_J_part 46 = .ok (.iload 5, 2) := by decide +kernel
theorem d_J_part_48 : decode c_J_part 48 = .ok (.iload 6, 2) := by decide +kernel
theorem d_J_part_50 : decode c_J_part 50 = .ok (.invokevirtual 69, 3) := by decide +kernel
theorem d_J_part_53 : decode c_J_part 53 = .ok (.aload_n 0, 1) := by decide +kernel
theorem d_J_part_54 : decode c_J_part 54 = .ok (.getfield 39, 3) := by decide +kernel
theorem d_J_part_57 : decode c_J_part 57 = .ok (.iconst 0, 1) := by decide +kernel
theorem d_J_part_58 : decode c_J_part 58 = .ok (.aload_n 0, 1) := by decide +kernel
theorem d_J_part_59 : decode c_J_part 59 = .ok (.getfield 15, 3) := by decide +kernel
theorem d_J_part_62 : decode c_J_part 62 = .ok (.aload_n 0, 1) := by decide +kernel
theorem d_J_part_63 : decode c_J_part 63 = .ok (.getfield 58, 3) := by decide +kernel
theorem d_J_part_66 : decode c_J_part 66 = .ok (.bipush 6, 2) := by decide +kernel
theorem d_J_part_68 : decode c_J_part 68 = .ok (.imul, 1) := by decide +kernel
theorem d_J_part_69 : decode c_J_part 69 = .ok (.bipush 6, 2) := by decide +kernel
theorem d_J_part_71 : decode c_J_part 71 = .ok (.invokestatic 73, 3) := by decide +kernel
theorem d_J_part_74 : decode c_J_part 74 = .ok (.new 9, 3) := by decide +kernel
theorem d_J_part_77 : decode c_J_part 77 = .ok (.dup, 1) := by decide +kernel
theorem d_J_part_78 : decode c_J_part 78 = .ok (.invokespecial 28, 3) := by decide +kernel
theorem d_J_part_81 : decode c_J_part 81 = .ok (.astore 7, 2) := by decide +kernel
theorem d_J_part_83 : decode c_J_part 83 = .ok (.aload 7, 2) := by decide +kernel
theorem d_J_part_85 : decode c_J_part 85 = .ok (.aload_n 0, 1) := by decide +kernel
theorem d_J_part_86 : decode c_J_part 86 = .ok (.getfield 39, 3) := by decide +kernel
theorem d_J_part_89 : decode c_J_part 89 = .ok (.iconst 0, 1) := by decide +kernel
theorem d_J_part_90 : decode c_J_part 90 = .ok (.invokevirtual 79, 3) := by decide +kernel
theorem d_J_part_93 : decode c_J_part 93 = .ok (.aload_n 0, 1) := by decide +kernel
theorem d_J_part_94 : decode c_J_part 94 = .ok (.getfield 11, 3) := by decide +kernel
theorem d_J_part_97 : decode c_J_part 97 = .ok (.aload_n 0, 1) := by decide +kernel
theorem d_J_part_98 : decode c_J_part 98 = .ok (.getfield 58, 3) := by decide +kernel
theorem d_J_part_101 : decode c_J_part 101 = .ok (.aload 7, 2) := by decide +kernel
theorem d_J_part_103 : decode c_J_part 103 = .ok (.aastore, 1) := by decide +kernel
theorem d_J_part_104 : decode c_J_part 104 = .ok (.aload_n 0, 1) := by decide +kernel
theorem d_J_part_105 : decode c_J_part 105 = .ok (.dup, 1) := by decide +kernel
theorem d_J_part_106 : decode c_J_part 106 = .ok (.getfield 58, 3) := by decide +kernel
theorem d_J_part_109 : decode c_J_part 109 = .ok (.iconst 1, 1) := by decide +kernel
theorem d_J_part_110 : decode c_J_part 110 = .ok (.iadd, 1) := by decide +kernel
theorem d_J_part_111 : decode c_J_part 111 = .ok (.putfield 58, 3) := by decide +kernel
theorem d_J_part_114 : decode c_J_part 114 = .ok (.aload_n 0, 1) := by decide +kernel
theorem d_J_part_115 : decode c_J_part 115 = .ok (.getfield 58, 3) := by decide +kernel
theorem d_J_part_118 : decode c_J_part 118 = .ok (.iconst 1, 1) := by decide +kernel
theorem d_J_part_119 : decode c_J_part 119 = .ok (.isub, 1) := by decide +kernel
theorem d_J_part_120 : decode c_J_part 120 = .ok (.ireturn, 1) := by decide +kernel
theorem d_J_cut_0 : decode c_J_cut 0 = .ok (.aload_n 0, 1) := by decide +kernel
theorem d_J_cut_1 : decode c_J_cut 1 = .ok (.iload_n 1, 1) := by decide +kernel
theorem d_J_cut_2 : decode c_J_cut 2 = .ok (.invokevirtual 83, 3) := by decide +kernel
theorem d_J_cut_5 : decode c_J_cut 5 = .ok (.astore 8, 2) := by decide +kernel
theorem d_J_cut_7 : decode c_J_cut 7 = .ok (.sipush 2000, 3) := by decide +kernel
theorem d_J_cut_10 : decode c_J_cut 10 = .ok (.iload_n 2, 1) := by decide +kernel
theorem d_J_cut_11 : decode c_J_cut 11 = .ok (.iload_n 3, 1) := by decide +kernel
theorem d_J_cut_12 : decode c_J_cut 12 = .ok (.iload 4, 2) := by decide +kernel
theorem d_J_cut_14 : decode c_J_cut 14 = .ok (.invokestatic 51, 3) := by decide +kernel
theorem d_J_cut_17 : decode c_J_cut 17 = .ok (.sipush 2000, 3) := by decide +kernel
theorem d_J_cut_20 : decode c_J_cut 20 = .ok (.iload 5, 2) := by decide +kernel
theorem d_J_cut_22 : decode c_J_cut 22 = .ok (.iload 6, 2) := by decide +kernel
theorem d_J_cut_24 : decode c_J_cut 24 = .ok (.iload 7, 2) := by decide +kernel
theorem d_J_cut_26 : decode c_J_cut 26 = .ok (.invokestatic 55, 3) := by decide +kernel
theorem d_J_cut_29 : decode c_J_cut 29 = .ok (.aload_n 0, 1) := by decide +kernel
theorem d_J_cut_30 : decode c_J_cut 30 = .ok (.iload_n 2, 1) := by decide +kernel
theorem d_J_cut_31 : decode c_J_cut 31 = .ok (.iload_n 3, 1) := by decide +kernel
theorem d_J_cut_32 : decode c_J_cut 32 = .ok (.iload 4, 2) := by decide +kernel
theorem d_J_cut_34 : decode c_J_cut 34 = .ok (.iload 5, 2) := by decide +kernel
theorem d_J_cut_36 : decode c_J_cut 36 = .ok (.iload 6, 2) := by decide +kernel
theorem d_J_cut_38 : decode c_J_cut 38 = .ok (.iload 7, 2) := by decide +kernel
theorem d_J_cut_40 : decode c_J_cut 40 = .ok (.invokevirtual 69, 3) := by decide +kernel
theorem d_J_cut_43 : decode c_J_cut 43 = .ok (.aload 8, 2) := by decide +kernel
theorem d_J_cut_45 : decode c_J_cut 45 = .ok (.invokevirtual 87, 3) := by decide +kernel
theorem d_J_cut_48 : decode c_J_cut 48 = .ok (.lstore 9, 2) := by decide +kernel
theorem d_J_cut_50 : decode c_J_cut 50 = .ok (.aload_n 0, 1) := by decide +kernel
theorem d_J_cut_51 : decode c_J_cut 51 = .ok (.aload 8, 2) := by decide +kernel
theorem d_J_cut_53 : decode c_J_cut 53 = .ok (.invokevirtual 91, 3) := by decide +kernel
theorem d_J_cut_56 : decode c_J_cut 56 = .ok (.ifCond .ne 13, 3) := by decide +kernel
theorem d_J_cut_59 : decode c_J_cut 59 = .ok (.new 62, 3) := by decide +kernel
theorem d_J_cut_62 : decode c_J_cut 62 = .ok (.dup, 1) := by decide +kernel
theorem d_J_cut_63 : decode c_J_cut 63 = .ok (.ldc 95, 2) := by decide +kernel
theorem d_J_cut_65 : decode c_J_cut 65 = .ok (.invokespecial 66, 3) := by decide +kernel
theorem d_J_cut_68 : decode c_J_cut 68 = .ok (.athrow, 1) := by decide +kernel
theorem d_J_cut_69 : decode c_J_cut 69 = .ok (.aload 8, 2) := by decide +kernel
theorem d_J_cut_71 : decode c_J_cut 71 = .ok (.invokevirtual 87, 3) := by decide +kernel
theorem d_J_cut_74 : decode c_J_cut 74 = .ok (.lload 9, 2) := by decide +kernel
theorem d_J_cut_76 : decode c_J_cut 76 = .ok (.lcmp, 1) := by decide +kernel
theorem d_J_cut_77 : decode c_J_cut 77 = .ok (.ifCond .ge 7, 3) := by decide +kernel
theorem d_J_cut_80 : decode c_J_cut 80 = .ok (.iconst 1, 1) := by decide +kernel
theorem d_J_cut_81 : decode c_J_cut 81 = .ok (.goto 4, 3) := by decide +kernel
theorem d_J_cut_84 : decode c_J_cut 84 = .ok (.iconst 0, 1) := by decide +kernel
theorem d_J_cut_85 : decode c_J_cut 85 = .ok (.ireturn, 1) := by decide +kernel
theorem d_J_clear_0 : decode c_J_clear 0 = .ok (.iload_n 1, 1) := by decide +kernel
theorem d_J_clear_1 : decode c_J_clear 1 = .ok (.ifCond .lt 9, 3) := by decide +kernel
theorem d_J_clear_4 : decode c_J_clear 4 = .ok (.iload_n 1, 1) := by decide +kernel
theorem d_J_clear_5 : decode c_J_clear 5 = .ok (.bipush 100, 2) := by decide +kernel
theorem d_J_clear_7 : decode c_J_clear 7 = .ok (.if_icmp .le 13, 3) := by decide +kernel
theorem d_J_clear_10 : decode c_J_clear 10 = .ok (.new 97, 3) := by decide +kernel
theorem d_J_clear_13 : decode c_J_clear 13 = .ok (.dup, 1) := by decide +kernel
theorem d_J_clear_14 : decode c_J_clear 14 = .ok (.ldc 99, 2) := by decide +kernel
theorem d_J_clear_16 : decode c_J_clear 16 = .ok (.invokespecial 101, 3) := by decide +kernel
theorem d_J_clear_19 : decode c_J_clear 19 = .ok (.athrow, 1) := by decide +kernel
theorem d_J_clear_20 : decode c_J_clear 20 = .ok (.aload_n 0, 1) := by decide +kernel
theorem d_J_clear_21 : decode c_J_clear 21 = .ok (.iload_n 1, 1) := by decide +kernel
theorem d_J_clear_22 : decode c_J_clear 22 = .ok (.putfield 102, 3) := by decide +kernel
theorem d_J_clear_25 : decode c_J_clear 25 = .ok (.return_, 1) := by decide +kernel
theorem d_J_joint_0 : decode c_J_joint 0 = .ok (.iload_n 1, 1) := by decide +kernel
theorem d_J_joint_1 : decode c_J_joint 1 = .ok (.invokestatic 105, 3) := by decide +kernel
theorem d_J_joint_4 : decode c_J_joint 4 = .ok (.aload_n 0, 1) := by decide +kernel
theorem d_J_joint_5 : decode c_J_joint 5 = .ok (.iload_n 2, 1) := by decide +kernel
theorem d_J_joint_6 : decode c_J_joint 6 = .ok (.invokevirtual 83, 3) := by decide +kernel
theorem d_J_joint_9 : decode c_J_joint 9 = .ok (.astore 6, 2) := by decide +kernel
theorem d_J_joint_11 : decode c_J_joint 11 = .ok (.aload_n 0, 1) := by decide +kernel
theorem d_J_joint_12 : decode c_J_joint 12 = .ok (.iload_n 3, 1) := by decide +kernel
theorem d_J_joint_13 : decode c_J_joint 13 = .ok (.invokevirtual 83, 3) := by decide +kernel
theorem d_J_joint_16 : decode c_J_joint 16 = .ok (.astore 7, 2) := by decide +kernel
theorem d_J_joint_18 : decode c_J_joint 18 = .ok (.iload 4, 2) := by decide +kernel
theorem d_J_joint_20 : decode c_J_joint 20 = .ok (.invokestatic 109, 3) := by decide +kernel
theorem d_J_joint_23 : decode c_J_joint 23 = .ok (.iload_n 2, 1) := by decide +kernel
theorem d_J_joint_24 : decode c_J_joint 24 = .ok (.iload_n 3, 1) := by decide +kernel
theorem d_J_joint_25 : decode c_J_joint 25 = .ok (.invokestatic 112, 3) := by decide +kernel
theorem d_J_joint_28 : decode c_J_joint 28 = .ok (.iload 5, 2) := by decide +kernel
theorem d_J_joint_30 : decode c_J_joint 30 = .ok (.invokestatic 116, 3) := by decide +kernel
theorem d_J_joint_33 : decode c_J_joint 33 = .ok (.aload_n 0, 1) := by decide +kernel
theorem d_J_joint_34 : decode c_J_joint 34 = .ok (.getfield 119, 3) := by decide +kernel
theorem d_J_joint_37 : decode c_J_joint 37 = .ok (.bipush 12, 2) := by decide +kernel
theorem d_J_joint_39 : decode c_J_joint 39 = .ok (.if_icmp .lt 13, 3) := by decide +kernel
theorem d_J_joint_42 : decode c_J_joint 42 = .ok (.new 62, 3) := by decide +kernel
theorem d_J_joint_45 : decode c_J_joint 45 = .ok (.dup, 1) := by decide +kernel
theorem d_J_joint_46 : decode c_J_joint 46 = .ok (.ldc 122, 2) := by decide +kernel
theorem d_J_joint_48 : decode c_J_joint 48 = .ok (.invokespecial 66, 3) := by decide +kernel
theorem d_J_joint_51 : decode c_J_joint 51 = .ok (.athrow, 1) := by decide +kernel
theorem d_J_joint_52 : decode c_J_joint 52 = .ok (.aload_n 0, 1) := by decide +kernel
theorem d_J_joint_53 : decode c_J_joint 53 = .ok (.iload_n 2, 1) := by decide +kernel
theorem d_J_joint_54 : decode c_J_joint 54 = .ok (.iload_n 3, 1) := by decide +kernel
theorem d_J_joint_55 : decode c_J_joint 55 = .ok (.invokevirtual 124, 3) := by decide +kernel
theorem d_J_joint_58 : decode c_J_joint 58 = .ok (.ifCond .ne 13, 3) := by decide +kernel
theorem d_J_joint_61 : decode c_J_joint 61 = .ok (.new 62, 3) := by decide +kernel
theorem d_J_joint_64 : decode c_J_joint 64 = .ok (.dup, 1) := by decide +kernel
theorem d_J_joint_65 : decode c_J_joint 65 = .ok (.ldc 128, 2) := by decide +kernel
theorem d_J_joint_67 : decode c_J_joint 67 = .ok (.invokespecial 66, 3) := by decide +kernel
theorem d_J_joint_70 : decode c_J_joint 70 = .ok (.athrow, 1) := by decide +kernel
theorem d_J_joint_71 : decode c_J_joint 71 = .ok (.aload_n 0, 1) := by decide +kernel
theorem d_J_joint_72 : decode c_J_joint 72 = .ok (.getfield 45, 3) := by decide +kernel
theorem d_J_joint_75 : decode c_J_joint 75 = .ok (.iload 4, 2) := by decide +kernel
theorem d_J_joint_77 : decode c_J_joint 77 = .ok (.iconst 3, 1) := by decide +kernel
theorem d_J_joint_78 : decode c_J_joint 78 = .ok (.iadd, 1) := by decide +kernel
theorem d_J_joint_79 : decode c_J_joint 79 = .ok (.iaload, 1) := by decide +kernel
theorem d_J_joint_80 : decode c_J_joint 80 = .ok (.aload_n 0, 1) := by decide +kernel
theorem d_J_joint_81 : decode c_J_joint 81 = .ok (.getfield 45, 3) := by decide +kernel
theorem d_J_joint_84 : decode c_J_joint 84 = .ok (.iload 4, 2) := by decide +kernel
theorem d_J_joint_86 : decode c_J_joint 86 = .ok (.iaload, 1) := by decide +kernel
theorem d_J_joint_87 : decode c_J_joint 87 = .ok (.isub, 1) := by decide +kernel
theorem d_J_joint_88 : decode c_J_joint 88 = .ok (.istore 8, 2) := by decide +kernel
theorem d_J_joint_90 : decode c_J_joint 90 = .ok (.iload_n 1, 1) := by decide +kernel
theorem d_J_joint_91 : decode c_J_joint 91 = .ok (.iconst 2, 1) := by decide +kernel
theorem d_J_joint_92 : decode c_J_joint 92 = .ok (.if_icmp .ne 25, 3) := by decide +kernel
theorem d_J_joint_95 : decode c_J_joint 95 = .ok (.iload 8, 2) := by decide +kernel
theorem d_J_joint_97 : decode c_J_joint 97 = .ok (.iload 5, 2) := by decide +kernel
theorem d_J_joint_99 : decode c_J_joint 99 = .ok (.invokestatic 130, 3) := by decide +kernel
theorem d_J_joint_102 : decode c_J_joint 102 = .ok (.bipush 8, 2) := by decide +kernel
theorem d_J_joint_104 : decode c_J_joint 104 = .ok (.if_icmp .le 13, 3) := by decide +kernel
theorem d_J_joint_107 : decode c_J_joint 107 = .ok (.new 62, 3) := by decide +kernel
theorem d_J_joint_110 : decode c_J_joint 110 = .ok (.dup, 1) := by decide +kernel
theorem d_J_joint_111 : decode c_J_joint 111 = .ok (.ldc 134, 2) := by decide +kernel
theorem d_J_joint_113 : decode c_J_joint 113 = .ok (.invokespecial 66, 3) := by decide +kernel
theorem d_J_joint_116 : decode c_J_joint 116 = .ok (.athrow, 1) := by decide +kernel
theorem d_J_joint_117 : decode c_J_joint 117 = .ok (.iload_n 1, 1) := by decide +kernel
theorem d_J_joint_118 : decode c_J_joint 118 = .ok (.iload 5, 2) := by decide +kernel
theorem d_J_joint_120 : decode c_J_joint 120 = .ok (.invokestatic 136, 3) := by decide +kernel
theorem d_J_joint_123 : decode c_J_joint 123 = .ok (.iload 8, 2) := by decide +kernel
theorem d_J_joint_125 : decode c_J_joint 125 = .ok (.isub, 1) := by decide +kernel
theorem d_J_joint_126 : decode c_J_joint 126 = .ok (.istore 9, 2) := by decide +kernel
theorem d_J_joint_128 : decode c_J_joint 128 = .ok (.iload 9, 2) := by decide +kernel
theorem d_J_joint_130 : decode c_J_joint 130 = .ok (.ifCond .le 8, 3) := by decide +kernel
theorem d_J_joint_133 : decode c_J_joint 133 = .ok (.iconst (-1), 1) := by decide +kernel
theorem d_J_joint_134 : decode c_J_joint 134 = .ok (.iload 9, 2) := by decide +kernel
theorem d_J_joint_136 : decode c_J_joint 136 = .ok (.isub, 1) := by decide +kernel
theorem d_J_joint_137 : decode c_J_joint 137 = .ok (.ireturn, 1) := by decide +kernel
theorem d_J_joint_138 : decode c_J_joint 138 = .ok (.aload_n 0, 1) := by decide +kernel
theorem d_J_joint_139 : decode c_J_joint 139 = .ok (.getfield 29, 3) := by decide +kernel
theorem d_J_joint_142 : decode c_J_joint 142 = .ok (.aload 6, 2) := by decide +kernel
theorem d_J_joint_144 : decode c_J_joint 144 = .ok (.invokevirtual 139, 3) := by decide +kernel
theorem d_J_joint_147 : decode c_J_joint 147 = .ok (.aload_n 0, 1) := by decide +kernel
theorem d_J_joint_148 : decode c_J_joint 148 = .ok (.getfield 33, 3) := by decide +kernel
theorem d_J_joint_151 : decode c_J_joint 151 = .ok (.aload 7, 2) := by decide +kernel
theorem d_J_joint_153 : decode c_J_joint 153 = .ok (.invokevirtual 139, 3) := by decide +kernel
theorem d_J_joint_156 : decode c_J_joint 156 = .ok (.aload_n 0, 1) := by decide +kernel
theorem d_J_joint_157 : decode c_J_joint 157 = .ok (.iload_n 1, 1) := by decide +kernel
theorem d_J_joint_158 : decode c_J_joint 158 = .ok (.iload 4, 2) := by decide +kernel
theorem d_J_joint_160 : decode c_J_joint 160 = .ok (.aload_n 0, 1) := by decide +kernel
theorem d_J_joint_161 : decode c_J_joint 161 = .ok (.iload_n 1, 1) := by decide +kernel
theorem d_J_joint_162 : decode c_J_joint 162 = .ok (.iload 8, 2) := by decide +kernel
theorem d_J_joint_164 : decode c_J_joint 164 = .ok (.iload 5, 2) := by decide +kernel
theorem d_J_joint_166 : decode c_J_joint 166 = .ok (.invokevirtual 143, 3) := by decide +kernel
theorem d_J_joint_169 : decode c_J_joint 169 = .ok (.invokevirtual 147, 3) := by decide +kernel
theorem d_J_joint_172 : decode c_J_joint 172 = .ok (.ifCond .ne 13, 3) := by decide +kernel
theorem d_J_joint_175 : decode c_J_joint 175 = .ok (.new 62, 3) := by decide +kernel
theorem d_J_joint_178 : decode c_J_joint 178 = .ok (.dup, 1) := by decide +kernel
theorem d_J_joint_179 : decode c_J_joint 179 = .ok (.ldc 95, 2) := by decide +kernel
theorem d_J_joint_181 : decode c_J_joint 181 = .ok (.invokespecial 66, 3) := by decide +kernel
theorem d_J_joint_184 : decode c_J_joint 184 = .ok (.athrow, 1) := by decide +kernel
theorem d_J_joint_185 : decode c_J_joint 185 = .ok (.new 19, 3) := by decide +kernel
theorem d_J_joint_188 : decode c_J_joint 188 = .ok (.dup, 1) := by decide +kernel
theorem d_J_joint_189 : decode c_J_joint 189 = .ok (.iload_n 1, 1) := by decide +kernel
theorem d_J_joint_190 : decode c_J_joint 190 = .ok (.iload_n 2, 1) := by decide +kernel
theorem d_J_joint_191 : decode c_J_joint 191 = .ok (.iload_n 3, 1) := by decide +kernel
theorem d_J_joint_192 : decode c_J_joint 192 = .ok (.iload 4, 2) := by decide +kernel
theorem d_J_joint_194 : decode c_J_joint 194 = .ok (.invokespecial 151, 3) := by decide +kernel
theorem d_J_joint_197 : decode c_J_joint 197 = .ok (.astore 10, 2) := by decide +kernel
theorem d_J_joint_199 : decode c_J_joint 199 = .ok (.aload 10, 2) := by decide +kernel
theorem d_J_joint_201 : decode c_J_joint 201 = .ok (.aload 6, 2) := by decide +kernel
theorem d_J_joint_203 : decode c_J_joint 203 = .ok (.invokevirtual 87, 3) := by decide +kernel
theorem d_J_joint_206 : decode c_J_joint 206 = .ok (.aload_n 0, 1) := by decide +kernel
theorem d_J_joint_207 : decode c_J_joint 207 = .ok (.getfield 29, 3) := by decide +kernel
theorem d_J_joint_210 : decode c_J_joint 210 = .ok (.invokevirtual 87, 3) := by decide +kernel
theorem d_J_joint_213 : decode c_J_joint 213 = .ok (.lsub, 1) := by decide +kernel
theorem d_J_joint_214 : decode c_J_joint 214 = .ok (.putfield 153, 3) := by decide +kernel
theorem d_J_joint_217 : decode c_J_joint 217 = .ok (.aload 10, 2) := by decide +kernel
theorem d_J_joint_219 : decode c_J_joint 219 = .ok (.aload 7, 2) := by decide +kernel
theorem d_J_joint_221 : decode c_J_joint 221 = .ok (.invokevirtual 87, 3) := by decide +kernel
theorem d_J_joint_224 : decode c_J_joint 224 = .ok (.aload_n 0, 1) := by decide +kernel
theorem d_J_joint_225 : decode c_J_joint 225 = .ok (.getfield 33, 3) := by decide +kernel
theorem d_J_joint_228 : decode c_J_joint 228 = .ok (.invokevirtual 87, 3) := by decide +kernel
theorem d_J_joint_231 : decode c_J_joint 231 = .ok (.lsub, 1) := by decide +kernel
theorem d_J_joint_232 : decode c_J_joint 232 = .ok (.putfield 157, 3) := by decide +kernel
theorem d_J_joint_235 : decode c_J_joint 235 = .ok (.aload 6, 2) := by decide +kernel
theorem d_J_joint_237 : decode c_J_joint 237 = .ok (.aload_n 0, 1) := by decide +kernel
theorem d_J_joint_238 : decode c_J_joint 238 = .ok (.getfield 29, 3) := by decide +kernel
theorem d_J_joint_241 : decode c_J_joint 241 = .ok (.invokevirtual 139, 3) := by decide +kernel
theorem d_J_joint_244 : decode c_J_joint 244 = .ok (.aload 7, 2) := by decide +kernel
theorem d_J_joint_246 : decode c_J_joint 246 = .ok (.aload_n 0, 1) := by decide +kernel
theorem d_J_joint_247 : decode c_J_joint 247 = .ok (.getfield 33, 3) := by decide +kernel
theorem d_J_joint_250 : decode c_J_joint 250 = .ok (.invokevirtual 139, 3) := by decide +kernel
theorem d_J_joint_253 : decode c_J_joint 253 = .ok (.aload_n 0, 1) := by decide +kernel
theorem d_J_joint_254 : decode c_J_joint 254 = .ok (.getfield 21, 3) := by decide +kernel
theorem d_J_joint_257 : decode c_J_joint 257 = .ok (.aload_n 0, 1) := by decide +kernel
theorem d_J_joint_258 : decode c_J_joint 258 = .ok (.getfield 119, 3) := by decide +kernel
theorem d_J_joint_261 : decode c_J_joint 261 = .ok (.aload 10, 2) := by decide +kernel
theorem d_J_joint_263 : decode c_J_joint 263 = .ok (.aastore, 1) := by decide +kernel
theorem d_J_joint_264 : decode c_J_joint 264 = .ok (.aload_n 0, 1) := by decide +kernel
theorem d_J_joint_265 : decode c_J_joint 265 = .ok (.dup, 1) := by decide +kernel
theorem d_J_joint_266 : decode c_J_joint 266 = .ok (.getfield 119, 3) := by decide +kernel
theorem d_J_joint_269 : decode c_J_joint 269 = .ok (.iconst 1, 1) := by decide +kernel
theorem d_J_joint_270 : decode c_J_joint 270 = .ok (.iadd, 1) := by decide +kernel
theorem d_J_joint_271 : decode c_J_joint 271 = .ok (.putfield 119, 3) := by decide +kernel
theorem d_J_joint_274 : decode c_J_joint 274 = .ok (.aload_n 0, 1) := by decide +kernel
theorem d_J_joint_275 : decode c_J_joint 275 = .ok (.getfield 119, 3) := by decide +kernel
theorem d_J_joint_278 : decode c_J_joint 278 = .ok (.iconst 1, 1) := by decide +kernel
theorem d_J_joint_279 : decode c_J_joint 279 = .ok (.isub, 1) := by decide +kernel
theorem d_J_joint_280 : decode c_J_joint 280 = .ok (.ireturn, 1) := by decide +kernel
theorem d_J_pieces_0 : decode c_J_pieces 0 = .ok (.aload_n 0, 1) := by decide +kernel
theorem d_J_pieces_1 : decode c_J_pieces 1 = .ok (.iload_n 1, 1) := by decide +kernel
theorem d_J_pieces_2 : decode c_J_pieces 2 = .ok (.invokevirtual 83, 3) := by decide +kernel
theorem d_J_pieces_5 : decode c_J_pieces 5 = .ok (.getfield 160, 3) := by decide +kernel
theorem d_J_pieces_8 : decode c_J_pieces 8 = .ok (.ireturn, 1) := by decide +kernel
theorem d_J_corner_0 : decode c_J_corner 0 = .ok (.aload_n 0, 1) := by decide +kernel
theorem d_J_corner_1 : decode c_J_corner 1 = .ok (.iload_n 1, 1) := by decide +kernel
theorem d_J_corner_2 : decode c_J_corner 2 = .ok (.invokevirtual 83, 3) := by decide +kernel
theorem d_J_corner_5 : decode c_J_corner 5 = .ok (.astore 4, 2) := by decide +kernel
theorem d_J_corner_7 : decode c_J_corner 7 = .ok (.iload_n 2, 1) := by decide +kernel
theorem d_J_corner_8 : decode c_J_corner 8 = .ok (.ifCond .lt 12, 3) := by decide +kernel
theorem d_J_corner_11 : decode c_J_corner 11 = .ok (.iload_n 2, 1) := by decide +kernel
theorem d_J_corner_12 : decode c_J_corner 12 = .ok (.aload 4, 2) := by decide +kernel
theorem d_J_corner_14 : decode c_J_corner 14 = .ok (.getfield 160, 3) := by decide +kernel
theorem d_J_corner_17 : decode c_J_corner 17 = .ok (.if_icmp .lt 13, 3) := by decide +kernel
theorem d_J_corner_20 : decode c_J_corner 20 = .ok (.new 163, 3) := by decide +kernel
theorem d_J_corner_23 : decode c_J_corner 23 = .ok (.dup, 1) := by decide +kernel
theorem d_J_corner_24 : decode c_J_corner 24 = .ok (.ldc 165, 2) := by decide +kernel
theorem d_J_corner_26 : decode c_J_corner 26 = .ok (.invokespecial 167, 3) := by decide +kernel
theorem d_J_corner_29 : decode c_J_corner 29 = .ok (.athrow, 1) := by decide +kernel
theorem d_J_corner_30 : decode c_J_corner 30 = .ok (.iload_n 3, 1) := by decide +kernel
theorem d_J_corner_31 : decode c_J_corner 31 = .ok (.ifCond .lt 9, 3) := by decide +kernel
theorem d_J_corner_34 : decode c_J_corner 34 = .ok (.iload_n 3, 1) := by decide +kernel
theorem d_J_corner_35 : decode c_J_corner 35 = .ok (.bipush 6, 2) := by decide +kernel
theorem d_J_corner_37 : decode c_J_corner 37 = .ok (.if_icmp .lt 13, 3) := by decide +kernel
theorem d_J_corner_40 : decode c_J_corner 40 = .ok (.new 163, 3) := by decide +kernel
theorem d_J_corner_43 : decode c_J_corner 43 = .ok (.dup, 1) := by decide +kernel
theorem d_J_corner_44 : decode c_J_corner 44 = .ok (.ldc 168, 2) := by decide +kernel
theorem d_J_corner_46 : decode c_J_corner 46 = .ok (.invokespecial 167, 3) := by decide +kernel
theorem d_J_corner_49 : decode c_J_corner 49 = .ok (.athrow, 1) := by decide +kernel
theorem d_J_corner_50 : decode c_J_corner 50 = .ok (.aload 4, 2) := by decide +kernel
theorem d_J_corner_52 : decode c_J_corner 52 = .ok (.getfield 170, 3) := by decide +kernel
theorem d_J_corner_55 : decode c_J_corner 55 = .ok (.iload_n 2, 1) := by decide +kernel
theorem d_J_corner_56 : decode c_J_corner 56 = .ok (.bipush 6, 2) := by decide +kernel
theorem d_J_corner_58 : decode c_J_corner 58 = .ok (.imul, 1) := by decide +kernel
theorem d_J_corner_59 : decode c_J_corner 59 = .ok (.iload_n 3, 1) := by decide +kernel
theorem d_J_corner_60 : decode c_J_corner 60 = .ok (.iadd, 1) := by decide +kernel
theorem d_J_corner_61 : decode c_J_corner 61 = .ok (.iaload, 1) := by decide +kernel
theorem d_J_corner_62 : decode c_J_corner 62 = .ok (.ireturn, 1) := by decide +kernel
theorem d_J_volume_0 : decode c_J_volume 0 = .ok (.aload_n 0, 1) := by decide +kernel
theorem d_J_volume_1 : decode c_J_volume 1 = .ok (.iload_n 1, 1) := by decide +kernel
theorem d_J_volume_2 : decode c_J_volume 2 = .ok (.invokevirtual 83, 3) := by decide +kernel
theorem d_J_volume_5 : decode c_J_volume 5 = .ok (.invokevirtual 87, 3) := by decide +kernel
theorem d_J_volume_8 : decode c_J_volume 8 = .ok (.lreturn, 1) := by decide +kernel
theorem d_J_overlap_0 : decode c_J_overlap 0 = .ok (.aload_n 0, 1) := by decide +kernel
theorem d_J_overlap_1 : decode c_J_overlap 1 = .ok (.iload_n 1, 1) := by decide +kernel
theorem d_J_overlap_2 : decode c_J_overlap 2 = .ok (.invokevirtual 83, 3) := by decide +kernel
theorem d_J_overlap_5 : decode c_J_overlap 5 = .ok (.astore_n 3, 1) := by decide +kernel
theorem d_J_overlap_6 : decode c_J_overlap 6 = .ok (.aload_n 0, 1) := by decide +kernel
theorem d_J_overlap_7 : decode c_J_overlap 7 = .ok (.iload_n 2, 1) := by decide +kernel
theorem d_J_overlap_8 : decode c_J_overlap 8 = .ok (.invokevirtual 83, 3) := by decide +kernel
theorem d_J_overlap_11 : decode c_J_overlap 11 = .ok (.astore 4, 2) := by decide +kernel
theorem d_J_overlap_13 : decode c_J_overlap 13 = .ok (.iload_n 1, 1) := by decide +kernel
theorem d_J_overlap_14 : decode c_J_overlap 14 = .ok (.iload_n 2, 1) := by decide +kernel
theorem d_J_overlap_15 : decode c_J_overlap 15 = .ok (.invokestatic 112, 3) := by decide +kernel
theorem d_J_overlap_18 : decode c_J_overlap 18 = .ok (.aload_n 3, 1) := by decide +kernel
theorem d_J_overlap_19 : decode c_J_overlap 19 = .ok (.aload 4, 2) := by decide +kernel
theorem d_J_overlap_21 : decode c_J_overlap 21 = .ok (.invokestatic 173, 3) := by decide +kernel
theorem d_J_overlap_24 : decode c_J_overlap 24 = .ok (.lreturn, 1) := by decide +kernel
theorem d_J_touch_0 : decode c_J_touch 0 = .ok (.aload_n 0, 1) := by decide +kernel
theorem d_J_touch_1 : decode c_J_touch 1 = .ok (.iload_n 1, 1) := by decide +kernel
theorem d_J_touch_2 : decode c_J_touch 2 = .ok (.invokevirtual 83, 3) := by decide +kernel
theorem d_J_touch_5 : decode c_J_touch 5 = .ok (.astore_n 3, 1) := by decide +kernel
theorem d_J_touch_6 : decode c_J_touch 6 = .ok (.aload_n 0, 1) := by decide +kernel
theorem d_J_touch_7 : decode c_J_touch 7 = .ok (.iload_n 2, 1) := by decide +kernel
theorem d_J_touch_8 : decode c_J_touch 8 = .ok (.invokevirtual 83, 3) := by decide +kernel
theorem d_J_touch_11 : decode c_J_touch 11 = .ok (.astore 4, 2) := by decide +kernel
theorem d_J_touch_13 : decode c_J_touch 13 = .ok (.iload_n 1, 1) := by decide +kernel
theorem d_J_touch_14 : decode c_J_touch 14 = .ok (.iload_n 2, 1) := by decide +kernel
theorem d_J_touch_15 : decode c_J_touch 15 = .ok (.invokestatic 112, 3) := by decide +kernel
theorem d_J_touch_18 : decode c_J_touch 18 = .ok (.aload_n 3, 1) := by decide +kernel
theorem d_J_touch_19 : decode c_J_touch 19 = .ok (.aload 4, 2) := by decide +kernel
theorem d_J_touch_21 : decode c_J_touch 21 = .ok (.invokestatic 177, 3) := by decide +kernel
theorem d_J_touch_24 : decode c_J_touch 24 = .ok (.lreturn, 1) := by decide +kernel
theorem d_J_has_0 : decode c_J_has 0 = .ok (.aload_n 0, 1) := by decide +kernel
theorem d_J_has_1 : decode c_J_has 1 = .ok (.iload_n 1, 1) := by decide +kernel
theorem d_J_has_2 : decode c_J_has 2 = .ok (.invokevirtual 83, 3) := by decide +kernel
theorem d_J_has_5 : decode c_J_has 5 = .ok (.iload_n 2, 1) := by decide +kernel
theorem d_J_has_6 : decode c_J_has 6 = .ok (.iload_n 3, 1) := by decide +kernel
theorem d_J_has_7 : decode c_J_has 7 = .ok (.iload 4, 2) := by decide +kernel
theorem d_J_has_9 : decode c_J_has 9 = .ok (.invokevirtual 180, 3) := by decide +kernel
theorem d_J_has_12 : decode c_J_has 12 = .ok (.ireturn, 1) := by decide +kernel
theorem d_J_row_0 : decode c_J_row 0 = .ok (.iload_n 1, 1) := by decide +kernel
theorem d_J_row_1 : decode c_J_row 1 = .ok (.invokestatic 105, 3) := by decide +kernel
theorem d_J_row_4 : decode c_J_row 4 = .ok (.iload_n 2, 1) := by decide +kernel
theorem d_J_row_5 : decode c_J_row 5 = .ok (.ifCond .lt 10, 3) := by decide +kernel
theorem d_J_row_8 : decode c_J_row 8 = .ok (.iload_n 2, 1) := by decide +kernel
theorem d_J_row_9 : decode c_J_row 9 = .ok (.sipush 10000, 3) := by decide +kernel
theorem d_J_row_12 : decode c_J_row 12 = .ok (.if_icmp .le 13, 3) := by decide +kernel
theorem d_J_row_15 : decode c_J_row 15 = .ok (.new 97, 3) := by decide +kernel
theorem d_J_row_18 : decode c_J_row 18 = .ok (.dup, 1) := by decide +kernel
theorem d_J_row_19 : decode c_J_row 19 = .ok (.ldc 183, 2) := by decide +kernel
theorem d_J_row_21 : decode c_J_row 21 = .ok (.invokespecial 101, 3) := by decide +kernel
theorem d_J_row_24 : decode c_J_row 24 = .ok (.athrow, 1) := by decide +kernel
theorem d_J_row_25 : decode c_J_row 25 = .ok (.aload_n 0, 1) := by decide +kernel
theorem d_J_row_26 : decode c_J_row 26 = .ok (.getfield 25, 3) := by decide +kernel
theorem d_J_row_29 : decode c_J_row 29 = .ok (.iload_n 1, 1) := by decide +kernel
theorem d_J_row_30 : decode c_J_row 30 = .ok (.iload_n 2, 1) := by decide +kernel
theorem d_J_row_31 : decode c_J_row 31 = .ok (.iastore, 1) := by decide +kernel
theorem d_J_row_32 : decode c_J_row 32 = .ok (.return_, 1) := by decide +kernel
theorem d_J_strength_0 : decode c_J_strength 0 = .ok (.aload_n 0, 1) := by decide +kernel
theorem d_J_strength_1 : decode c_J_strength 1 = .ok (.iload_n 1, 1) := by decide +kernel
theorem d_J_strength_2 : decode c_J_strength 2 = .ok (.invokevirtual 185, 3) := by decide +kernel
theorem d_J_strength_5 : decode c_J_strength 5 = .ok (.astore_n 2, 1) := by decide +kernel
theorem d_J_strength_6 : decode c_J_strength 6 = .ok (.aload_n 0, 1) := by decide +kernel
theorem d_J_strength_7 : decode c_J_strength 7 = .ok (.aload_n 2, 1) := by decide +kernel
theorem d_J_strength_8 : decode c_J_strength 8 = .ok (.getfield 189, 3) := by decide +kernel
theorem d_J_strength_11 : decode c_J_strength 11 = .ok (.invokevirtual 83, 3) := by decide +kernel
theorem d_J_strength_14 : decode c_J_strength 14 = .ok (.aload_n 0, 1) := by decide +kernel
theorem d_J_strength_15 : decode c_J_strength 15 = .ok (.aload_n 2, 1) := by decide +kernel
theorem d_J_strength_16 : decode c_J_strength 16 = .ok (.getfield 192, 3) := by decide +kernel
theorem d_J_strength_19 : decode c_J_strength 19 = .ok (.invokevirtual 83, 3) := by decide +kernel
theorem d_J_strength_22 : decode c_J_strength 22 = .ok (.invokestatic 177, 3) := by decide +kernel
theorem d_J_strength_25 : decode c_J_strength 25 = .ok (.aload_n 0, 1) := by decide +kernel
theorem d_J_strength_26 : decode c_J_strength 26 = .ok (.getfield 25, 3) := by decide +kernel
theorem d_J_strength_29 : decode c_J_strength 29 = .ok (.aload_n 2, 1) := by decide +kernel
theorem d_J_strength_30 : decode c_J_strength 30 = .ok (.getfield 195, 3) := by decide +kernel
theorem d_J_strength_33 : decode c_J_strength 33 = .ok (.iaload, 1) := by decide +kernel
theorem d_J_strength_34 : decode c_J_strength 34 = .ok (.i2l, 1) := by decide +kernel
theorem d_J_strength_35 : decode c_J_strength 35 = .ok (.lmul, 1) := by decide +kernel
theorem d_J_strength_36 : decode c_J_strength 36 = .ok (.ldc2_w 198, 3) := by decide +kernel
theorem d_J_strength_39 : decode c_J_strength 39 = .ok (.ldiv, 1) := by decide +kernel
theorem d_J_strength_40 : decode c_J_strength 40 = .ok (.lreturn, 1) := by decide +kernel
theorem d_J_about_0 : decode c_J_about 0 = .ok (.aload_n 0, 1) := by decide +kernel
theorem d_J_about_1 : decode c_J_about 1 = .ok (.iload_n 1, 1) := by decide +kernel
theorem d_J_about_2 : decode c_J_about 2 = .ok (.invokevirtual 185, 3) := by decide +kernel
theorem d_J_about_5 : decode c_J_about 5 = .ok (.astore_n 3, 1) := by decide +kernel
theorem d_J_about_6 : decode c_J_about 6 = .ok (.iload_n 2, 1) := by decide +kernel
theorem d_J_about_7 : decode c_J_about 7 = .ok (.tableswitch 71 0 5 #[37, 43, 49, 55, 61, 66], 37) := by decide +kernel
theorem d_J_about_44 : decode c_J_about 44 = .ok (.aload_n 3, 1) := by decide +kernel
theorem d_J_about_45 : decode c_J_about 45 = .ok (.getfield 195, 3) := by decide +kernel
theorem d_J_about_48 : decode c_J_about 48 = .ok (.i2l, 1) := by decide +kernel
theorem d_J_about_49 : decode c_J_about 49 = .ok (.lreturn, 1) := by decide +kernel
theorem d_J_about_50 : decode c_J_about 50 = .ok (.aload_n 3, 1) := by decide +kernel
theorem d_J_about_51 : decode c_J_about 51 = .ok (.getfield 189, 3) := by decide +kernel
theorem d_J_about_54 : decode c_J_about 54 = .ok (.i2l, 1) := by decide +kernel
theorem d_J_about_55 : decode c_J_about 55 = .ok (.lreturn, 1) := by decide +kernel
theorem d_J_about_56 : decode c_J_about 56 = .ok (.aload_n 3, 1) := by decide +kernel
theorem d_J_about_57 : decode c_J_about 57 = .ok (.getfield 192, 3) := by decide +kernel
theorem d_J_about_60 : decode c_J_about 60 = .ok (.i2l, 1) := by decide +kernel
theorem d_J_about_61 : decode c_J_about 61 = .ok (.lreturn, 1) := by decide +kernel
theorem d_J_about_62 : decode c_J_about 62 = .ok (.aload_n 3, 1) := by decide +kernel
theorem d_J_about_63 : decode c_J_about 63 = .ok (.getfield 200, 3) := by decide +kernel
theorem d_J_about_66 : decode c_J_about 66 = .ok (.i2l, 1) := by decide +kernel
theorem d_J_about_67 : decode c_J_about 67 = .ok (.lreturn, 1) := by decide +kernel
theorem d_J_about_68 : decode c_J_about 68 = .ok (.aload_n 3, 1) := by decide +kernel
theorem d_J_about_69 : decode c_J_about 69 = .ok (.getfield 153, 3) := by decide +kernel
theorem d_J_about_72 : decode c_J_about 72 = .ok (.lreturn, 1) := by decide +kernel
theorem d_J_about_73 : decode c_J_about 73 = .ok (.aload_n 3, 1) := by decide +kernel
theorem d_J_about_74 : decode c_J_about 74 = .ok (.getfield 157, 3) := by decide +kernel
theorem d_J_about_77 : decode c_J_about 77 = .ok (.lreturn, 1) := by decide +kernel
theorem d_J_about_78 : decode c_J_about 78 = .ok (.new 163, 3) := by decide +kernel
theorem d_J_about_81 : decode c_J_about 81 = .ok (.dup, 1) := by decide +kernel
theorem d_J_about_82 : decode c_J_about 82 = .ok (.ldc 203, 2) := by decide +kernel
theorem d_J_about_84 : decode c_J_about 84 = .ok (.invokespecial 167, 3) := by decide +kernel
theorem d_J_about_87 : decode c_J_about 87 = .ok (.athrow, 1) := by decide +kernel
theorem d_J_first_0 : decode c_J_first 0 = .ok (.iconst 0, 1) := by decide +kernel
theorem d_J_first_1 : decode c_J_first 1 = .ok (.istore_n 1, 1) := by decide +kernel
theorem d_J_first_2 : decode c_J_first 2 = .ok (.iload_n 1, 1) := by decide +kernel
theorem d_J_first_3 : decode c_J_first 3 = .ok (.aload_n 0, 1) := by decide +kernel
theorem d_J_first_4 : decode c_J_first 4 = .ok (.getfield 58, 3) := by decide +kernel
theorem d_J_first_7 : decode c_J_first 7 = .ok (.if_icmp .ge 52, 3) := by decide +kernel
theorem d_J_first_10 : decode c_J_first 10 = .ok (.iload_n 1, 1) := by decide +kernel
theorem d_J_first_11 : decode c_J_first 11 = .ok (.iconst 1, 1) := by decide +kernel
theorem d_J_first_12 : decode c_J_first 12 = .ok (.iadd, 1) := by decide +kernel
theorem d_J_first_13 : decode c_J_first 13 = .ok (.istore_n 2, 1) := by decide +kernel
theorem d_J_first_14 : decode c_J_first 14 = .ok (.iload_n 2, 1) := by decide +kernel
theorem d_J_first_15 : decode c_J_first 15 = .ok (.aload_n 0, 1) := by decide +kernel
theorem d_J_first_16 : decode c_J_first 16 = .ok (.getfield 58, 3) := by decide +kernel
theorem d_J_first_19 : decode c_J_first 19 = .ok (.if_icmp .ge 34, 3) := by decide +kernel
theorem d_J_first_22 : decode c_J_first 22 = .ok (.aload_n 0, 1) := by decide +kernel
theorem d_J_first_23 : decode c_J_first 23 = .ok (.iload_n 1, 1) := by decide +kernel
theorem d_J_first_24 : decode c_J_first 24 = .ok (.invokevirtual 83, 3) := by decide +kernel
theorem d_J_first_27 : decode c_J_first 27 = .ok (.aload_n 0, 1) := by decide +kernel
theorem d_J_first_28 : decode c_J_first 28 = .ok (.iload_n 2, 1) := by decide +kernel
theorem d_J_first_29 : decode c_J_first 29 = .ok (.invokevirtual 83, 3) := by decide +kernel
theorem d_J_first_32 : decode c_J_first 32 = .ok (.invokestatic 173, 3) := by decide +kernel
theorem d_J_first_35 : decode c_J_first 35 = .ok (.lconst 0, 1) := by decide +kernel
theorem d_J_first_36 : decode c_J_first 36 = .ok (.lcmp, 1) := by decide +kernel
theorem d_J_first_37 : decode c_J_first 37 = .ok (.ifCond .le 10, 3) := by decide +kernel
theorem d_J_first_40 : decode c_J_first 40 = .ok (.bipush 8, 2) := by decide +kernel
theorem d_J_first_42 : decode c_J_first 42 = .ok (.iload_n 1, 1) := by decide +kernel
theorem d_J_first_43 : decode c_J_first 43 = .ok (.imul, 1) := by decide +kernel
theorem d_J_first_44 : decode c_J_first 44 = .ok (.iload_n 2, 1) := by decide +kernel
theorem d_J_first_45 : decode c_J_first 45 = .ok (.iadd, 1) := by decide +kernel
theorem d_J_first_46 : decode c_J_first 46 = .ok (.ireturn, 1) := by decide +kernel
theorem d_J_first_47 : decode c_J_first 47 = .ok (.iinc 2 1, 3) := by decide +kernel
theorem d_J_first_50 : decode c_J_first 50 = .ok (.goto (-36), 3) := by decide +kernel
theorem d_J_first_53 : decode c_J_first 53 = .ok (.iinc 1 1, 3) := by decide +kernel
theorem d_J_first_56 : decode c_J_first 56 = .ok (.goto (-54), 3) := by decide +kernel
theorem d_J_first_59 : decode c_J_first 59 = .ok (.iconst (-1), 1) := by decide +kernel
theorem d_J_first_60 : decode c_J_first 60 = .ok (.ireturn, 1) := by decide +kernel
theorem d_J_solidOf_0 : decode c_J_solidOf 0 = .ok (.iload_n 1, 1) := by decide +kernel
theorem d_J_solidOf_1 : decode c_J_solidOf 1 = .ok (.ifCond .lt 18, 3) := by decide +kernel
theorem d_J_solidOf_4 : decode c_J_solidOf 4 = .ok (.iload_n 1, 1) := by decide +kernel
theorem d_J_solidOf_5 : decode c_J_solidOf 5 = .ok (.bipush 8, 2) := by decide +kernel
theorem d_J_solidOf_7 : decode c_J_solidOf 7 = .ok (.if_icmp .ge 12, 3) := by decide +kernel
theorem d_J_solidOf_10 : decode c_J_solidOf 10 = .ok (.aload_n 0, 1) := by decide +kernel
theorem d_J_solidOf_11 : decode c_J_solidOf 11 = .ok (.getfield 11, 3) := by decide +kernel
theorem d_J_solidOf_14 : decode c_J_solidOf 14 = .ok (.iload_n 1, 1) := by decide +kernel
theorem d_J_solidOf_15 : decode c_J_solidOf 15 = .ok (.aaload, 1) := by decide +kernel
theorem d_J_solidOf_16 : decode c_J_solidOf 16 = .ok (.ifnonnull 13, 3) := by decide +kernel
theorem d_J_solidOf_19 : decode c_J_solidOf 19 = .ok (.new 163, 3) := by decide +kernel
theorem d_J_solidOf_22 : decode c_J_solidOf 22 = .ok (.dup, 1) := by decide +kernel
theorem d_J_solidOf_23 : decode c_J_solidOf 23 = .ok (.ldc 205, 2) := by decide +kernel
theorem d_J_solidOf_25 : decode c_J_solidOf 25 = .ok (.invokespecial 167, 3) := by decide +kernel
theorem d_J_solidOf_28 : decode c_J_solidOf 28 = .ok (.athrow, 1) := by decide +kernel
theorem d_J_solidOf_29 : decode c_J_solidOf 29 = .ok (.aload_n 0, 1) := by decide +kernel
theorem d_J_solidOf_30 : decode c_J_solidOf 30 = .ok (.getfield 11, 3) := by decide +kernel
theorem d_J_solidOf_33 : decode c_J_solidOf 33 = .ok (.iload_n 1, 1) := by decide +kernel
theorem d_J_solidOf_34 : decode c_J_solidOf 34 = .ok (.aaload, 1) := by decide +kernel
theorem d_J_solidOf_35 : decode c_J_solidOf 35 = .ok (.areturn, 1) := by decide +kernel
theorem d_J_jointOf_0 : decode c_J_jointOf 0 = .ok (.iload_n 1, 1) := by decide +kernel
theorem d_J_jointOf_1 : decode c_J_jointOf 1 = .ok (.ifCond .lt 18, 3) := by decide +kernel
theorem d_J_jointOf_4 : decode c_J_jointOf 4 = .ok (.iload_n 1, 1) := by decide +kernel
theorem d_J_jointOf_5 : decode c_J_jointOf 5 = .ok (.bipush 12, 2) := by decide +kernel
theorem d_J_jointOf_7 : decode c_J_jointOf 7 = .ok (.if_icmp .ge 12, 3) := by decide +kernel
theorem d_J_jointOf_10 : decode c_J_jointOf 10 = .ok (.aload_n 0, 1) := by decide +kernel
theorem d_J_jointOf_11 : decode c_J_jointOf 11 = .ok (.getfield 21, 3) := by decide +kernel
theorem d_J_jointOf_14 : decode c_J_jointOf 14 = .ok (.iload_n 1, 1) := by decide +kernel
theorem d_J_jointOf_15 : decode c_J_jointOf 15 = .ok (.aaload, 1) := by decide +kernel
theorem d_J_jointOf_16 : decode c_J_jointOf 16 = .ok (.ifnonnull 13, 3) := by decide +kernel
theorem d_J_jointOf_19 : decode c_J_jointOf 19 = .ok (.new 163, 3) := by decide +kernel
theorem d_J_jointOf_22 : decode c_J_jointOf 22 = .ok (.dup, 1) := by decide +kernel
theorem d_J_jointOf_23 : decode c_J_jointOf 23 = .ok (.ldc 207, 2) := by decide +kernel
theorem d_J_jointOf_25 : decode c_J_jointOf 25 = .ok (.invokespecial 167, 3) := by decide +kernel
theorem d_J_jointOf_28 : decode c_J_jointOf 28 = .ok (.athrow, 1) := by decide +kernel
theorem d_J_jointOf_29 : decode c_J_jointOf 29 = .ok (.aload_n 0, 1) := by decide +kernel
theorem d_J_jointOf_30 : decode c_J_jointOf 30 = .ok (.getfield 21, 3) := by decide +kernel
theorem d_J_jointOf_33 : decode c_J_jointOf 33 = .ok (.iload_n 1, 1) := by decide +kernel
theorem d_J_jointOf_34 : decode c_J_jointOf 34 = .ok (.aaload, 1) := by decide +kernel
theorem d_J_jointOf_35 : decode c_J_jointOf 35 = .ok (.areturn, 1) := by decide +kernel
theorem d_J_needKind_0 : decode c_J_needKind 0 = .ok (.iload_n 0, 1) := by decide +kernel
theorem d_J_needKind_1 : decode c_J_needKind 1 = .ok (.ifCond .lt 8, 3) := by decide +kernel
theorem d_J_needKind_4 : decode c_J_needKind 4 = .ok (.iload_n 0, 1) := by decide +kernel
theorem d_J_needKind_5 : decode c_J_needKind 5 = .ok (.iconst 5, 1) := by decide +kernel
theorem d_J_needKind_6 : decode c_J_needKind 6 = .ok (.if_icmp .lt 13, 3) := by decide +kernel
theorem d_J_needKind_9 : decode c_J_needKind 9 = .ok (.new 163, 3) := by decide +kernel
theorem d_J_needKind_12 : decode c_J_needKind 12 = .ok (.dup, 1) := by decide +kernel
theorem d_J_needKind_13 : decode c_J_needKind 13 = .ok (.ldc 209, 2) := by decide +kernel
theorem d_J_needKind_15 : decode c_J_needKind 15 = .ok (.invokespecial 167, 3) := by decide +kernel
theorem d_J_needKind_18 : decode c_J_needKind 18 = .ok (.athrow, 1) := by decide +kernel
theorem d_J_needKind_19 : decode c_J_needKind 19 = .ok (.return_, 1) := by decide +kernel
theorem d_J_needAxis_0 : decode c_J_needAxis 0 = .ok (.iload_n 0, 1) := by decide +kernel
theorem d_J_needAxis_1 : decode c_J_needAxis 1 = .ok (.ifCond .lt 8, 3) := by decide +kernel
theorem d_J_needAxis_4 : decode c_J_needAxis 4 = .ok (.iload_n 0, 1) := by decide +kernel
theorem d_J_needAxis_5 : decode c_J_needAxis 5 = .ok (.iconst 3, 1) := by decide +kernel
theorem d_J_needAxis_6 : decode c_J_needAxis 6 = .ok (.if_icmp .lt 13, 3) := by decide +kernel
theorem d_J_needAxis_9 : decode c_J_needAxis 9 = .ok (.new 163, 3) := by decide +kernel
theorem d_J_needAxis_12 : decode c_J_needAxis 12 = .ok (.dup, 1) := by decide +kernel
theorem d_J_needAxis_13 : decode c_J_needAxis 13 = .ok (.ldc 211, 2) := by decide +kernel
theorem d_J_needAxis_15 : decode c_J_needAxis 15 = .ok (.invokespecial 167, 3) := by decide +kernel
theorem d_J_needAxis_18 : decode c_J_needAxis 18 = .ok (.athrow, 1) := by decide +kernel
theorem d_J_needAxis_19 : decode c_J_needAxis 19 = .ok (.return_, 1) := by decide +kernel
theorem d_J_needWidth_0 : decode c_J_needWidth 0 = .ok (.iload_n 0, 1) := by decide +kernel
theorem d_J_needWidth_1 : decode c_J_needWidth 1 = .ok (.iconst 1, 1) := by decide +kernel
theorem d_J_needWidth_2 : decode c_J_needWidth 2 = .ok (.if_icmp .lt 10, 3) := by decide +kernel
theorem d_J_needWidth_5 : decode c_J_needWidth 5 = .ok (.iload_n 0, 1) := by decide +kernel
theorem d_J_needWidth_6 : decode c_J_needWidth 6 = .ok (.sipush 1000, 3) := by decide +kernel
theorem d_J_needWidth_9 : decode c_J_needWidth 9 = .ok (.if_icmp .le 13, 3) := by decide +kernel
theorem d_J_needWidth_12 : decode c_J_needWidth 12 = .ok (.new 97, 3) := by decide +kernel
theorem d_J_needWidth_15 : decode c_J_needWidth 15 = .ok (.dup, 1) := by decide +kernel
theorem d_J_needWidth_16 : decode c_J_needWidth 16 = .ok (.ldc 213, 2) := by decide +kernel
theorem d_J_needWidth_18 : decode c_J_needWidth 18 = .ok (.invokespecial 101, 3) := by decide +kernel
theorem d_J_needWidth_21 : decode c_J_needWidth 21 = .ok (.athrow, 1) := by decide +kernel
theorem d_J_needWidth_22 : decode c_J_needWidth 22 = .ok (.return_, 1) := by decide +kernel
theorem d_J_needTwo_0 : decode c_J_needTwo 0 = .ok (.iload_n 0, 1) := by decide +kernel
theorem d_J_needTwo_1 : decode c_J_needTwo 1 = .ok (.iload_n 1, 1) := by decide +kernel
theorem d_J_needTwo_2 : decode c_J_needTwo 2 = .ok (.if_icmp .ne 13, 3) := by decide +kernel
theorem d_J_needTwo_5 : decode c_J_needTwo 5 = .ok (.new 97, 3) := by decide +kernel
theorem d_J_needTwo_8 : decode c_J_needTwo 8 = .ok (.dup, 1) := by decide +kernel
theorem d_J_needTwo_9 : decode c_J_needTwo 9 = .ok (.ldc 215, 2) := by decide +kernel
theorem d_J_needTwo_11 : decode c_J_needTwo 11 = .ok (.invokespecial 101, 3) := by decide +kernel
theorem d_J_needTwo_14 : decode c_J_needTwo 14 = .ok (.athrow, 1) := by decide +kernel
theorem d_J_needTwo_15 : decode c_J_needTwo 15 = .ok (.return_, 1) := by decide +kernel
theorem d_J_needPlaces_0 : decode c_J_needPlaces 0 = .ok (.iload_n 1, 1) := by decide +kernel
theorem d_J_needPlaces_1 : decode c_J_needPlaces 1 = .ok (.iload_n 2, 1) := by decide +kernel
theorem d_J_needPlaces_2 : decode c_J_needPlaces 2 = .ok (.iload_n 3, 1) := by decide +kernel
theorem d_J_needPlaces_3 : decode c_J_needPlaces 3 = .ok (.invokestatic 217, 3) := by decide +kernel
theorem d_J_needPlaces_6 : decode c_J_needPlaces 6 = .ok (.invokestatic 217, 3) := by decide +kernel
theorem d_J_needPlaces_9 : decode c_J_needPlaces 9 = .ok (.iload_n 0, 1) := by decide +kernel
theorem d_J_needPlaces_10 : decode c_J_needPlaces 10 = .ok (.ineg, 1) := by decide +kernel
theorem d_J_needPlaces_11 : decode c_J_needPlaces 11 = .ok (.if_icmp .lt 16, 3) := by decide +kernel
theorem d_J_needPlaces_14 : decode c_J_needPlaces 14 = .ok (.iload_n 1, 1) := by decide +kernel
theorem d_J_needPlaces_15 : decode c_J_needPlaces 15 = .ok (.iload_n 2, 1) := by decide +kernel
theorem d_J_needPlaces_16 : decode c_J_needPlaces 16 = .ok (.iload_n 3, 1) := by decide +kernel
theorem d_J_needPlaces_17 : decode c_J_needPlaces 17 = .ok (.invokestatic 222, 3) := by decide +kernel
theorem d_J_needPlaces_20 : decode c_J_needPlaces 20 = .ok (.invokestatic 222, 3) := by decide +kernel
theorem d_J_needPlaces_23 : decode c_J_needPlaces 23 = .ok (.iload_n 0, 1) := by decide +kernel
theorem d_J_needPlaces_24 : decode c_J_needPlaces 24 = .ok (.if_icmp .le 13, 3) := by decide +kernel
theorem d_J_needPlaces_27 : decode c_J_needPlaces 27 = .ok (.new 97, 3) := by decide +kernel
theorem d_J_needPlaces_30 : decode c_J_needPlaces 30 = .ok (.dup, 1) := by decide +kernel
theorem d_J_needPlaces_31 : decode c_J_needPlaces 31 = .ok (.ldc 225, 2) := by decide +kernel
theorem d_J_needPlaces_33 : decode c_J_needPlaces 33 = .ok (.invokespecial 101, 3) := by decide +kernel
theorem d_J_needPlaces_36 : decode c_J_needPlaces 36 = .ok (.athrow, 1) := by decide +kernel
theorem d_J_needPlaces_37 : decode c_J_needPlaces 37 = .ok (.return_, 1) := by decide +kernel
theorem d_J_needSizes_0 : decode c_J_needSizes 0 = .ok (.iload_n 1, 1) := by decide +kernel
theorem d_J_needSizes_1 : decode c_J_needSizes 1 = .ok (.iload_n 2, 1) := by decide +kernel
theorem d_J_needSizes_2 : decode c_J_needSizes 2 = .ok (.iload_n 3, 1) := by decide +kernel
theorem d_J_needSizes_3 : decode c_J_needSizes 3 = .ok (.invokestatic 217, 3) := by decide +kernel
theorem d_J_needSizes_6 : decode c_J_needSizes 6 = .ok (.invokestatic 217, 3) := by decide +kernel
theorem d_J_needSizes_9 : decode c_J_needSizes 9 = .ok (.iconst 1, 1) := by decide +kernel
theorem d_J_needSizes_10 : decode c_J_needSizes 10 = .ok (.if_icmp .lt 16, 3) := by decide +kernel
theorem d_J_needSizes_13 : decode c_J_needSizes 13 = .ok (.iload_n 1, 1) := by decide +kernel
theorem d_J_needSizes_14 : decode c_J_needSizes 14 = .ok (.iload_n 2, 1) := by decide +kernel
theorem d_J_needSizes_15 : decode c_J_needSizes 15 = .ok (.iload_n 3, 1) := by decide +kernel
theorem d_J_needSizes_16 : decode c_J_needSizes 16 = .ok (.invokestatic 222, 3) := by decide +kernel
theorem d_J_needSizes_19 : decode c_J_needSizes 19 = .ok (.invokestatic 222, 3) := by decide +kernel
theorem d_J_needSizes_22 : decode c_J_needSizes 22 = .ok (.iload_n 0, 1) := by decide +kernel
theorem d_J_needSizes_23 : decode c_J_needSizes 23 = .ok (.if_icmp .le 13, 3) := by decide +kernel
theorem d_J_needSizes_26 : decode c_J_needSizes 26 = .ok (.new 97, 3) := by decide +kernel
theorem d_J_needSizes_29 : decode c_J_needSizes 29 = .ok (.dup, 1) := by decide +kernel
theorem d_J_needSizes_30 : decode c_J_needSizes 30 = .ok (.ldc 227, 2) := by decide +kernel
theorem d_J_needSizes_32 : decode c_J_needSizes 32 = .ok (.invokespecial 101, 3) := by decide +kernel
theorem d_J_needSizes_35 : decode c_J_needSizes 35 = .ok (.athrow, 1) := by decide +kernel
theorem d_J_needSizes_36 : decode c_J_needSizes 36 = .ok (.return_, 1) := by decide +kernel
theorem d_J_setTool_0 : decode c_J_setTool 0 = .ok (.aload_n 0, 1) := by decide +kernel
theorem d_J_setTool_1 : decode c_J_setTool 1 = .ok (.getfield 39, 3) := by decide +kernel
theorem d_J_setTool_4 : decode c_J_setTool 4 = .ok (.iconst 0, 1) := by decide +kernel
theorem d_J_setTool_5 : decode c_J_setTool 5 = .ok (.iload_n 1, 1) := by decide +kernel
theorem d_J_setTool_6 : decode c_J_setTool 6 = .ok (.iastore, 1) := by decide +kernel
theorem d_J_setTool_7 : decode c_J_setTool 7 = .ok (.aload_n 0, 1) := by decide +kernel
theorem d_J_setTool_8 : decode c_J_setTool 8 = .ok (.getfield 39, 3) := by decide +kernel
theorem d_J_setTool_11 : decode c_J_setTool 11 = .ok (.iconst 1, 1) := by decide +kernel
theorem d_J_setTool_12 : decode c_J_setTool 12 = .ok (.iload_n 2, 1) := by decide +kernel
theorem d_J_setTool_13 : decode c_J_setTool 13 = .ok (.iastore, 1) := by decide +kernel
theorem d_J_setTool_14 : decode c_J_setTool 14 = .ok (.aload_n 0, 1) := by decide +kernel
theorem d_J_setTool_15 : decode c_J_setTool 15 = .ok (.getfield 39, 3) := by decide +kernel
theorem d_J_setTool_18 : decode c_J_setTool 18 = .ok (.iconst 2, 1) := by decide +kernel
theorem d_J_setTool_19 : decode c_J_setTool 19 = .ok (.iload_n 3, 1) := by decide +kernel
theorem d_J_setTool_20 : decode c_J_setTool 20 = .ok (.iastore, 1) := by decide +kernel
theorem d_J_setTool_21 : decode c_J_setTool 21 = .ok (.aload_n 0, 1) := by decide +kernel
theorem d_J_setTool_22 : decode c_J_setTool 22 = .ok (.getfield 39, 3) := by decide +kernel
theorem d_J_setTool_25 : decode c_J_setTool 25 = .ok (.iconst 3, 1) := by decide +kernel
theorem d_J_setTool_26 : decode c_J_setTool 26 = .ok (.iload_n 1, 1) := by decide +kernel
theorem d_J_setTool_27 : decode c_J_setTool 27 = .ok (.iload 4, 2) := by decide +kernel
theorem d_J_setTool_29 : decode c_J_setTool 29 = .ok (.iadd, 1) := by decide +kernel
theorem d_J_setTool_30 : decode c_J_setTool 30 = .ok (.iastore, 1) := by decide +kernel
theorem d_J_setTool_31 : decode c_J_setTool 31 = .ok (.aload_n 0, 1) := by decide +kernel
theorem d_J_setTool_32 : decode c_J_setTool 32 = .ok (.getfield 39, 3) := by decide +kernel
theorem d_J_setTool_35 : decode c_J_setTool 35 = .ok (.iconst 4, 1) := by decide +kernel
theorem d_J_setTool_36 : decode c_J_setTool 36 = .ok (.iload_n 2, 1) := by decide +kernel
theorem d_J_setTool_37 : decode c_J_setTool 37 = .ok (.iload 5, 2) := by decide +kernel
theorem d_J_setTool_39 : decode c_J_setTool 39 = .ok (.iadd, 1) := by decide +kernel
theorem d_J_setTool_40 : decode c_J_setTool 40 = .ok (.iastore, 1) := by decide +kernel
theorem d_J_setTool_41 : decode c_J_setTool 41 = .ok (.aload_n 0, 1) := by decide +kernel
theorem d_J_setTool_42 : decode c_J_setTool 42 = .ok (.getfield 39, 3) := by decide +kernel
theorem d_J_setTool_45 : decode c_J_setTool 45 = .ok (.iconst 5, 1) := by decide +kernel
theorem d_J_setTool_46 : decode c_J_setTool 46 = .ok (.iload_n 3, 1) := by decide +kernel
theorem d_J_setTool_47 : decode c_J_setTool 47 = .ok (.iload 6, 2) := by decide +kernel
theorem d_J_setTool_49 : decode c_J_setTool 49 = .ok (.iadd, 1) := by decide +kernel
theorem d_J_setTool_50 : decode c_J_setTool 50 = .ok (.iastore, 1) := by decide +kernel
theorem d_J_setTool_51 : decode c_J_setTool 51 = .ok (.return_, 1) := by decide +kernel
theorem d_J_carve_0 : decode c_J_carve 0 = .ok (.aload_n 0, 1) := by decide +kernel
theorem d_J_carve_1 : decode c_J_carve 1 = .ok (.getfield 36, 3) := by decide +kernel
theorem d_J_carve_4 : decode c_J_carve 4 = .ok (.invokevirtual 229, 3) := by decide +kernel
theorem d_J_carve_7 : decode c_J_carve 7 = .ok (.iconst 0, 1) := by decide +kernel
theorem d_J_carve_8 : decode c_J_carve 8 = .ok (.istore_n 2, 1) := by decide +kernel
theorem d_J_carve_9 : decode c_J_carve 9 = .ok (.iload_n 2, 1) := by decide +kernel
theorem d_J_carve_10 : decode c_J_carve 10 = .ok (.aload_n 1, 1) := by decide +kernel
theorem d_J_carve_11 : decode c_J_carve 11 = .ok (.getfield 160, 3) := by decide +kernel
theorem d_J_carve_14 : decode c_J_carve 14 = .ok (.if_icmp .ge 54, 3) := by decide +kernel
theorem d_J_carve_17 : decode c_J_carve 17 = .ok (.aload_n 1, 1) := by decide +kernel
theorem d_J_carve_18 : decode c_J_carve 18 = .ok (.getfield 170, 3) := by decide +kernel
theorem d_J_carve_21 : decode c_J_carve 21 = .ok (.iload_n 2, 1) := by decide +kernel
theorem d_J_carve_22 : decode c_J_carve 22 = .ok (.bipush 6, 2) := by decide +kernel
theorem d_J_carve_24 : decode c_J_carve 24 = .ok (.imul, 1) := by decide +kernel
theorem d_J_carve_25 : decode c_J_carve 25 = .ok (.aload_n 0, 1) := by decide +kernel
theorem d_J_carve_26 : decode c_J_carve 26 = .ok (.getfield 39, 3) := by decide +kernel
theorem d_J_carve_29 : decode c_J_carve 29 = .ok (.iconst 0, 1) := by decide +kernel
theorem d_J_carve_30 : decode c_J_carve 30 = .ok (.invokestatic 232, 3) := by decide +kernel
theorem d_J_carve_33 : decode c_J_carve 33 = .ok (.lconst 0, 1) := by decide +kernel
theorem d_J_carve_34 : decode c_J_carve 34 = .ok (.lcmp, 1) := by decide +kernel
theorem d_J_carve_35 : decode c_J_carve 35 = .ok (.ifCond .le 12, 3) := by decide +kernel
theorem d_J_carve_38 : decode c_J_carve 38 = .ok (.aload_n 0, 1) := by decide +kernel
theorem d_J_carve_39 : decode c_J_carve 39 = .ok (.aload_n 1, 1) := by decide +kernel
theorem d_J_carve_40 : decode c_J_carve 40 = .ok (.iload_n 2, 1) := by decide +kernel
theorem d_J_carve_41 : decode c_J_carve 41 = .ok (.invokevirtual 236, 3) := by decide +kernel
theorem d_J_carve_44 : decode c_J_carve 44 = .ok (.goto 18, 3) := by decide +kernel
theorem d_J_carve_47 : decode c_J_carve 47 = .ok (.aload_n 0, 1) := by decide +kernel
theorem d_J_carve_48 : decode c_J_carve 48 = .ok (.getfield 36, 3) := by decide +kernel
theorem d_J_carve_51 : decode c_J_carve 51 = .ok (.aload_n 1, 1) := by decide +kernel
theorem d_J_carve_52 : decode c_J_carve 52 = .ok (.getfield 170, 3) := by decide +kernel
theorem d_J_carve_55 : decode c_J_carve 55 = .ok (.iload_n 2, 1) := by decide +kernel
theorem d_J_carve_56 : decode c_J_carve 56 = .ok (.bipush 6, 2) := by decide +kernel
theorem d_J_carve_58 : decode c_J_carve 58 = .ok (.imul, 1) := by decide +kernel
theorem d_J_carve_59 : decode c_J_carve 59 = .ok (.invokevirtual 79, 3) := by decide +kernel
theorem d_J_carve_62 : decode c_J_carve 62 = .ok (.iinc 2 1, 3) := by decide +kernel
theorem d_J_carve_65 : decode c_J_carve 65 = .ok (.goto (-56), 3) := by decide +kernel
theorem d_J_carve_68 : decode c_J_carve 68 = .ok (.aload_n 0, 1) := by decide +kernel
theorem d_J_carve_69 : decode c_J_carve 69 = .ok (.getfield 36, 3) := by decide +kernel
theorem d_J_carve_72 : decode c_J_carve 72 = .ok (.getfield 160, 3) := by decide +kernel
theorem d_J_carve_75 : decode c_J_carve 75 = .ok (.bipush 24, 2) := by decide +kernel
theorem d_J_carve_77 : decode c_J_carve 77 = .ok (.if_icmp .le 5, 3) := by decide +kernel
theorem d_J_carve_80 : decode c_J_carve 80 = .ok (.iconst 0, 1) := by decide +kernel
theorem d_J_carve_81 : decode c_J_carve 81 = .ok (.ireturn, 1) := by decide +kernel
theorem d_J_carve_82 : decode c_J_carve 82 = .ok (.aload_n 1, 1) := by decide +kernel
theorem d_J_carve_83 : decode c_J_carve 83 = .ok (.aload_n 0, 1) := by decide +kernel
theorem d_J_carve_84 : decode c_J_carve 84 = .ok (.getfield 36, 3) := by decide +kernel
theorem d_J_carve_87 : decode c_J_carve 87 = .ok (.invokevirtual 139, 3) := by decide +kernel
theorem d_J_carve_90 : decode c_J_carve 90 = .ok (.iconst 1, 1) := by decide +kernel
theorem d_J_carve_91 : decode c_J_carve 91 = .ok (.ireturn, 1) := by decide +kernel
theorem d_J_addRest_0 : decode c_J_addRest 0 = .ok (.aload_n 1, 1) := by decide +kernel
theorem d_J_addRest_1 : decode c_J_addRest 1 = .ok (.getfield 170, 3) := by decide +kernel
theorem d_J_addRest_4 : decode c_J_addRest 4 = .ok (.iload_n 2, 1) := by decide +kernel
theorem d_J_addRest_5 : decode c_J_addRest 5 = .ok (.bipush 6, 2) := by decide +kernel
theorem d_J_addRest_7 : decode c_J_addRest 7 = .ok (.imul, 1) := by decide +kernel
theorem d_J_addRest_8 : decode c_J_addRest 8 = .ok (.aload_n 0, 1) := by decide +kernel
theorem d_J_addRest_9 : decode c_J_addRest 9 = .ok (.getfield 42, 3) := by decide +kernel
theorem d_J_addRest_12 : decode c_J_addRest 12 = .ok (.iconst 0, 1) := by decide +kernel
theorem d_J_addRest_13 : decode c_J_addRest 13 = .ok (.bipush 6, 2) := by decide +kernel
theorem d_J_addRest_15 : decode c_J_addRest 15 = .ok (.invokestatic 73, 3) := by decide +kernel
theorem d_J_addRest_18 : decode c_J_addRest 18 = .ok (.iconst 0, 1) := by decide +kernel
theorem d_J_addRest_19 : decode c_J_addRest 19 = .ok (.istore_n 3, 1) := by decide +kernel
theorem d_J_addRest_20 : decode c_J_addRest 20 = .ok (.iload_n 3, 1) := by decide +kernel
theorem d_J_addRest_21 : decode c_J_addRest 21 = .ok (.iconst 3, 1) := by decide +kernel
theorem d_J_addRest_22 : decode c_J_addRest 22 = .ok (.if_icmp .ge 91, 3) := by decide +kernel
theorem d_J_addRest_25 : decode c_J_addRest 25 = .ok (.aload_n 0, 1) := by decide +kernel
theorem d_J_addRest_26 : decode c_J_addRest 26 = .ok (.getfield 42, 3) := by decide +kernel
theorem d_J_addRest_29 : decode c_J_addRest 29 = .ok (.iload_n 3, 1) := by decide +kernel
theorem d_J_addRest_30 : decode c_J_addRest 30 = .ok (.iaload, 1) := by decide +kernel
theorem d_J_addRest_31 : decode c_J_addRest 31 = .ok (.istore 4, 2) := by decide +kernel
theorem d_J_addRest_33 : decode c_J_addRest 33 = .ok (.aload_n 0, 1) := by decide +kernel
theorem d_J_addRest_34 : decode c_J_addRest 34 = .ok (.getfield 42, 3) := by decide +kernel
theorem d_J_addRest_37 : decode c_J_addRest 37 = .ok (.iload_n 3, 1) := by decide +kernel
theorem d_J_addRest_38 : decode c_J_addRest 38 = .ok (.iconst 3, 1) := by decide +kernel
theorem d_J_addRest_39 : decode c_J_addRest 39 = .ok (.iadd, 1) := by decide +kernel
theorem d_J_addRest_40 : decode c_J_addRest 40 = .ok (.iaload, 1) := by decide +kernel
theorem d_J_addRest_41 : decode c_J_addRest 41 = .ok (.istore 5, 2) := by decide +kernel
theorem d_J_addRest_43 : decode c_J_addRest 43 = .ok (.iload 4, 2) := by decide +kernel
theorem d_J_addRest_45 : decode c_J_addRest 45 = .ok (.aload_n 0, 1) := by decide +kernel
theorem d_J_addRest_46 : decode c_J_addRest 46 = .ok (.getfield 39, 3) := by decide +kernel
theorem d_J_addRest_49 : decode c_J_addRest 49 = .ok (.iload_n 3, 1) := by decide +kernel
theorem d_J_addRest_50 : decode c_J_addRest 50 = .ok (.iaload, 1) := by decide +kernel
theorem d_J_addRest_51 : decode c_J_addRest 51 = .ok (.invokestatic 222, 3) := by decide +kernel
theorem d_J_addRest_54 : decode c_J_addRest 54 = .ok (.istore 6, 2) := by decide +kernel
theorem d_J_addRest_56 : decode c_J_addRest 56 = .ok (.iload 5, 2) := by decide +kernel
theorem d_J_addRest_58 : decode c_J_addRest 58 = .ok (.aload_n 0, 1) := by decide +kernel
theorem d_J_addRest_59 : decode c_J_addRest 59 = .ok (.getfield 39, 3) := by decide +kernel
theorem d_J_addRest_62 : decode c_J_addRest 62 = .ok (.iload_n 3, 1) := by decide +kernel
theorem d_J_addRest_63 : decode c_J_addRest 63 = .ok (.iconst 3, 1) := by decide +kernel
theorem d_J_addRest_64 : decode c_J_addRest 64 = .ok (.iadd, 1) := by decide +kernel
theorem d_J_addRest_65 : decode c_J_addRest 65 = .ok (.iaload, 1) := by decide +kernel
theorem d_J_addRest_66 : decode c_J_addRest 66 = .ok (.invokestatic 217, 3) := by decide +kernel
theorem d_J_addRest_69 : decode c_J_addRest 69 = .ok (.istore 7, 2) := by decide +kernel
theorem d_J_addRest_71 : decode c_J_addRest 71 = .ok (.aload_n 0, 1) := by decide +kernel
theorem d_J_addRest_72 : decode c_J_addRest 72 = .ok (.iload_n 3, 1) := by decide +kernel
theorem d_J_addRest_73 : decode c_J_addRest 73 = .ok (.iload 4, 2) := by decide +kernel
theorem d_J_addRest_75 : decode c_J_addRest 75 = .ok (.iload 6, 2) := by decide +kernel
theorem d_J_addRest_77 : decode c_J_addRest 77 = .ok (.invokevirtual 240, 3) := by decide +kernel
theorem d_J_addRest_80 : decode c_J_addRest 80 = .ok (.aload_n 0, 1) := by decide +kernel
theorem d_J_addRest_81 : decode c_J_addRest 81 = .ok (.iload_n 3, 1) := by decide +kernel
theorem d_J_addRest_82 : decode c_J_addRest 82 = .ok (.iload 7, 2) := by decide +kernel
theorem d_J_addRest_84 : decode c_J_addRest 84 = .ok (.iload 5, 2) := by decide +kernel
theorem d_J_addRest_86 : decode c_J_addRest 86 = .ok (.invokevirtual 240, 3) := by decide +kernel
theorem d_J_addRest_89 : decode c_J_addRest 89 = .ok (.aload_n 0, 1) := by decide +kernel
theorem d_J_addRest_90 : decode c_J_addRest 90 = .ok (.getfield 42, 3) := by decide +kernel
theorem d_J_addRest_93 : decode c_J_addRest 93 = .ok (.iload_n 3, 1) := by decide +kernel
theorem d_J_addRest_94 : decode c_J_addRest 94 = .ok (.iload 6, 2) := by decide +kernel
theorem d_J_addRest_96 : decode c_J_addRest 96 = .ok (.iastore, 1) := by decide +kernel
theorem d_J_addRest_97 : decode c_J_addRest 97 = .ok (.aload_n 0, 1) := by decide +kernel
theorem d_J_addRest_98 : decode c_J_addRest 98 = .ok (.getfield 42, 3) := by decide +kernel
theorem d_J_addRest_101 : decode c_J_addRest 101 = .ok (.iload_n 3, 1) := by decide +kernel
theorem d_J_addRest_102 : decode c_J_addRest 102 = .ok (.iconst 3, 1) := by decide +kernel
theorem d_J_addRest_103 : decode c_J_addRest 103 = .ok (.iadd, 1) := by decide +kernel
theorem d_J_addRest_104 : decode c_J_addRest 104 = .ok (.iload 7, 2) := by decide +kernel
theorem d_J_addRest_106 : decode c_J_addRest 106 = .ok (.iastore, 1) := by decide +kernel
theorem d_J_addRest_107 : decode c_J_addRest 107 = .ok (.iinc 3 1, 3) := by decide +kernel
theorem d_J_addRest_110 : decode c_J_addRest 110 = .ok (.goto (-90), 3) := by decide +kernel
theorem d_J_addRest_113 : decode c_J_addRest 113 = .ok (.return_, 1) := by decide +kernel
theorem d_J_addSlab_0 : decode c_J_addSlab 0 = .ok (.iload_n 2, 1) := by decide +kernel
theorem d_J_addSlab_1 : decode c_J_addSlab 1 = .ok (.iload_n 3, 1) := by decide +kernel
theorem d_J_addSlab_2 : decode c_J_addSlab 2 = .ok (.if_icmp .ge 31, 3) := by decide +kernel
theorem d_J_addSlab_5 : decode c_J_addSlab 5 = .ok (.aload_n 0, 1) := by decide +kernel
theorem d_J_addSlab_6 : decode c_J_addSlab 6 = .ok (.getfield 42, 3) := by decide +kernel
theorem d_J_addSlab_9 : decode c_J_addSlab 9 = .ok (.iload_n 1, 1) := by decide +kernel
theorem d_J_addSlab_10 : decode c_J_addSlab 10 = .ok (.iload_n 2, 1) := by decide +kernel
theorem d_J_addSlab_11 : decode c_J_addSlab 11 = .ok (.iastore, 1) := by decide +kernel
theorem d_J_addSlab_12 : decode c_J_addSlab 12 = .ok (.aload_n 0, 1) := by decide +kernel
theorem d_J_addSlab_13 : decode c_J_addSlab 13 = .ok (.getfield 42, 3) := by decide +kernel
theorem d_J_addSlab_16 : decode c_J_addSlab 16 = .ok (.iload_n 1, 1) := by decide +kernel
theorem d_J_addSlab_17 : decode c_J_addSlab 17 = .ok (.iconst 3, 1) := by decide +kernel
theorem d_J_addSlab_18 : decode c_J_addSlab 18 = .ok (.iadd, 1) := by decide +kernel
theorem d_J_addSlab_19 : decode c_J_addSlab 19 = .ok (.iload_n 3, 1) := by decide +kernel
theorem d_J_addSlab_20 : decode c_J_addSlab 20 = .ok (.iastore, 1) := by decide +kernel
theorem d_J_addSlab_21 : decode c_J_addSlab 21 = .ok (.aload_n 0, 1) := by decide +kernel
theorem d_J_addSlab_22 : decode c_J_addSlab 22 = .ok (.getfield 36, 3) := by decide +kernel
theorem d_J_addSlab_25 : decode c_J_addSlab 25 = .ok (.aload_n 0, 1) := by decide +kernel
theorem d_J_addSlab_26 : decode c_J_addSlab 26 = .ok (.getfield 42, 3) := by decide +kernel
theorem d_J_addSlab_29 : decode c_J_addSlab 29 = .ok (.iconst 0, 1) := by decide +kernel
theorem d_J_addSlab_30 : decode c_J_addSlab 30 = .ok (.invokevirtual 79, 3) := by decide +kernel
theorem d_J_addSlab_33 : decode c_J_addSlab 33 = .ok (.return_, 1) := by decide +kernel
theorem d_J_findCommon_0 : decode c_J_findCommon 0 = .ok (.iconst 1, 1) := by decide +kernel
theorem d_J_findCommon_1 : decode c_J_findCommon 1 = .ok (.istore_n 3, 1) := by decide +kernel
theorem d_J_findCommon_2 : decode c_J_findCommon 2 = .ok (.iconst 0, 1) := by decide +kernel
theorem d_J_findCommon_3 : decode c_J_findCommon 3 = .ok (.istore 4, 2) := by decide +kernel
theorem d_J_findCommon_5 : decode c_J_findCommon 5 = .ok (.iload 4, 2) := by decide +kernel
theorem d_J_findCommon_7 : decode c_J_findCommon 7 = .ok (.iconst 3, 1) := by decide +kernel
theorem d_J_findCommon_8 : decode c_J_findCommon 8 = .ok (.if_icmp .ge 114, 3) := by decide +kernel
theorem d_J_findCommon_11 : decode c_J_findCommon 11 = .ok (.iload 4, 2) := by decide +kernel
theorem d_J_findCommon_13 : decode c_J_findCommon 13 = .ok (.istore 5, 2) := by decide +kernel
theorem d_J_findCommon_15 : decode c_J_findCommon 15 = .ok (.iload 4, 2) := by decide +kernel
theorem d_J_findCommon_17 : decode c_J_findCommon 17 = .ok (.iconst 3, 1) := by decide +kernel
theorem d_J_findCommon_18 : decode c_J_findCommon 18 = .ok (.iadd, 1) := by decide +kernel
theorem d_J_findCommon_19 : decode c_J_findCommon 19 = .ok (.istore 6, 2) := by decide +kernel
theorem d_J_findCommon_21 : decode c_J_findCommon 21 = .ok (.aload_n 0, 1) := by decide +kernel
theorem d_J_findCommon_22 : decode c_J_findCommon 22 = .ok (.getfield 45, 3) := by decide +kernel
theorem d_J_findCommon_25 : decode c_J_findCommon 25 = .ok (.iload 5, 2) := by decide +kernel
theorem d_J_findCommon_27 : decode c_J_findCommon 27 = .ok (.aload_n 0, 1) := by decide +kernel
theorem d_J_findCommon_28 : decode c_J_findCommon 28 = .ok (.getfield 15, 3) := by decide +kernel
theorem d_J_findCommon_31 : decode c_J_findCommon 31 = .ok (.iload_n 1, 1) := by decide +kernel
theorem d_J_findCommon_32 : decode c_J_findCommon 32 = .ok (.bipush 6, 2) := by decide +kernel
theorem d_J_findCommon_34 : decode c_J_findCommon 34 = .ok (.imul, 1) := by decide +kernel
theorem d_J_findCommon_35 : decode c_J_findCommon 35 = .ok (.iload 5, 2) := by decide +kernel
theorem d_J_findCommon_37 : decode c_J_findCommon 37 = .ok (.iadd, 1) := by decide +kernel
theorem d_J_findCommon_38 : decode c_J_findCommon 38 = .ok (.iaload, 1) := by decide +kernel
theorem d_J_findCommon_39 : decode c_J_findCommon 39 = .ok (.aload_n 0, 1) := by decide +kernel
theorem d_J_findCommon_40 : decode c_J_findCommon 40 = .ok (.getfield 15, 3) := by decide +kernel
theorem d_J_findCommon_43 : decode c_J_findCommon 43 = .ok (.iload_n 2, 1) := by decide +kernel
theorem d_J_findCommon_44 : decode c_J_findCommon 44 = .ok (.bipush 6, 2) := by decide +kernel
theorem d_J_findCommon_46 : decode c_J_findCommon 46 = .ok (.imul, 1) := by decide +kernel
theorem d_J_findCommon_47 : decode c_J_findCommon 47 = .ok (.iload 5, 2) := by decide +kernel
theorem d_J_findCommon_49 : decode c_J_findCommon 49 = .ok (.iadd, 1) := by decide +kernel
theorem d_J_findCommon_50 : decode c_J_findCommon 50 = .ok (.iaload, 1) := by decide +kernel
theorem d_J_findCommon_51 : decode c_J_findCommon 51 = .ok (.invokestatic 222, 3) := by decide +kernel
theorem d_J_findCommon_54 : decode c_J_findCommon 54 = .ok (.iastore, 1) := by decide +kernel
theorem d_J_findCommon_55 : decode c_J_findCommon 55 = .ok (.aload_n 0, 1) := by decide +kernel
theorem d_J_findCommon_56 : decode c_J_findCommon 56 = .ok (.getfield 45, 3) := by decide +kernel
theorem d_J_findCommon_59 : decode c_J_findCommon 59 = .ok (.iload 6, 2) := by decide +kernel
theorem d_J_findCommon_61 : decode c_J_findCommon 61 = .ok (.aload_n 0, 1) := by decide +kernel
theorem d_J_findCommon_62 : decode c_J_findCommon 62 = .ok (.getfield 15, 3) := by decide +kernel
theorem d_J_findCommon_65 : decode c_J_findCommon 65 = .ok (.iload_n 1, 1) := by decide +kernel
theorem d_J_findCommon_66 : decode c_J_findCommon 66 = .ok (.bipush 6, 2) := by decide +kernel
theorem d_J_findCommon_68 : decode c_J_findCommon 68 = .ok (.imul, 1) := by decide +kernel
theorem d_J_findCommon_69 : decode c_J_findCommon 69 = .ok (.iload 6, 2) := by decide +kernel
theorem d_J_findCommon_71 : decode c_J_findCommon 71 = .ok (.iadd, 1) := by decide +kernel
theorem d_J_findCommon_72 : decode c_J_findCommon 72 = .ok (.iaload, 1) := by decide +kernel
theorem d_J_findCommon_73 : decode c_J_findCommon 73 = .ok (.aload_n 0, 1) := by decide +kernel
theorem d_J_findCommon_74 : decode c_J_findCommon 74 = .ok (.getfield 15, 3) := by decide +kernel
theorem d_J_findCommon_77 : decode c_J_findCommon 77 = .ok (.iload_n 2, 1) := by decide +kernel
theorem d_J_findCommon_78 : decode c_J_findCommon 78 = .ok (.bipush 6, 2) := by decide +kernel
theorem d_J_findCommon_80 : decode c_J_findCommon 80 = .ok (.imul, 1) := by decide +kernel
theorem d_J_findCommon_81 : decode c_J_findCommon 81 = .ok (.iload 6, 2) := by decide +kernel
theorem d_J_findCommon_83 : decode c_J_findCommon 83 = .ok (.iadd, 1) := by decide +kernel
theorem d_J_findCommon_84 : decode c_J_findCommon 84 = .ok (.iaload, 1) := by decide +kernel
theorem d_J_findCommon_85 : decode c_J_findCommon 85 = .ok (.invokestatic 217, 3) := by decide +kernel
theorem d_J_findCommon_88 : decode c_J_findCommon 88 = .ok (.iastore, 1) := by decide +kernel
theorem d_J_findCommon_89 : decode c_J_findCommon 89 = .ok (.iload_n 3, 1) := by decide +kernel
theorem d_J_findCommon_90 : decode c_J_findCommon 90 = .ok (.ifCond .eq 24, 3) := by decide +kernel
theorem d_J_findCommon_93 : decode c_J_findCommon 93 = .ok (.aload_n 0, 1) := by decide +kernel
theorem d_J_findCommon_94 : decode c_J_findCommon 94 = .ok (.getfield 45, 3) := by decide +kernel
theorem d_J_findCommon_97 : decode c_J_findCommon 97 = .ok (.iload 5, 2) := by decide +kernel
theorem d_J_findCommon_99 : decode c_J_findCommon 99 = .ok (.iaload, 1) := by decide +kernel
theorem d_J_findCommon_100 : decode c_J_findCommon 100 = .ok (.aload_n 0, 1) := by decide +kernel
theorem d_J_findCommon_101 : decode c_J_findCommon 101 = .ok (.getfield 45, 3) := by decide +kernel
theorem d_J_findCommon_104 : decode c_J_findCommon 104 = .ok (.iload 6, 2) := by decide +kernel
theorem d_J_findCommon_106 : decode c_J_findCommon 106 = .ok (.iaload, 1) := by decide +kernel
theorem d_J_findCommon_107 : decode c_J_findCommon 107 = .ok (.if_icmp .ge 7, 3) := by decide +kernel
theorem d_J_findCommon_110 : decode c_J_findCommon 110 = .ok (.iconst 1, 1) := by decide +kernel
theorem d_J_findCommon_111 : decode c_J_findCommon 111 = .ok (.goto 4, 3) := by decide +kernel
theorem d_J_findCommon_114 : decode c_J_findCommon 114 = .ok (.iconst 0, 1) := by decide +kernel
theorem d_J_findCommon_115 : decode c_J_findCommon 115 = .ok (.istore_n 3, 1) := by decide +kernel
theorem d_J_findCommon_116 : decode c_J_findCommon 116 = .ok (.iinc 4 1, 3) := by decide +kernel
theorem d_J_findCommon_119 : decode c_J_findCommon 119 = .ok (.goto (-114), 3) := by decide +kernel
theorem d_J_findCommon_122 : decode c_J_findCommon 122 = .ok (.iload_n 3, 1) := by decide +kernel
theorem d_J_findCommon_123 : decode c_J_findCommon 123 = .ok (.ireturn, 1) := by decide +kernel
theorem d_J_slicesOf_0 : decode c_J_slicesOf 0 = .ok (.iload_n 1, 1) := by decide +kernel
theorem d_J_slicesOf_1 : decode c_J_slicesOf 1 = .ok (.iconst 1, 1) := by decide +kernel
theorem d_J_slicesOf_2 : decode c_J_slicesOf 2 = .ok (.if_icmp .ge 7, 3) := by decide +kernel
theorem d_J_slicesOf_5 : decode c_J_slicesOf 5 = .ok (.iconst 0, 1) := by decide +kernel
theorem d_J_slicesOf_6 : decode c_J_slicesOf 6 = .ok (.goto 10, 3) := by decide +kernel
theorem d_J_slicesOf_9 : decode c_J_slicesOf 9 = .ok (.iload_n 0, 1) := by decide +kernel
theorem d_J_slicesOf_10 : decode c_J_slicesOf 10 = .ok (.iload_n 1, 1) := by decide +kernel
theorem d_J_slicesOf_11 : decode c_J_slicesOf 11 = .ok (.iadd, 1) := by decide +kernel
theorem d_J_slicesOf_12 : decode c_J_slicesOf 12 = .ok (.iconst 1, 1) := by decide +kernel
theorem d_J_slicesOf_13 : decode c_J_slicesOf 13 = .ok (.isub, 1) := by decide +kernel
theorem d_J_slicesOf_14 : decode c_J_slicesOf 14 = .ok (.iload_n 1, 1) := by decide +kernel
theorem d_J_slicesOf_15 : decode c_J_slicesOf 15 = .ok (.idiv, 1) := by decide +kernel
theorem d_J_slicesOf_16 : decode c_J_slicesOf 16 = .ok (.ireturn, 1) := by decide +kernel
theorem d_J_leastSize_0 : decode c_J_leastSize 0 = .ok (.iload_n 0, 1) := by decide +kernel
theorem d_J_leastSize_1 : decode c_J_leastSize 1 = .ok (.tableswitch 35 0 2 #[27, 29, 31], 27) := by decide +kernel
theorem d_J_leastSize_28 : decode c_J_leastSize 28 = .ok (.iconst 2, 1) := by decide +kernel
theorem d_J_leastSize_29 : decode c_J_leastSize 29 = .ok (.ireturn, 1) := by decide +kernel
theorem d_J_leastSize_30 : decode c_J_leastSize 30 = .ok (.iconst 1, 1) := by decide +kernel
theorem d_J_leastSize_31 : decode c_J_leastSize 31 = .ok (.ireturn, 1) := by decide +kernel
theorem d_J_leastSize_32 : decode c_J_leastSize 32 = .ok (.iconst 2, 1) := by decide +kernel
theorem d_J_leastSize_33 : decode c_J_leastSize 33 = .ok (.iload_n 1, 1) := by decide +kernel
theorem d_J_leastSize_34 : decode c_J_leastSize 34 = .ok (.imul, 1) := by decide +kernel
theorem d_J_leastSize_35 : decode c_J_leastSize 35 = .ok (.ireturn, 1) := by decide +kernel
theorem d_J_leastSize_36 : decode c_J_leastSize 36 = .ok (.iconst 3, 1) := by decide +kernel
theorem d_J_leastSize_37 : decode c_J_leastSize 37 = .ok (.ireturn, 1) := by decide +kernel
theorem d_J_markSpans_0 : decode c_J_markSpans 0 = .ok (.iload_n 1, 1) := by decide +kernel
theorem d_J_markSpans_1 : decode c_J_markSpans 1 = .ok (.tableswitch 90 0 2 #[27, 42, 48], 27) := by decide +kernel
theorem d_J_markSpans_28 : decode c_J_markSpans 28 = .ok (.iconst 2, 1) := by decide +kernel
theorem d_J_markSpans_29 : decode c_J_markSpans 29 = .ok (.istore 4, 2) := by decide +kernel
theorem d_J_markSpans_31 : decode c_J_markSpans 31 = .ok (.aload_n 0, 1) := by decide +kernel
theorem d_J_markSpans_32 : decode c_J_markSpans 32 = .ok (.getfield 48, 3) := by decide +kernel
theorem d_J_markSpans_35 : decode c_J_markSpans 35 = .ok (.iconst 1, 1) := by decide +kernel
theorem d_J_markSpans_36 : decode c_J_markSpans 36 = .ok (.iload_n 2, 1) := by decide +kernel
theorem d_J_markSpans_37 : decode c_J_markSpans 37 = .ok (.iconst 2, 1) := by decide +kernel
theorem d_J_markSpans_38 : decode c_J_markSpans 38 = .ok (.idiv, 1) := by decide +kernel
theorem d_J_markSpans_39 : decode c_J_markSpans 39 = .ok (.iastore, 1) := by decide +kernel
theorem d_J_markSpans_40 : decode c_J_markSpans 40 = .ok (.goto 74, 3) := by decide +kernel
theorem d_J_markSpans_43 : decode c_J_markSpans 43 = .ok (.iconst 1, 1) := by decide +kernel
theorem d_J_markSpans_44 : decode c_J_markSpans 44 = .ok (.istore 4, 2) := by decide +kernel
theorem d_J_markSpans_46 : decode c_J_markSpans 46 = .ok (.goto 68, 3) := by decide +kernel
theorem d_J_markSpans_49 : decode c_J_markSpans 49 = .ok (.iload_n 2, 1) := by decide +kernel
theorem d_J_markSpans_50 : decode c_J_markSpans 50 = .ok (.iload_n 3, 1) := by decide +kernel
theorem d_J_markSpans_51 : decode c_J_markSpans 51 = .ok (.invokestatic 130, 3) := by decide +kernel
theorem d_J_markSpans_54 : decode c_J_markSpans 54 = .ok (.bipush 8, 2) := by decide +kernel
theorem d_J_markSpans_56 : decode c_J_markSpans 56 = .ok (.invokestatic 217, 3) := by decide +kernel
theorem d_J_markSpans_59 : decode c_J_markSpans 59 = .ok (.istore 4, 2) := by decide +kernel
theorem d_J_markSpans_61 : decode c_J_markSpans 61 = .ok (.iconst 1, 1) := by decide +kernel
theorem d_J_markSpans_62 : decode c_J_markSpans 62 = .ok (.istore 5, 2) := by decide +kernel
theorem d_J_markSpans_64 : decode c_J_markSpans 64 = .ok (.iload 5, 2) := by decide +kernel
theorem d_J_markSpans_66 : decode c_J_markSpans 66 = .ok (.iload 4, 2) := by decide +kernel
theorem d_J_markSpans_68 : decode c_J_markSpans 68 = .ok (.if_icmp .ge 20, 3) := by decide +kernel
theorem d_J_markSpans_71 : decode c_J_markSpans 71 = .ok (.aload_n 0, 1) := by decide +kernel
theorem d_J_markSpans_72 : decode c_J_markSpans 72 = .ok (.getfield 48, 3) := by decide +kernel
theorem d_J_markSpans_75 : decode c_J_markSpans 75 = .ok (.iload 5, 2) := by decide +kernel
theorem d_J_markSpans_77 : decode c_J_markSpans 77 = .ok (.iload 5, 2) := by decide +kernel
theorem d_J_markSpans_79 : decode c_J_markSpans 79 = .ok (.iload_n 3, 1) := by decide +kernel
theorem d_J_markSpans_80 : decode c_J_markSpans 80 = .ok (.imul, 1) := by decide +kernel
theorem d_J_markSpans_81 : decode c_J_markSpans 81 = .ok (.iastore, 1) := by decide +kernel
theorem d_J_markSpans_82 : decode c_J_markSpans 82 = .ok (.iinc 5 1, 3) := by decide +kernel
theorem d_J_markSpans_85 : decode c_J_markSpans 85 = .ok (.goto (-21), 3) := by decide +kernel
theorem d_J_markSpans_88 : decode c_J_markSpans 88 = .ok (.goto 26, 3) := by decide +kernel
theorem d_J_markSpans_91 : decode c_J_markSpans 91 = .ok (.iconst 3, 1) := by decide +kernel
theorem d_J_markSpans_92 : decode c_J_markSpans 92 = .ok (.istore 4, 2) := by decide +kernel
theorem d_J_markSpans_94 : decode c_J_markSpans 94 = .ok (.aload_n 0, 1) := by decide +kernel
theorem d_J_markSpans_95 : decode c_J_markSpans 95 = .ok (.getfield 48, 3) := by decide +kernel
theorem d_J_markSpans_98 : decode c_J_markSpans 98 = .ok (.iconst 1, 1) := by decide +kernel
theorem d_J_markSpans_99 : decode c_J_markSpans 99 = .ok (.iload_n 2, 1) := by decide +kernel
theorem d_J_markSpans_100 : decode c_J_markSpans 100 = .ok (.iconst 3, 1) := by decide +kernel
theorem d_J_markSpans_101 : decode c_J_markSpans 101 = .ok (.idiv, 1) := by decide +kernel
theorem d_J_markSpans_102 : decode c_J_markSpans 102 = .ok (.iastore, 1) := by decide +kernel
theorem d_J_markSpans_103 : decode c_J_markSpans 103 = .ok (.aload_n 0, 1) := by decide +kernel
theorem d_J_markSpans_104 : decode c_J_markSpans 104 = .ok (.getfield 48, 3) := by decide +kernel
theorem d_J_markSpans_107 : decode c_J_markSpans 107 = .ok (.iconst 2, 1) := by decide +kernel
theorem d_J_markSpans_108 : decode c_J_markSpans 108 = .ok (.iload_n 2, 1) := by decide +kernel
theorem d_J_markSpans_109 : decode c_J_markSpans 109 = .ok (.iload_n 2, 1) := by decide +kernel
theorem d_J_markSpans_110 : decode c_J_markSpans 110 = .ok (.iconst 3, 1) := by decide +kernel
theorem d_J_markSpans_111 : decode c_J_markSpans 111 = .ok (.idiv, 1) := by decide +kernel
theorem d_J_markSpans_112 : decode c_J_markSpans 112 = .ok (.isub, 1) := by decide +kernel
theorem d_J_markSpans_113 : decode c_J_markSpans 113 = .ok (.iastore, 1) := by decide +kernel
theorem d_J_markSpans_114 : decode c_J_markSpans 114 = .ok (.aload_n 0, 1) := by decide +kernel
theorem d_J_markSpans_115 : decode c_J_markSpans 115 = .ok (.getfield 48, 3) := by decide +kernel
theorem d_J_markSpans_118 : decode c_J_markSpans 118 = .ok (.iload 4, 2) := by decide +kernel
theorem d_J_markSpans_120 : decode c_J_markSpans 120 = .ok (.iload_n 2, 1) := by decide +kernel
theorem d_J_markSpans_121 : decode c_J_markSpans 121 = .ok (.iastore, 1) := by decide +kernel
theorem d_J_markSpans_122 : decode c_J_markSpans 122 = .ok (.iload 4, 2) := by decide +kernel
theorem d_J_markSpans_124 : decode c_J_markSpans 124 = .ok (.ireturn, 1) := by decide +kernel
theorem d_J_carveSpans_0 : decode c_J_carveSpans 0 = .ok (.iload_n 1, 1) := by decide +kernel
theorem d_J_carveSpans_1 : decode c_J_carveSpans 1 = .ok (.ifCond .eq 12, 3) := by decide +kernel
theorem d_J_carveSpans_4 : decode c_J_carveSpans 4 = .ok (.iload_n 1, 1) := by decide +kernel
theorem d_J_carveSpans_5 : decode c_J_carveSpans 5 = .ok (.iconst 3, 1) := by decide +kernel
theorem d_J_carveSpans_6 : decode c_J_carveSpans 6 = .ok (.if_icmp .eq 7, 3) := by decide +kernel
theorem d_J_carveSpans_9 : decode c_J_carveSpans 9 = .ok (.iconst 1, 1) := by decide +kernel
theorem d_J_carveSpans_10 : decode c_J_carveSpans 10 = .ok (.goto 4, 3) := by decide +kernel
theorem d_J_carveSpans_13 : decode c_J_carveSpans 13 = .ok (.iconst 0, 1) := by decide +kernel
theorem d_J_carveSpans_14 : decode c_J_carveSpans 14 = .ok (.istore 4, 2) := by decide +kernel
theorem d_J_carveSpans_16 : decode c_J_carveSpans 16 = .ok (.iconst 0, 1) := by decide +kernel
theorem d_J_carveSpans_17 : decode c_J_carveSpans 17 = .ok (.istore 5, 2) := by decide +kernel
theorem d_J_carveSpans_19 : decode c_J_carveSpans 19 = .ok (.iload 5, 2) := by decide +kernel
theorem d_J_carveSpans_21 : decode c_J_carveSpans 21 = .ok (.iload_n 3, 1) := by decide +kernel
theorem d_J_carveSpans_22 : decode c_J_carveSpans 22 = .ok (.if_icmp .ge 80, 3) := by decide +kernel
theorem d_J_carveSpans_25 : decode c_J_carveSpans 25 = .ok (.aload_n 0, 1) := by decide +kernel
theorem d_J_carveSpans_26 : decode c_J_carveSpans 26 = .ok (.iload_n 2, 1) := by decide +kernel
theorem d_J_carveSpans_27 : decode c_J_carveSpans 27 = .ok (.aload_n 0, 1) := by decide +kernel
theorem d_J_carveSpans_28 : decode c_J_carveSpans 28 = .ok (.getfield 48, 3) := by decide +kernel
theorem d_J_carveSpans_31 : decode c_J_carveSpans 31 = .ok (.iload 5, 2) := by decide +kernel
theorem d_J_carveSpans_33 : decode c_J_carveSpans 33 = .ok (.iaload, 1) := by decide +kernel
theorem d_J_carveSpans_34 : decode c_J_carveSpans 34 = .ok (.aload_n 0, 1) := by decide +kernel
theorem d_J_carveSpans_35 : decode c_J_carveSpans 35 = .ok (.getfield 48, 3) := by decide +kernel
theorem d_J_carveSpans_38 : decode c_J_carveSpans 38 = .ok (.iload 5, 2) := by decide +kernel
theorem d_J_carveSpans_40 : decode c_J_carveSpans 40 = .ok (.iconst 1, 1) := by decide +kernel
theorem d_J_carveSpans_41 : decode c_J_carveSpans 41 = .ok (.iadd, 1) := by decide +kernel
theorem d_J_carveSpans_42 : decode c_J_carveSpans 42 = .ok (.iaload, 1) := by decide +kernel
theorem d_J_carveSpans_43 : decode c_J_carveSpans 43 = .ok (.iload 4, 2) := by decide +kernel
theorem d_J_carveSpans_45 : decode c_J_carveSpans 45 = .ok (.ifCond .eq 10, 3) := by decide +kernel
theorem d_J_carveSpans_48 : decode c_J_carveSpans 48 = .ok (.aload_n 0, 1) := by decide +kernel
theorem d_J_carveSpans_49 : decode c_J_carveSpans 49 = .ok (.getfield 102, 3) := by decide +kernel
theorem d_J_carveSpans_52 : decode c_J_carveSpans 52 = .ok (.goto 4, 3) := by decide +kernel
theorem d_J_carveSpans_55 : decode c_J_carveSpans 55 = .ok (.iconst 0, 1) := by decide +kernel
theorem d_J_carveSpans_56 : decode c_J_carveSpans 56 = .ok (.invokevirtual 244, 3) := by decide +kernel
theorem d_J_carveSpans_59 : decode c_J_carveSpans 59 = .ok (.aload_n 0, 1) := by decide +kernel
theorem d_J_carveSpans_60 : decode c_J_carveSpans 60 = .ok (.iload 4, 2) := by decide +kernel
theorem d_J_carveSpans_62 : decode c_J_carveSpans 62 = .ok (.ifCond .eq 10, 3) := by decide +kernel
theorem d_J_carveSpans_65 : decode c_J_carveSpans 65 = .ok (.aload_n 0, 1) := by decide +kernel
theorem d_J_carveSpans_66 : decode c_J_carveSpans 66 = .ok (.getfield 29, 3) := by decide +kernel
theorem d_J_carveSpans_69 : decode c_J_carveSpans 69 = .ok (.goto 7, 3) := by decide +kernel
theorem d_J_carveSpans_72 : decode c_J_carveSpans 72 = .ok (.aload_n 0, 1) := by decide +kernel
theorem d_J_carveSpans_73 : decode c_J_carveSpans 73 = .ok (.getfield 33, 3) := by decide +kernel
theorem d_J_carveSpans_76 : decode c_J_carveSpans 76 = .ok (.invokevirtual 91, 3) := by decide +kernel
theorem d_J_carveSpans_79 : decode c_J_carveSpans 79 = .ok (.ifCond .ne 5, 3) := by decide +kernel
theorem d_J_carveSpans_82 : decode c_J_carveSpans 82 = .ok (.iconst 0, 1) := by decide +kernel
theorem d_J_carveSpans_83 : decode c_J_carveSpans 83 = .ok (.ireturn, 1) := by decide +kernel
theorem d_J_carveSpans_84 : decode c_J_carveSpans 84 = .ok (.iload 4, 2) := by decide +kernel
theorem d_J_carveSpans_86 : decode c_J_carveSpans 86 = .ok (.ifCond .ne 7, 3) := by decide +kernel
theorem d_J_carveSpans_89 : decode c_J_carveSpans 89 = .ok (.iconst 1, 1) := by decide +kernel
theorem d_J_carveSpans_90 : decode c_J_carveSpans 90 = .ok (.goto 4, 3) := by decide +kernel
theorem d_J_carveSpans_93 : decode c_J_carveSpans 93 = .ok (.iconst 0, 1) := by decide +kernel
theorem d_J_carveSpans_94 : decode c_J_carveSpans 94 = .ok (.istore 4, 2) := by decide +kernel
theorem d_J_carveSpans_96 : decode c_J_carveSpans 96 = .ok (.iinc 5 1, 3) := by decide +kernel
theorem d_J_carveSpans_99 : decode c_J_carveSpans 99 = .ok (.goto (-80), 3) := by decide +kernel
theorem d_J_carveSpans_102 : decode c_J_carveSpans 102 = .ok (.iconst 1, 1) := by decide +kernel
theorem d_J_carveSpans_103 : decode c_J_carveSpans 103 = .ok (.ireturn, 1) := by decide +kernel
theorem d_J_setSpan_0 : decode c_J_setSpan 0 = .ok (.aload_n 0, 1) := by decide +kernel
theorem d_J_setSpan_1 : decode c_J_setSpan 1 = .ok (.getfield 45, 3) := by decide +kernel
theorem d_J_setSpan_4 : decode c_J_setSpan 4 = .ok (.iconst 0, 1) := by decide +kernel
theorem d_J_setSpan_5 : decode c_J_setSpan 5 = .ok (.aload_n 0, 1) := by decide +kernel
theorem d_J_setSpan_6 : decode c_J_setSpan 6 = .ok (.getfield 39, 3) := by decide +kernel
theorem d_J_setSpan_9 : decode c_J_setSpan 9 = .ok (.iconst 0, 1) := by decide +kernel
theorem d_J_setSpan_10 : decode c_J_setSpan 10 = .ok (.bipush 6, 2) := by decide +kernel
theorem d_J_setSpan_12 : decode c_J_setSpan 12 = .ok (.invokestatic 73, 3) := by decide +kernel
theorem d_J_setSpan_15 : decode c_J_setSpan 15 = .ok (.aload_n 0, 1) := by decide +kernel
theorem d_J_setSpan_16 : decode c_J_setSpan 16 = .ok (.getfield 45, 3) := by decide +kernel
theorem d_J_setSpan_19 : decode c_J_setSpan 19 = .ok (.iload_n 1, 1) := by decide +kernel
theorem d_J_setSpan_20 : decode c_J_setSpan 20 = .ok (.iaload, 1) := by decide +kernel
theorem d_J_setSpan_21 : decode c_J_setSpan 21 = .ok (.istore 5, 2) := by decide +kernel
theorem d_J_setSpan_23 : decode c_J_setSpan 23 = .ok (.aload_n 0, 1) := by decide +kernel
theorem d_J_setSpan_24 : decode c_J_setSpan 24 = .ok (.getfield 45, 3) := by decide +kernel
theorem d_J_setSpan_27 : decode c_J_setSpan 27 = .ok (.iload_n 1, 1) := by decide +kernel
theorem d_J_setSpan_28 : decode c_J_setSpan 28 = .ok (.iconst 3, 1) := by decide +kernel
theorem d_J_setSpan_29 : decode c_J_setSpan 29 = .ok (.iadd, 1) := by decide +kernel
theorem d_J_setSpan_30 : decode c_J_setSpan 30 = .ok (.iaload, 1) := by decide +kernel
theorem d_J_setSpan_31 : decode c_J_setSpan 31 = .ok (.istore 6, 2) := by decide +kernel
theorem d_J_setSpan_33 : decode c_J_setSpan 33 = .ok (.aload_n 0, 1) := by decide +kernel
theorem d_J_setSpan_34 : decode c_J_setSpan 34 = .ok (.getfield 39, 3) := by decide +kernel
theorem d_J_setSpan_37 : decode c_J_setSpan 37 = .ok (.iload_n 1, 1) := by decide +kernel
theorem d_J_setSpan_38 : decode c_J_setSpan 38 = .ok (.iload 5, 2) := by decide +kernel
theorem d_J_setSpan_40 : decode c_J_setSpan 40 = .ok (.iload 5, 2) := by decide +kernel
theorem d_J_setSpan_42 : decode c_J_setSpan 42 = .ok (.iload_n 2, 1) := by decide +kernel
theorem d_J_setSpan_43 : decode c_J_setSpan 43 = .ok (.iadd, 1) := by decide +kernel
theorem d_J_setSpan_44 : decode c_J_setSpan 44 = .ok (.iload 4, 2) := by decide +kernel
theorem d_J_setSpan_46 : decode c_J_setSpan 46 = .ok (.isub, 1) := by decide +kernel
theorem d_J_setSpan_47 : decode c_J_setSpan 47 = .ok (.invokestatic 222, 3) := by decide +kernel
theorem d_J_setSpan_50 : decode c_J_setSpan 50 = .ok (.iastore, 1) := by decide +kernel
theorem d_J_setSpan_51 : decode c_J_setSpan 51 = .ok (.aload_n 0, 1) := by decide +kernel
theorem d_J_setSpan_52 : decode c_J_setSpan 52 = .ok (.getfield 39, 3) := by decide +kernel
theorem d_J_setSpan_55 : decode c_J_setSpan 55 = .ok (.iload_n 1, 1) := by decide +kernel
theorem d_J_setSpan_56 : decode c_J_setSpan 56 = .ok (.iconst 3, 1) := by decide +kernel
theorem d_J_setSpan_57 : decode c_J_setSpan 57 = .ok (.iadd, 1) := by decide +kernel
theorem d_J_setSpan_58 : decode c_J_setSpan 58 = .ok (.iload 6, 2) := by decide +kernel
theorem d_J_setSpan_60 : decode c_J_setSpan 60 = .ok (.iload 5, 2) := by decide +kernel
theorem d_J_setSpan_62 : decode c_J_setSpan 62 = .ok (.iload_n 3, 1) := by decide +kernel
theorem d_J_setSpan_63 : decode c_J_setSpan 63 = .ok (.iadd, 1) := by decide +kernel
theorem d_J_setSpan_64 : decode c_J_setSpan 64 = .ok (.iload 4, 2) := by decide +kernel
theorem d_J_setSpan_66 : decode c_J_setSpan 66 = .ok (.iadd, 1) := by decide +kernel
theorem d_J_setSpan_67 : decode c_J_setSpan 67 = .ok (.invokestatic 217, 3) := by decide +kernel
theorem d_J_setSpan_70 : decode c_J_setSpan 70 = .ok (.iastore, 1) := by decide +kernel
theorem d_J_setSpan_71 : decode c_J_setSpan 71 = .ok (.return_, 1) := by decide +kernel
theorem d_J_volumeOfBoth_0 : decode c_J_volumeOfBoth 0 = .ok (.lconst 0, 1) := by decide +kernel
theorem d_J_volumeOfBoth_1 : decode c_J_volumeOfBoth 1 = .ok (.lstore_n 2, 1) := by decide +kernel
theorem d_J_volumeOfBoth_2 : decode c_J_volumeOfBoth 2 = .ok (.iconst 0, 1) := by decide +kernel
theorem d_J_volumeOfBoth_3 : decode c_J_volumeOfBoth 3 = .ok (.istore 4, 2) := by decide +kernel
theorem d_J_volumeOfBoth_5 : decode c_J_volumeOfBoth 5 = .ok (.iload 4, 2) := by decide +kernel
theorem d_J_volumeOfBoth_7 : decode c_J_volumeOfBoth 7 = .ok (.aload_n 0, 1) := by decide +kernel
theorem d_J_volumeOfBoth_8 : decode c_J_volumeOfBoth 8 = .ok (.getfield 160, 3) := by decide +kernel
theorem d_J_volumeOfBoth_11 : decode c_J_volumeOfBoth 11 = .ok (.if_icmp .ge 51, 3) := by decide +kernel
theorem d_J_volumeOfBoth_14 : decode c_J_volumeOfBoth 14 = .ok (.iconst 0, 1) := by decide +kernel
theorem d_J_volumeOfBoth_15 : decode c_J_volumeOfBoth 15 = .ok (.istore 5, 2) := by decide +kernel
theorem d_J_volumeOfBoth_17 : decode c_J_volumeOfBoth 17 = .ok (.iload 5, 2) := by decide +kernel
theorem d_J_volumeOfBoth_19 : decode c_J_volumeOfBoth 19 = .ok (.aload_n 1, 1) := by decide +kernel
theorem d_J_volumeOfBoth_20 : decode c_J_volumeOfBoth 20 = .ok (.getfield 160, 3) := by decide +kernel
theorem d_J_volumeOfBoth_23 : decode c_J_volumeOfBoth 23 = .ok (.if_icmp .ge 33, 3) := by decide +kernel
theorem d_J_volumeOfBoth_26 : decode c_J_volumeOfBoth 26 = .ok (.lload_n 2, 1) := by decide +kernel
theorem d_J_volumeOfBoth_27 : decode c_J_volumeOfBoth 27 = .ok (.aload_n 0, 1) := by decide +kernel
theorem d_J_volumeOfBoth_28 : decode c_J_volumeOfBoth 28 = .ok (.getfield 170, 3) := by decide +kernel
theorem d_J_volumeOfBoth_31 : decode c_J_volumeOfBoth 31 = .ok (.iload 4, 2) := by decide +kernel
theorem d_J_volumeOfBoth_33 : decode c_J_volumeOfBoth 33 = .ok (.bipush 6, 2) := by decide +kernel
theorem d_J_volumeOfBoth_35 : decode c_J_volumeOfBoth 35 = .ok (.imul, 1) := by decide +kernel
theorem d_J_volumeOfBoth_36 : decode c_J_volumeOfBoth 36 = .ok (.aload_n 1, 1) := by decide +kernel
theorem d_J_volumeOfBoth_37 : decode c_J_volumeOfBoth 37 = .ok (.getfield 170, 3) := by decide +kernel
theorem d_J_volumeOfBoth_40 : decode c_J_volumeOfBoth 40 = .ok (.iload 5, 2) := by decide +kernel
theorem d_J_volumeOfBoth_42 : decode c_J_volumeOfBoth 42 = .ok (.bipush 6, 2) := by decide +kernel
theorem d_J_volumeOfBoth_44 : decode c_J_volumeOfBoth 44 = .ok (.imul, 1) := by decide +kernel
theorem d_J_volumeOfBoth_45 : decode c_J_volumeOfBoth 45 = .ok (.invokestatic 232, 3) := by decide +kernel
theorem d_J_volumeOfBoth_48 : decode c_J_volumeOfBoth 48 = .ok (.ladd, 1) := by decide +kernel
theorem d_J_volumeOfBoth_49 : decode c_J_volumeOfBoth 49 = .ok (.lstore_n 2, 1) := by decide +kernel
theorem d_J_volumeOfBoth_50 : decode c_J_volumeOfBoth 50 = .ok (.iinc 5 1, 3) := by decide +kernel
theorem d_J_volumeOfBoth_53 : decode c_J_volumeOfBoth 53 = .ok (.goto (-36), 3) := by decide +kernel
theorem d_J_volumeOfBoth_56 : decode c_J_volumeOfBoth 56 = .ok (.iinc 4 1, 3) := by decide +kernel
theorem d_J_volumeOfBoth_59 : decode c_J_volumeOfBoth 59 = .ok (.goto (-54), 3) := by decide +kernel
theorem d_J_volumeOfBoth_62 : decode c_J_volumeOfBoth 62 = .ok (.lload_n 2, 1) := by decide +kernel
theorem d_J_volumeOfBoth_63 : decode c_J_volumeOfBoth 63 = .ok (.lreturn, 1) := by decide +kernel
theorem d_J_areaOfBoth_0 : decode c_J_areaOfBoth 0 = .ok (.lconst 0, 1) := by decide +kernel
theorem d_J_areaOfBoth_1 : decode c_J_areaOfBoth 1 = .ok (.lstore_n 2, 1) := by decide +kernel
theorem d_J_areaOfBoth_2 : decode c_J_areaOfBoth 2 = .ok (.iconst 0, 1) := by decide +kernel
theorem d_J_areaOfBoth_3 : decode c_J_areaOfBoth 3 = .ok (.istore 4, 2) := by decide +kernel
theorem d_J_areaOfBoth_5 : decode c_J_areaOfBoth 5 = .ok (.iload 4, 2) := by decide +kernel
theorem d_J_areaOfBoth_7 : decode c_J_areaOfBoth 7 = .ok (.aload_n 0, 1) := by decide +kernel
theorem d_J_areaOfBoth_8 : decode c_J_areaOfBoth 8 = .ok (.getfield 160, 3) := by decide +kernel
theorem d_J_areaOfBoth_11 : decode c_J_areaOfBoth 11 = .ok (.if_icmp .ge 51, 3) := by decide +kernel
theorem d_J_areaOfBoth_14 : decode c_J_areaOfBoth 14 = .ok (.iconst 0, 1) := by decide +kernel
theorem d_J_areaOfBoth_15 : decode c_J_areaOfBoth 15 = .ok (.istore 5, 2) := by decide +kernel
theorem d_J_areaOfBoth_17 : decode c_J_areaOfBoth 17 = .ok (.iload 5, 2) := by decide +kernel
theorem d_J_areaOfBoth_19 : decode c_J_areaOfBoth 19 = .ok (.aload_n 1, 1) := by decide +kernel
theorem d_J_areaOfBoth_20 : decode c_J_areaOfBoth 20 = .ok (.getfield 160, 3) := by decide +kernel
theorem d_J_areaOfBoth_23 : decode c_J_areaOfBoth 23 = .ok (.if_icmp .ge 33, 3) := by decide +kernel
theorem d_J_areaOfBoth_26 : decode c_J_areaOfBoth 26 = .ok (.lload_n 2, 1) := by decide +kernel
theorem d_J_areaOfBoth_27 : decode c_J_areaOfBoth 27 = .ok (.aload_n 0, 1) := by decide +kernel
theorem d_J_areaOfBoth_28 : decode c_J_areaOfBoth 28 = .ok (.getfield 170, 3) := by decide +kernel
theorem d_J_areaOfBoth_31 : decode c_J_areaOfBoth 31 = .ok (.iload 4, 2) := by decide +kernel
theorem d_J_areaOfBoth_33 : decode c_J_areaOfBoth 33 = .ok (.bipush 6, 2) := by decide +kernel
theorem d_J_areaOfBoth_35 : decode c_J_areaOfBoth 35 = .ok (.imul, 1) := by decide +kernel
theorem d_J_areaOfBoth_36 : decode c_J_areaOfBoth 36 = .ok (.aload_n 1, 1) := by decide +kernel
theorem d_J_areaOfBoth_37 : decode c_J_areaOfBoth 37 = .ok (.getfield 170, 3) := by decide +kernel
theorem d_J_areaOfBoth_40 : decode c_J_areaOfBoth 40 = .ok (.iload 5, 2) := by decide +kernel
theorem d_J_areaOfBoth_42 : decode c_J_areaOfBoth 42 = .ok (.bipush 6, 2) := by decide +kernel
theorem d_J_areaOfBoth_44 : decode c_J_areaOfBoth 44 = .ok (.imul, 1) := by decide +kernel
theorem d_J_areaOfBoth_45 : decode c_J_areaOfBoth 45 = .ok (.invokestatic 247, 3) := by decide +kernel
theorem d_J_areaOfBoth_48 : decode c_J_areaOfBoth 48 = .ok (.ladd, 1) := by decide +kernel
theorem d_J_areaOfBoth_49 : decode c_J_areaOfBoth 49 = .ok (.lstore_n 2, 1) := by decide +kernel
theorem d_J_areaOfBoth_50 : decode c_J_areaOfBoth 50 = .ok (.iinc 5 1, 3) := by decide +kernel
theorem d_J_areaOfBoth_53 : decode c_J_areaOfBoth 53 = .ok (.goto (-36), 3) := by decide +kernel
theorem d_J_areaOfBoth_56 : decode c_J_areaOfBoth 56 = .ok (.iinc 4 1, 3) := by decide +kernel
theorem d_J_areaOfBoth_59 : decode c_J_areaOfBoth 59 = .ok (.goto (-54), 3) := by decide +kernel
theorem d_J_areaOfBoth_62 : decode c_J_areaOfBoth 62 = .ok (.lload_n 2, 1) := by decide +kernel
theorem d_J_areaOfBoth_63 : decode c_J_areaOfBoth 63 = .ok (.lreturn, 1) := by decide +kernel
theorem d_J_lengthShared_0 : decode c_J_lengthShared 0 = .ok (.aload_n 0, 1) := by decide +kernel
theorem d_J_lengthShared_1 : decode c_J_lengthShared 1 = .ok (.iload_n 1, 1) := by decide +kernel
theorem d_J_lengthShared_2 : decode c_J_lengthShared 2 = .ok (.iload 4, 2) := by decide +kernel
theorem d_J_lengthShared_4 : decode c_J_lengthShared 4 = .ok (.iadd, 1) := by decide +kernel
theorem d_J_lengthShared_5 : decode c_J_lengthShared 5 = .ok (.iaload, 1) := by decide +kernel
theorem d_J_lengthShared_6 : decode c_J_lengthShared 6 = .ok (.aload_n 2, 1) := by decide +kernel
theorem d_J_lengthShared_7 : decode c_J_lengthShared 7 = .ok (.iload_n 3, 1) := by decide +kernel
theorem d_J_lengthShared_8 : decode c_J_lengthShared 8 = .ok (.iload 4, 2) := by decide +kernel
theorem d_J_lengthShared_10 : decode c_J_lengthShared 10 = .ok (.iadd, 1) := by decide +kernel
theorem d_J_lengthShared_11 : decode c_J_lengthShared 11 = .ok (.iaload, 1) := by decide +kernel
theorem d_J_lengthShared_12 : decode c_J_lengthShared 12 = .ok (.invokestatic 222, 3) := by decide +kernel
theorem d_J_lengthShared_15 : decode c_J_lengthShared 15 = .ok (.istore 5, 2) := by decide +kernel
theorem d_J_lengthShared_17 : decode c_J_lengthShared 17 = .ok (.aload_n 0, 1) := by decide +kernel
theorem d_J_lengthShared_18 : decode c_J_lengthShared 18 = .ok (.iload_n 1, 1) := by decide +kernel
theorem d_J_lengthShared_19 : decode c_J_lengthShared 19 = .ok (.iload 4, 2) := by decide +kernel
theorem d_J_lengthShared_21 : decode c_J_lengthShared 21 = .ok (.iadd, 1) := by decide +kernel
theorem d_J_lengthShared_22 : decode c_J_lengthShared 22 = .ok (.iconst 3, 1) := by decide +kernel
theorem d_J_lengthShared_23 : decode c_J_lengthShared 23 = .ok (.iadd, 1) := by decide +kernel
theorem d_J_lengthShared_24 : decode c_J_lengthShared 24 = .ok (.iaload, 1) := by decide +kernel
theorem d_J_lengthShared_25 : decode c_J_lengthShared 25 = .ok (.aload_n 2, 1) := by decide +kernel
theorem d_J_lengthShared_26 : decode c_J_lengthShared 26 = .ok (.iload_n 3, 1) := by decide +kernel
theorem d_J_lengthShared_27 : decode c_J_lengthShared 27 = .ok (.iload 4, 2) := by decide +kernel
theorem d_J_lengthShared_29 : decode c_J_lengthShared 29 = .ok (.iadd, 1) := by decide +kernel
theorem d_J_lengthShared_30 : decode c_J_lengthShared 30 = .ok (.iconst 3, 1) := by decide +kernel
theorem d_J_lengthShared_31 : decode c_J_lengthShared 31 = .ok (.iadd, 1) := by decide +kernel
theorem d_J_lengthShared_32 : decode c_J_lengthShared 32 = .ok (.iaload, 1) := by decide +kernel
theorem d_J_lengthShared_33 : decode c_J_lengthShared 33 = .ok (.invokestatic 217, 3) := by decide +kernel
theorem d_J_lengthShared_36 : decode c_J_lengthShared 36 = .ok (.istore 6, 2) := by decide +kernel
theorem d_J_lengthShared_38 : decode c_J_lengthShared 38 = .ok (.iload 6, 2) := by decide +kernel
theorem d_J_lengthShared_40 : decode c_J_lengthShared 40 = .ok (.iload 5, 2) := by decide +kernel
theorem d_J_lengthShared_42 : decode c_J_lengthShared 42 = .ok (.isub, 1) := by decide +kernel
theorem d_J_lengthShared_43 : decode c_J_lengthShared 43 = .ok (.ireturn, 1) := by decide +kernel
theorem d_J_volumeShared_0 : decode c_J_volumeShared 0 = .ok (.lconst 1, 1) := by decide +kernel
theorem d_J_volumeShared_1 : decode c_J_volumeShared 1 = .ok (.lstore 4, 2) := by decide +kernel
theorem d_J_volumeShared_3 : decode c_J_volumeShared 3 = .ok (.iconst 0, 1) := by decide +kernel
theorem d_J_volumeShared_4 : decode c_J_volumeShared 4 = .ok (.istore 6, 2) := by decide +kernel
theorem d_J_volumeShared_6 : decode c_J_volumeShared 6 = .ok (.iload 6, 2) := by decide +kernel
theorem d_J_volumeShared_8 : decode c_J_volumeShared 8 = .ok (.iconst 3, 1) := by decide +kernel
theorem d_J_volumeShared_9 : decode c_J_volumeShared 9 = .ok (.if_icmp .ge 28, 3) := by decide +kernel
theorem d_J_volumeShared_12 : decode c_J_volumeShared 12 = .ok (.lload 4, 2) := by decide +kernel
theorem d_J_volumeShared_14 : decode c_J_volumeShared 14 = .ok (.iconst 0, 1) := by decide +kernel
theorem d_J_volumeShared_15 : decode c_J_volumeShared 15 = .ok (.aload_n 0, 1) := by decide +kernel
theorem d_J_volumeShared_16 : decode c_J_volumeShared 16 = .ok (.iload_n 1, 1) := by decide +kernel
theorem d_J_volumeShared_17 : decode c_J_volumeShared 17 = .ok (.aload_n 2, 1) := by decide +kernel
theorem d_J_volumeShared_18 : decode c_J_volumeShared 18 = .ok (.iload_n 3, 1) := by decide +kernel
theorem d_J_volumeShared_19 : decode c_J_volumeShared 19 = .ok (.iload 6, 2) := by decide +kernel
theorem d_J_volumeShared_21 : decode c_J_volumeShared 21 = .ok (.invokestatic 250, 3) := by decide +kernel
theorem d_J_volumeShared_24 : decode c_J_volumeShared 24 = .ok (.invokestatic 222, 3) := by decide +kernel
theorem d_J_volumeShared_27 : decode c_J_volumeShared 27 = .ok (.i2l, 1) := by decide +kernel
theorem d_J_volumeShared_28 : decode c_J_volumeShared 28 = .ok (.lmul, 1) := by decide +kernel
theorem d_J_volumeShared_29 : decode c_J_volumeShared 29 = .ok (.lstore 4, 2) := by decide +kernel
theorem d_J_volumeShared_31 : decode c_J_volumeShared 31 = .ok (.iinc 6 1, 3) := by decide +kernel
theorem d_J_volumeShared_34 : decode c_J_volumeShared 34 = .ok (.goto (-28), 3) := by decide +kernel
theorem d_J_volumeShared_37 : decode c_J_volumeShared 37 = .ok (.lload 4, 2) := by decide +kernel
theorem d_J_volumeShared_39 : decode c_J_volumeShared 39 = .ok (.lreturn, 1) := by decide +kernel
theorem d_J_areaShared_0 : decode c_J_areaShared 0 = .ok (.lconst 1, 1) := by decide +kernel
theorem d_J_areaShared_1 : decode c_J_areaShared 1 = .ok (.lstore 4, 2) := by decide +kernel
theorem d_J_areaShared_3 : decode c_J_areaShared 3 = .ok (.iconst 0, 1) := by decide +kernel
theorem d_J_areaShared_4 : decode c_J_areaShared 4 = .ok (.istore 6, 2) := by decide +kernel
theorem d_J_areaShared_6 : decode c_J_areaShared 6 = .ok (.iconst 0, 1) := by decide +kernel
theorem d_J_areaShared_7 : decode c_J_areaShared 7 = .ok (.istore 7, 2) := by decide +kernel
theorem d_J_areaShared_9 : decode c_J_areaShared 9 = .ok (.iload 7, 2) := by decide +kernel
theorem d_J_areaShared_11 : decode c_J_areaShared 11 = .ok (.iconst 3, 1) := by decide +kernel
theorem d_J_areaShared_12 : decode c_J_areaShared 12 = .ok (.if_icmp .ge 43, 3) := by decide +kernel
theorem d_J_areaShared_15 : decode c_J_areaShared 15 = .ok (.aload_n 0, 1) := by decide +kernel
theorem d_J_areaShared_16 : decode c_J_areaShared 16 = .ok (.iload_n 1, 1) := by decide +kernel
theorem d_J_areaShared_17 : decode c_J_areaShared 17 = .ok (.aload_n 2, 1) := by decide +kernel
theorem d_J_areaShared_18 : decode c_J_areaShared 18 = .ok (.iload_n 3, 1) := by decide +kernel
theorem d_J_areaShared_19 : decode c_J_areaShared 19 = .ok (.iload 7, 2) := by decide +kernel
theorem d_J_areaShared_21 : decode c_J_areaShared 21 = .ok (.invokestatic 250, 3) := by decide +kernel
theorem d_J_areaShared_24 : decode c_J_areaShared 24 = .ok (.istore 8, 2) := by decide +kernel
theorem d_J_areaShared_26 : decode c_J_areaShared 26 = .ok (.iload 8, 2) := by decide +kernel
theorem d_J_areaShared_28 : decode c_J_areaShared 28 = .ok (.ifCond .ne 9, 3) := by decide +kernel
theorem d_J_areaShared_31 : decode c_J_areaShared 31 = .ok (.iinc 6 1, 3) := by decide +kernel
theorem d_J_areaShared_34 : decode c_J_areaShared 34 = .ok (.goto 15, 3) := by decide +kernel
theorem d_J_areaShared_37 : decode c_J_areaShared 37 = .ok (.lload 4, 2) := by decide +kernel
theorem d_J_areaShared_39 : decode c_J_areaShared 39 = .ok (.iconst 0, 1) := by decide +kernel
theorem d_J_areaShared_40 : decode c_J_areaShared 40 = .ok (.iload 8, 2) := by decide +kernel
theorem d_J_areaShared_42 : decode c_J_areaShared 42 = .ok (.invokestatic 222, 3) := by decide +kernel
theorem d_J_areaShared_45 : decode c_J_areaShared 45 = .ok (.i2l, 1) := by decide +kernel
theorem d_J_areaShared_46 : decode c_J_areaShared 46 = .ok (.lmul, 1) := by decide +kernel
theorem d_J_areaShared_47 : decode c_J_areaShared 47 = .ok (.lstore 4, 2) := by decide +kernel
theorem d_J_areaShared_49 : decode c_J_areaShared 49 = .ok (.iinc 7 1, 3) := by decide +kernel
theorem d_J_areaShared_52 : decode c_J_areaShared 52 = .ok (.goto (-43), 3) := by decide +kernel
theorem d_J_areaShared_55 : decode c_J_areaShared 55 = .ok (.iload 6, 2) := by decide +kernel
theorem d_J_areaShared_57 : decode c_J_areaShared 57 = .ok (.iconst 1, 1) := by decide +kernel
theorem d_J_areaShared_58 : decode c_J_areaShared 58 = .ok (.if_icmp .ne 8, 3) := by decide +kernel
theorem d_J_areaShared_61 : decode c_J_areaShared 61 = .ok (.lload 4, 2) := by decide +kernel
theorem d_J_areaShared_63 : decode c_J_areaShared 63 = .ok (.goto 4, 3) := by decide +kernel
theorem d_J_areaShared_66 : decode c_J_areaShared 66 = .ok (.lconst 0, 1) := by decide +kernel
theorem d_J_areaShared_67 : decode c_J_areaShared 67 = .ok (.lreturn, 1) := by decide +kernel
theorem d_K_init_0 : decode c_K_init 0 = .ok (.aload_n 0, 1) := by decide +kernel
theorem d_K_init_1 : decode c_K_init 1 = .ok (.invokespecial 1, 3) := by decide +kernel
theorem d_K_init_4 : decode c_K_init 4 = .ok (.aload_n 0, 1) := by decide +kernel
theorem d_K_init_5 : decode c_K_init 5 = .ok (.iload_n 1, 1) := by decide +kernel
theorem d_K_init_6 : decode c_K_init 6 = .ok (.putfield 7, 3) := by decide +kernel
theorem d_K_init_9 : decode c_K_init 9 = .ok (.aload_n 0, 1) := by decide +kernel
theorem d_K_init_10 : decode c_K_init 10 = .ok (.iload_n 2, 1) := by decide +kernel
theorem d_K_init_11 : decode c_K_init 11 = .ok (.putfield 13, 3) := by decide +kernel
theorem d_K_init_14 : decode c_K_init 14 = .ok (.aload_n 0, 1) := by decide +kernel
theorem d_K_init_15 : decode c_K_init 15 = .ok (.iload_n 3, 1) := by decide +kernel
theorem d_K_init_16 : decode c_K_init 16 = .ok (.putfield 16, 3) := by decide +kernel
theorem d_K_init_19 : decode c_K_init 19 = .ok (.aload_n 0, 1) := by decide +kernel
theorem d_K_init_20 : decode c_K_init 20 = .ok (.iload 4, 2) := by decide +kernel
theorem d_K_init_22 : decode c_K_init 22 = .ok (.putfield 19, 3) := by decide +kernel
theorem d_K_init_25 : decode c_K_init 25 = .ok (.return_, 1) := by decide +kernel
theorem d_S_init_0 : decode c_S_init 0 = .ok (.aload_n 0, 1) := by decide +kernel
theorem d_S_init_1 : decode c_S_init 1 = .ok (.invokespecial 3, 3) := by decide +kernel
theorem d_S_init_4 : decode c_S_init 4 = .ok (.aload_n 0, 1) := by decide +kernel
theorem d_S_init_5 : decode c_S_init 5 = .ok (.sipush 144, 3) := by decide +kernel
theorem d_S_init_8 : decode c_S_init 8 = .ok (.newarray .int, 2) := by decide +kernel
theorem d_S_init_10 : decode c_S_init 10 = .ok (.putfield 9, 3) := by decide +kernel
theorem d_S_init_13 : decode c_S_init 13 = .ok (.return_, 1) := by decide +kernel
theorem d_S_empty_0 : decode c_S_empty 0 = .ok (.aload_n 0, 1) := by decide +kernel
theorem d_S_empty_1 : decode c_S_empty 1 = .ok (.iconst 0, 1) := by decide +kernel
theorem d_S_empty_2 : decode c_S_empty 2 = .ok (.putfield 15, 3) := by decide +kernel
theorem d_S_empty_5 : decode c_S_empty 5 = .ok (.return_, 1) := by decide +kernel
theorem d_S_add_0 : decode c_S_add 0 = .ok (.aload_n 0, 1) := by decide +kernel
theorem d_S_add_1 : decode c_S_add 1 = .ok (.getfield 15, 3) := by decide +kernel
theorem d_S_add_4 : decode c_S_add 4 = .ok (.bipush 24, 2) := by decide +kernel
theorem d_S_add_6 : decode c_S_add 6 = .ok (.if_icmp .ge 21, 3) := by decide +kernel
theorem d_S_add_9 : decode c_S_add 9 = .ok (.aload_n 1, 1) := by decide +kernel
theorem d_S_add_10 : decode c_S_add 10 = .ok (.iload_n 2, 1) := by decide +kernel
theorem d_S_add_11 : decode c_S_add 11 = .ok (.aload_n 0, 1) := by decide +kernel
theorem d_S_add_12 : decode c_S_add 12 = .ok (.getfield 9, 3) := by decide +kernel
theorem d_S_add_15 : decode c_S_add 15 = .ok (.aload_n 0, 1) := by decide +kernel
theorem d_S_add_16 : decode c_S_add 16 = .ok (.getfield 15, 3) := by decide +kernel
theorem d_S_add_19 : decode c_S_add 19 = .ok (.bipush 6, 2) := by decide +kernel
theorem d_S_add_21 : decode c_S_add 21 = .ok (.imul, 1) := by decide +kernel
theorem d_S_add_22 : decode c_S_add 22 = .ok (.bipush 6, 2) := by decide +kernel
theorem d_S_add_24 : decode c_S_add 24 = .ok (.invokestatic 19, 3) := by decide +kernel
theorem d_S_add_27 : decode c_S_add 27 = .ok (.aload_n 0, 1) := by decide +kernel
theorem d_S_add_28 : decode c_S_add 28 = .ok (.dup, 1) := by decide +kernel
theorem d_S_add_29 : decode c_S_add 29 = .ok (.getfield 15, 3) := by decide +kernel
theorem d_S_add_32 : decode c_S_add 32 = .ok (.iconst 1, 1) := by decide +kernel
theorem d_S_add_33 : decode c_S_add 33 = .ok (.iadd, 1) := by decide +kernel
theorem d_S_add_34 : decode c_S_add 34 = .ok (.putfield 15, 3) := by decide +kernel
theorem d_S_add_37 : decode c_S_add 37 = .ok (.return_, 1) := by decide +kernel
theorem d_S_copy_0 : decode c_S_copy 0 = .ok (.aload_n 0, 1) := by decide +kernel
theorem d_S_copy_1 : decode c_S_copy 1 = .ok (.aload_n 1, 1) := by decide +kernel
theorem d_S_copy_2 : decode c_S_copy 2 = .ok (.getfield 15, 3) := by decide +kernel
theorem d_S_copy_5 : decode c_S_copy 5 = .ok (.bipush 24, 2) := by decide +kernel
theorem d_S_copy_7 : decode c_S_copy 7 = .ok (.invokestatic 25, 3) := by decide +kernel
theorem d_S_copy_10 : decode c_S_copy 10 = .ok (.putfield 15, 3) := by decide +kernel
theorem d_S_copy_13 : decode c_S_copy 13 = .ok (.aload_n 1, 1) := by decide +kernel
theorem d_S_copy_14 : decode c_S_copy 14 = .ok (.getfield 9, 3) := by decide +kernel
theorem d_S_copy_17 : decode c_S_copy 17 = .ok (.iconst 0, 1) := by decide +kernel
theorem d_S_copy_18 : decode c_S_copy 18 = .ok (.aload_n 0, 1) := by decide +kernel
theorem d_S_copy_19 : decode c_S_copy 19 = .ok (.getfield 9, 3) := by decide +kernel
theorem d_S_copy_22 : decode c_S_copy 22 = .ok (.iconst 0, 1) := by decide +kernel
theorem d_S_copy_23 : decode c_S_copy 23 = .ok (.aload_n 0, 1) := by decide +kernel
theorem d_S_copy_24 : decode c_S_copy 24 = .ok (.getfield 15, 3) := by decide +kernel
theorem d_S_copy_27 : decode c_S_copy 27 = .ok (.bipush 6, 2) := by decide +kernel
theorem d_S_copy_29 : decode c_S_copy 29 = .ok (.imul, 1) := by decide +kernel
theorem d_S_copy_30 : decode c_S_copy 30 = .ok (.invokestatic 19, 3) := by decide +kernel
theorem d_S_copy_33 : decode c_S_copy 33 = .ok (.return_, 1) := by decide +kernel
theorem d_S_total_0 : decode c_S_total 0 = .ok (.lconst 0, 1) := by decide +kernel
theorem d_S_total_1 : decode c_S_total 1 = .ok (.lstore_n 1, 1) := by decide +kernel
theorem d_S_total_2 : decode c_S_total 2 = .ok (.iconst 0, 1) := by decide +kernel
theorem d_S_total_3 : decode c_S_total 3 = .ok (.istore_n 3, 1) := by decide +kernel
theorem d_S_total_4 : decode c_S_total 4 = .ok (.iload_n 3, 1) := by decide +kernel
theorem d_S_total_5 : decode c_S_total 5 = .ok (.aload_n 0, 1) := by decide +kernel
theorem d_S_total_6 : decode c_S_total 6 = .ok (.getfield 15, 3) := by decide +kernel
theorem d_S_total_9 : decode c_S_total 9 = .ok (.if_icmp .ge 33, 3) := by decide +kernel
theorem d_S_total_12 : decode c_S_total 12 = .ok (.iload_n 3, 1) := by decide +kernel
theorem d_S_total_13 : decode c_S_total 13 = .ok (.bipush 6, 2) := by decide +kernel
theorem d_S_total_15 : decode c_S_total 15 = .ok (.imul, 1) := by decide +kernel
theorem d_S_total_16 : decode c_S_total 16 = .ok (.istore 4, 2) := by decide +kernel
theorem d_S_total_18 : decode c_S_total 18 = .ok (.lload_n 1, 1) := by decide +kernel
theorem d_S_total_19 : decode c_S_total 19 = .ok (.aload_n 0, 1) := by decide +kernel
theorem d_S_total_20 : decode c_S_total 20 = .ok (.getfield 9, 3) := by decide +kernel
theorem d_S_total_23 : decode c_S_total 23 = .ok (.iload 4, 2) := by decide +kernel
theorem d_S_total_25 : decode c_S_total 25 = .ok (.aload_n 0, 1) := by decide +kernel
theorem d_S_total_26 : decode c_S_total 26 = .ok (.getfield 9, 3) := by decide +kernel
theorem d_S_total_29 : decode c_S_total 29 = .ok (.iload 4, 2) := by decide +kernel
theorem d_S_total_31 : decode c_S_total 31 = .ok (.invokestatic 31, 3) := by decide +kernel
theorem d_S_total_34 : decode c_S_total 34 = .ok (.ladd, 1) := by decide +kernel
theorem d_S_total_35 : decode c_S_total 35 = .ok (.lstore_n 1, 1) := by decide +kernel
theorem d_S_total_36 : decode c_S_total 36 = .ok (.iinc 3 1, 3) := by decide +kernel
theorem d_S_total_39 : decode c_S_total 39 = .ok (.goto (-35), 3) := by decide +kernel
theorem d_S_total_42 : decode c_S_total 42 = .ok (.lload_n 1, 1) := by decide +kernel
theorem d_S_total_43 : decode c_S_total 43 = .ok (.lreturn, 1) := by decide +kernel
theorem d_S_holds_0 : decode c_S_holds 0 = .ok (.iconst 0, 1) := by decide +kernel
theorem d_S_holds_1 : decode c_S_holds 1 = .ok (.istore 4, 2) := by decide +kernel
theorem d_S_holds_3 : decode c_S_holds 3 = .ok (.iload 4, 2) := by decide +kernel
theorem d_S_holds_5 : decode c_S_holds 5 = .ok (.aload_n 0, 1) := by decide +kernel
theorem d_S_holds_6 : decode c_S_holds 6 = .ok (.getfield 15, 3) := by decide +kernel
theorem d_S_holds_9 : decode c_S_holds 9 = .ok (.if_icmp .ge 94, 3) := by decide +kernel
theorem d_S_holds_12 : decode c_S_holds 12 = .ok (.iload 4, 2) := by decide +kernel
theorem d_S_holds_14 : decode c_S_holds 14 = .ok (.bipush 6, 2) := by decide +kernel
theorem d_S_holds_16 : decode c_S_holds 16 = .ok (.imul, 1) := by decide +kernel
theorem d_S_holds_17 : decode c_S_holds 17 = .ok (.istore 5, 2) := by decide +kernel
theorem d_S_holds_19 : decode c_S_holds 19 = .ok (.aload_n 0, 1) := by decide +kernel
theorem d_S_holds_20 : decode c_S_holds 20 = .ok (.getfield 9, 3) := by decide +kernel
theorem d_S_holds_23 : decode c_S_holds 23 = .ok (.iload 5, 2) := by decide +kernel
theorem d_S_holds_25 : decode c_S_holds 25 = .ok (.iaload, 1) := by decide +kernel
theorem d_S_holds_26 : decode c_S_holds 26 = .ok (.iload_n 1, 1) := by decide +kernel
theorem d_S_holds_27 : decode c_S_holds 27 = .ok (.if_icmp .gt 70, 3) := by decide +kernel
theorem d_S_holds_30 : decode c_S_holds 30 = .ok (.iload_n 1, 1) := by decide +kernel
theorem d_S_holds_31 : decode c_S_holds 31 = .ok (.aload_n 0, 1) := by decide +kernel
theorem d_S_holds_32 : decode c_S_holds 32 = .ok (.getfield 9, 3) := by decide +kernel
theorem d_S_holds_35 : decode c_S_holds 35 = .ok (.iload 5, 2) := by decide +kernel
theorem d_S_holds_37 : decode c_S_holds 37 = .ok (.iconst 3, 1) := by decide +kernel
theorem d_S_holds_38 : decode c_S_holds 38 = .ok (.iadd, 1) := by decide +kernel
theorem d_S_holds_39 : decode c_S_holds 39 = .ok (.iaload, 1) := by decide +kernel
theorem d_S_holds_40 : decode c_S_holds 40 = .ok (.if_icmp .gt 57, 3) := by decide +kernel
theorem d_S_holds_43 : decode c_S_holds 43 = .ok (.aload_n 0, 1) := by decide +kernel
theorem d_S_holds_44 : decode c_S_holds 44 = .ok (.getfield 9, 3) := by decide +kernel
theorem d_S_holds_47 : decode c_S_holds 47 = .ok (.iload 5, 2) := by decide +kernel
theorem d_S_holds_49 : decode c_S_holds 49 = .ok (.iconst 1, 1) := by decide +kernel
theorem d_S_holds_50 : decode c_S_holds 50 = .ok (.iadd, 1) := by decide +kernel
theorem d_S_holds_51 : decode c_S_holds 51 = .ok (.iaload, 1) := by decide +kernel
theorem d_S_holds_52 : decode c_S_holds 52 = .ok (.iload_n 2, 1) := by decide +kernel
theorem d_S_holds_53 : decode c_S_holds 53 = .ok (.if_icmp .gt 44, 3) := by decide +kernel
theorem d_S_holds_56 : decode c_S_holds 56 = .ok (.iload_n 2, 1) := by decide +kernel
theorem d_S_holds_57 : decode c_S_holds 57 = .ok (.aload_n 0, 1) := by decide +kernel
theorem d_S_holds_58 : decode c_S_holds 58 = .ok (.getfield 9, 3) := by decide +kernel
theorem d_S_holds_61 : decode c_S_holds 61 = .ok (.iload 5, 2) := by decide +kernel
theorem d_S_holds_63 : decode c_S_holds 63 = .ok (.iconst 4, 1) := by decide +kernel
theorem d_S_holds_64 : decode c_S_holds 64 = .ok (.iadd, 1) := by decide +kernel
theorem d_S_holds_65 : decode c_S_holds 65 = .ok (.iaload, 1) := by decide +kernel
theorem d_S_holds_66 : decode c_S_holds 66 = .ok (.if_icmp .gt 31, 3) := by decide +kernel
theorem d_S_holds_69 : decode c_S_holds 69 = .ok (.aload_n 0, 1) := by decide +kernel
theorem d_S_holds_70 : decode c_S_holds 70 = .ok (.getfield 9, 3) := by decide +kernel
theorem d_S_holds_73 : decode c_S_holds 73 = .ok (.iload 5, 2) := by decide +kernel
theorem d_S_holds_75 : decode c_S_holds 75 = .ok (.iconst 2, 1) := by decide +kernel
theorem d_S_holds_76 : decode c_S_holds 76 = .ok (.iadd, 1) := by decide +kernel
theorem d_S_holds_77 : decode c_S_holds 77 = .ok (.iaload, 1) := by decide +kernel
theorem d_S_holds_78 : decode c_S_holds 78 = .ok (.iload_n 3, 1) := by decide +kernel
theorem d_S_holds_79 : decode c_S_holds 79 = .ok (.if_icmp .gt 18, 3) := by decide +kernel
theorem d_S_holds_82 : decode c_S_holds 82 = .ok (.iload_n 3, 1) := by decide +kernel
theorem d_S_holds_83 : decode c_S_holds 83 = .ok (.aload_n 0, 1) := by decide +kernel
theorem d_S_holds_84 : decode c_S_holds 84 = .ok (.getfield 9, 3) := by decide +kernel
theorem d_S_holds_87 : decode c_S_holds 87 = .ok (.iload 5, 2) := by decide +kernel
theorem d_S_holds_89 : decode c_S_holds 89 = .ok (.iconst 5, 1) := by decide +kernel
theorem d_S_holds_90 : decode c_S_holds 90 = .ok (.iadd, 1) := by decide +kernel
theorem d_S_holds_91 : decode c_S_holds 91 = .ok (.iaload, 1) := by decide +kernel
theorem d_S_holds_92 : decode c_S_holds 92 = .ok (.if_icmp .gt 5, 3) := by decide +kernel
theorem d_S_holds_95 : decode c_S_holds 95 = .ok (.iconst 1, 1) := by decide +kernel
theorem d_S_holds_96 : decode c_S_holds 96 = .ok (.ireturn, 1) := by decide +kernel
theorem d_S_holds_97 : decode c_S_holds 97 = .ok (.iinc 4 1, 3) := by decide +kernel
theorem d_S_holds_100 : decode c_S_holds 100 = .ok (.goto (-97), 3) := by decide +kernel
theorem d_S_holds_103 : decode c_S_holds 103 = .ok (.iconst 0, 1) := by decide +kernel
theorem d_S_holds_104 : decode c_S_holds 104 = .ok (.ireturn, 1) := by decide +kernel
