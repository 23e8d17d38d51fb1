theorem dX6_init_0 : decode cX6_init 0 = .ok (.aload_n 0, 1) := by decide +kernel
theorem dX6_init_1 : decode cX6_init 1 = .ok (.invokespecial 3, 3) := by decide +kernel
theorem dX6_init_4 : decode cX6_init 4 = .ok (.aload_n 0, 1) := by decide +kernel
theorem dX6_init_5 : decode cX6_init 5 = .ok (.new 9, 3) := by decide +kernel
theorem dX6_init_8 : decode cX6_init 8 = .ok (.dup, 1) := by decide +kernel
theorem dX6_init_9 : decode cX6_init 9 = .ok (.invokespecial 11, 3) := by decide +kernel
theorem dX6_init_12 : decode cX6_init 12 = .ok (.putfield 12, 3) := by decide +kernel
theorem dX6_init_15 : decode cX6_init 15 = .ok (.aload_n 0, 1) := by decide +kernel
theorem dX6_init_16 : decode cX6_init 16 = .ok (.new 9, 3) := by decide +kernel
theorem dX6_init_19 : decode cX6_init 19 = .ok (.dup, 1) := by decide +kernel
theorem dX6_init_20 : decode cX6_init 20 = .ok (.invokespecial 11, 3) := by decide +kernel
theorem dX6_init_23 : decode cX6_init 23 = .ok (.putfield 16, 3) := by decide +kernel
theorem dX6_init_26 : decode cX6_init 26 = .ok (.aload_n 0, 1) := by decide +kernel
theorem dX6_init_27 : decode cX6_init 27 = .ok (.new 9, 3) := by decide +kernel
theorem dX6_init_30 : decode cX6_init 30 = .ok (.dup, 1) := by decide +kernel
theorem dX6_init_31 : decode cX6_init 31 = .ok (.invokespecial 11, 3) := by decide +kernel
theorem dX6_init_34 : decode cX6_init 34 = .ok (.putfield 19, 3) := by decide +kernel
theorem dX6_init_37 : decode cX6_init 37 = .ok (.aload_n 0, 1) := by decide +kernel
theorem dX6_init_38 : decode cX6_init 38 = .ok (.new 22, 3) := by decide +kernel
theorem dX6_init_41 : decode cX6_init 41 = .ok (.dup, 1) := by decide +kernel
theorem dX6_init_42 : decode cX6_init 42 = .ok (.invokespecial 24, 3) := by decide +kernel
theorem dX6_init_45 : decode cX6_init 45 = .ok (.putfield 25, 3) := by decide +kernel
theorem dX6_init_48 : decode cX6_init 48 = .ok (.aload_n 0, 1) := by decide +kernel
theorem dX6_init_49 : decode cX6_init 49 = .ok (.bipush 12, 2) := by decide +kernel
theorem dX6_init_51 : decode cX6_init 51 = .ok (.newarray .int, 2) := by decide +kernel
theorem dX6_init_53 : decode cX6_init 53 = .ok (.putfield 29, 3) := by decide +kernel
theorem dX6_init_56 : decode cX6_init 56 = .ok (.aload_n 0, 1) := by decide +kernel
theorem dX6_init_57 : decode cX6_init 57 = .ok (.new 33, 3) := by decide +kernel
theorem dX6_init_60 : decode cX6_init 60 = .ok (.dup, 1) := by decide +kernel
theorem dX6_init_61 : decode cX6_init 61 = .ok (.invokespecial 35, 3) := by decide +kernel
theorem dX6_init_64 : decode cX6_init 64 = .ok (.putfield 36, 3) := by decide +kernel
theorem dX6_init_67 : decode cX6_init 67 = .ok (.aload_n 0, 1) := by decide +kernel
theorem dX6_init_68 : decode cX6_init 68 = .ok (.new 40, 3) := by decide +kernel
theorem dX6_init_71 : decode cX6_init 71 = .ok (.dup, 1) := by decide +kernel
theorem dX6_init_72 : decode cX6_init 72 = .ok (.invokespecial 42, 3) := by decide +kernel
theorem dX6_init_75 : decode cX6_init 75 = .ok (.putfield 43, 3) := by decide +kernel
theorem dX6_init_78 : decode cX6_init 78 = .ok (.aload_n 0, 1) := by decide +kernel
theorem dX6_init_79 : decode cX6_init 79 = .ok (.new 47, 3) := by decide +kernel
theorem dX6_init_82 : decode cX6_init 82 = .ok (.dup, 1) := by decide +kernel
theorem dX6_init_83 : decode cX6_init 83 = .ok (.invokespecial 49, 3) := by decide +kernel
theorem dX6_init_86 : decode cX6_init 86 = .ok (.putfield 50, 3) := by decide +kernel
theorem dX6_init_89 : decode cX6_init 89 = .ok (.aload_n 0, 1) := by decide +kernel
theorem dX6_init_90 : decode cX6_init 90 = .ok (.bipush 7, 2) := by decide +kernel
theorem dX6_init_92 : decode cX6_init 92 = .ok (.newarray .int, 2) := by decide +kernel
theorem dX6_init_94 : decode cX6_init 94 = .ok (.putfield 54, 3) := by decide +kernel
theorem dX6_init_97 : decode cX6_init 97 = .ok (.aload_n 0, 1) := by decide +kernel
theorem dX6_init_98 : decode cX6_init 98 = .ok (.iconst 0, 1) := by decide +kernel
theorem dX6_init_99 : decode cX6_init 99 = .ok (.putfield 57, 3) := by decide +kernel
theorem dX6_init_102 : decode cX6_init 102 = .ok (.return_, 1) := by decide +kernel
theorem dX6_plank_0 : decode cX6_plank 0 = .ok (.iload_n 1, 1) := by decide +kernel
theorem dX6_plank_1 : decode cX6_plank 1 = .ok (.invokestatic 61, 3) := by decide +kernel
theorem dX6_plank_4 : decode cX6_plank 4 = .ok (.ifCond .eq 10, 3) := by decide +kernel
theorem dX6_plank_7 : decode cX6_plank 7 = .ok (.iload_n 2, 1) := by decide +kernel
theorem dX6_plank_8 : decode cX6_plank 8 = .ok (.invokestatic 65, 3) := by decide +kernel
theorem dX6_plank_11 : decode cX6_plank 11 = .ok (.ifCond .ne 10, 3) := by decide +kernel
theorem dX6_plank_14 : decode cX6_plank 14 = .ok (.aload_n 0, 1) := by decide +kernel
theorem dX6_plank_15 : decode cX6_plank 15 = .ok (.ldc 68, 2) := by decide +kernel
theorem dX6_plank_17 : decode cX6_plank 17 = .ok (.invokevirtual 69, 3) := by decide +kernel
theorem dX6_plank_20 : decode cX6_plank 20 = .ok (.ireturn, 1) := by decide +kernel
theorem dX6_plank_21 : decode cX6_plank 21 = .ok (.aload_n 0, 1) := by decide +kernel
theorem dX6_plank_22 : decode cX6_plank 22 = .ok (.getfield 12, 3) := by decide +kernel
theorem dX6_plank_25 : decode cX6_plank 25 = .ok (.getfield 73, 3) := by decide +kernel
theorem dX6_plank_28 : decode cX6_plank 28 = .ok (.iload_n 1, 1) := by decide +kernel
theorem dX6_plank_29 : decode cX6_plank 29 = .ok (.iaload, 1) := by decide +kernel
theorem dX6_plank_30 : decode cX6_plank 30 = .ok (.istore_n 3, 1) := by decide +kernel
theorem dX6_plank_31 : decode cX6_plank 31 = .ok (.aload_n 0, 1) := by decide +kernel
theorem dX6_plank_32 : decode cX6_plank 32 = .ok (.getfield 12, 3) := by decide +kernel
theorem dX6_plank_35 : decode cX6_plank 35 = .ok (.getfield 73, 3) := by decide +kernel
theorem dX6_plank_38 : decode cX6_plank 38 = .ok (.iload_n 1, 1) := by decide +kernel
theorem dX6_plank_39 : decode cX6_plank 39 = .ok (.iload_n 2, 1) := by decide +kernel
theorem dX6_plank_40 : decode cX6_plank 40 = .ok (.iastore, 1) := by decide +kernel
theorem dX6_plank_41 : decode cX6_plank 41 = .ok (.iload_n 3, 1) := by decide +kernel
theorem dX6_plank_42 : decode cX6_plank 42 = .ok (.ireturn, 1) := by decide +kernel
theorem dX6_keeps_0 : decode cX6_keeps 0 = .ok (.iload_n 1, 1) := by decide +kernel
theorem dX6_keeps_1 : decode cX6_keeps 1 = .ok (.invokestatic 61, 3) := by decide +kernel
theorem dX6_keeps_4 : decode cX6_keeps 4 = .ok (.ifCond .eq 15, 3) := by decide +kernel
theorem dX6_keeps_7 : decode cX6_keeps 7 = .ok (.aload_n 0, 1) := by decide +kernel
theorem dX6_keeps_8 : decode cX6_keeps 8 = .ok (.getfield 12, 3) := by decide +kernel
theorem dX6_keeps_11 : decode cX6_keeps 11 = .ok (.getfield 73, 3) := by decide +kernel
theorem dX6_keeps_14 : decode cX6_keeps 14 = .ok (.iload_n 1, 1) := by decide +kernel
theorem dX6_keeps_15 : decode cX6_keeps 15 = .ok (.iaload, 1) := by decide +kernel
theorem dX6_keeps_16 : decode cX6_keeps 16 = .ok (.goto 9, 3) := by decide +kernel
theorem dX6_keeps_19 : decode cX6_keeps 19 = .ok (.aload_n 0, 1) := by decide +kernel
theorem dX6_keeps_20 : decode cX6_keeps 20 = .ok (.ldc 68, 2) := by decide +kernel
theorem dX6_keeps_22 : decode cX6_keeps 22 = .ok (.invokevirtual 69, 3) := by decide +kernel
theorem dX6_keeps_25 : decode cX6_keeps 25 = .ok (.ireturn, 1) := by decide +kernel
theorem dX6_walker_0 : decode cX6_walker 0 = .ok (.iload_n 1, 1) := by decide +kernel
theorem dX6_walker_1 : decode cX6_walker 1 = .ok (.invokestatic 76, 3) := by decide +kernel
theorem dX6_walker_4 : decode cX6_walker 4 = .ok (.ifCond .eq 10, 3) := by decide +kernel
theorem dX6_walker_7 : decode cX6_walker 7 = .ok (.iload_n 2, 1) := by decide +kernel
theorem dX6_walker_8 : decode cX6_walker 8 = .ok (.invokestatic 65, 3) := by decide +kernel
theorem dX6_walker_11 : decode cX6_walker 11 = .ok (.ifCond .ne 10, 3) := by decide +kernel
theorem dX6_walker_14 : decode cX6_walker 14 = .ok (.aload_n 0, 1) := by decide +kernel
theorem dX6_walker_15 : decode cX6_walker 15 = .ok (.ldc 68, 2) := by decide +kernel
theorem dX6_walker_17 : decode cX6_walker 17 = .ok (.invokevirtual 69, 3) := by decide +kernel
theorem dX6_walker_20 : decode cX6_walker 20 = .ok (.ireturn, 1) := by decide +kernel
theorem dX6_walker_21 : decode cX6_walker 21 = .ok (.aload_n 0, 1) := by decide +kernel
theorem dX6_walker_22 : decode cX6_walker 22 = .ok (.getfield 12, 3) := by decide +kernel
theorem dX6_walker_25 : decode cX6_walker 25 = .ok (.invokevirtual 79, 3) := by decide +kernel
theorem dX6_walker_28 : decode cX6_walker 28 = .ok (.ifCond .eq 10, 3) := by decide +kernel
theorem dX6_walker_31 : decode cX6_walker 31 = .ok (.aload_n 0, 1) := by decide +kernel
theorem dX6_walker_32 : decode cX6_walker 32 = .ok (.ldc 83, 2) := by decide +kernel
theorem dX6_walker_34 : decode cX6_walker 34 = .ok (.invokevirtual 69, 3) := by decide +kernel
theorem dX6_walker_37 : decode cX6_walker 37 = .ok (.ireturn, 1) := by decide +kernel
theorem dX6_walker_38 : decode cX6_walker 38 = .ok (.aload_n 0, 1) := by decide +kernel
theorem dX6_walker_39 : decode cX6_walker 39 = .ok (.getfield 12, 3) := by decide +kernel
theorem dX6_walker_42 : decode cX6_walker 42 = .ok (.iload_n 1, 1) := by decide +kernel
theorem dX6_walker_43 : decode cX6_walker 43 = .ok (.iload_n 2, 1) := by decide +kernel
theorem dX6_walker_44 : decode cX6_walker 44 = .ok (.bipush 30, 2) := by decide +kernel
theorem dX6_walker_46 : decode cX6_walker 46 = .ok (.invokevirtual 84, 3) := by decide +kernel
theorem dX6_walker_49 : decode cX6_walker 49 = .ok (.ireturn, 1) := by decide +kernel
theorem dX6_of_0 : decode cX6_of 0 = .ok (.aload_n 0, 1) := by decide +kernel
theorem dX6_of_1 : decode cX6_of 1 = .ok (.getfield 12, 3) := by decide +kernel
theorem dX6_of_4 : decode cX6_of 4 = .ok (.iload_n 1, 1) := by decide +kernel
theorem dX6_of_5 : decode cX6_of 5 = .ok (.invokevirtual 88, 3) := by decide +kernel
theorem dX6_of_8 : decode cX6_of 8 = .ok (.ifCond .ne 10, 3) := by decide +kernel
theorem dX6_of_11 : decode cX6_of 11 = .ok (.aload_n 0, 1) := by decide +kernel
theorem dX6_of_12 : decode cX6_of 12 = .ok (.ldc 68, 2) := by decide +kernel
theorem dX6_of_14 : decode cX6_of 14 = .ok (.invokevirtual 69, 3) := by decide +kernel
theorem dX6_of_17 : decode cX6_of 17 = .ok (.ireturn, 1) := by decide +kernel
theorem dX6_of_18 : decode cX6_of 18 = .ok (.iload_n 2, 1) := by decide +kernel
theorem dX6_of_19 : decode cX6_of 19 = .ok (.tableswitch 95 0 5 #[37, 47, 57, 67, 77, 86], 37) := by decide +kernel
theorem dX6_of_56 : decode cX6_of 56 = .ok (.aload_n 0, 1) := by decide +kernel
theorem dX6_of_57 : decode cX6_of 57 = .ok (.getfield 12, 3) := by decide +kernel
theorem dX6_of_60 : decode cX6_of 60 = .ok (.getfield 91, 3) := by decide +kernel
theorem dX6_of_63 : decode cX6_of 63 = .ok (.iload_n 1, 1) := by decide +kernel
theorem dX6_of_64 : decode cX6_of 64 = .ok (.iaload, 1) := by decide +kernel
theorem dX6_of_65 : decode cX6_of 65 = .ok (.ireturn, 1) := by decide +kernel
theorem dX6_of_66 : decode cX6_of 66 = .ok (.aload_n 0, 1) := by decide +kernel
theorem dX6_of_67 : decode cX6_of 67 = .ok (.getfield 12, 3) := by decide +kernel
theorem dX6_of_70 : decode cX6_of 70 = .ok (.getfield 94, 3) := by decide +kernel
theorem dX6_of_73 : decode cX6_of 73 = .ok (.iload_n 1, 1) := by decide +kernel
theorem dX6_of_74 : decode cX6_of 74 = .ok (.iaload, 1) := by decide +kernel
theorem dX6_of_75 : decode cX6_of 75 = .ok (.ireturn, 1) := by decide +kernel
theorem dX6_of_76 : decode cX6_of 76 = .ok (.aload_n 0, 1) := by decide +kernel
theorem dX6_of_77 : decode cX6_of 77 = .ok (.getfield 12, 3) := by decide +kernel
theorem dX6_of_80 : decode cX6_of 80 = .ok (.getfield 97, 3) := by decide +kernel
theorem dX6_of_83 : decode cX6_of 83 = .ok (.iload_n 1, 1) := by decide +kernel
theorem dX6_of_84 : decode cX6_of 84 = .ok (.iaload, 1) := by decide +kernel
theorem dX6_of_85 : decode cX6_of 85 = .ok (.ireturn, 1) := by decide +kernel
theorem dX6_of_86 : decode cX6_of 86 = .ok (.aload_n 0, 1) := by decide +kernel
theorem dX6_of_87 : decode cX6_of 87 = .ok (.getfield 12, 3) := by decide +kernel
theorem dX6_of_90 : decode cX6_of 90 = .ok (.getfield 100, 3) := by decide +kernel
theorem dX6_of_93 : decode cX6_of 93 = .ok (.iload_n 1, 1) := by decide +kernel
theorem dX6_of_94 : decode cX6_of 94 = .ok (.iaload, 1) := by decide +kernel
theorem dX6_of_95 : decode cX6_of 95 = .ok (.ireturn, 1) := by decide +kernel
theorem dX6_of_96 : decode cX6_of 96 = .ok (.aload_n 0, 1) := by decide +kernel
theorem dX6_of_97 : decode cX6_of 97 = .ok (.getfield 12, 3) := by decide +kernel
theorem dX6_of_100 : decode cX6_of 100 = .ok (.iload_n 1, 1) := by decide +kernel
theorem dX6_of_101 : decode cX6_of 101 = .ok (.invokevirtual 103, 3) := by decide +kernel
theorem dX6_of_104 : decode cX6_of 104 = .ok (.ireturn, 1) := by decide +kernel
theorem dX6_of_105 : decode cX6_of 105 = .ok (.aload_n 0, 1) := by decide +kernel
theorem dX6_of_106 : decode cX6_of 106 = .ok (.getfield 12, 3) := by decide +kernel
theorem dX6_of_109 : decode cX6_of 109 = .ok (.iload_n 1, 1) := by decide +kernel
theorem dX6_of_110 : decode cX6_of 110 = .ok (.invokevirtual 106, 3) := by decide +kernel
theorem dX6_of_113 : decode cX6_of 113 = .ok (.ireturn, 1) := by decide +kernel
theorem dX6_of_114 : decode cX6_of 114 = .ok (.aload_n 0, 1) := by decide +kernel
theorem dX6_of_115 : decode cX6_of 115 = .ok (.ldc 68, 2) := by decide +kernel
theorem dX6_of_117 : decode cX6_of 117 = .ok (.invokevirtual 69, 3) := by decide +kernel
theorem dX6_of_120 : decode cX6_of 120 = .ok (.ireturn, 1) := by decide +kernel
theorem dX6_change_0 : decode cX6_change 0 = .ok (.aload_n 0, 1) := by decide +kernel
theorem dX6_change_1 : decode cX6_change 1 = .ok (.getfield 12, 3) := by decide +kernel
theorem dX6_change_4 : decode cX6_change 4 = .ok (.iload_n 1, 1) := by decide +kernel
theorem dX6_change_5 : decode cX6_change 5 = .ok (.invokevirtual 88, 3) := by decide +kernel
theorem dX6_change_8 : decode cX6_change 8 = .ok (.ifCond .eq 7, 3) := by decide +kernel
theorem dX6_change_11 : decode cX6_change 11 = .ok (.iload_n 3, 1) := by decide +kernel
theorem dX6_change_12 : decode cX6_change 12 = .ok (.ifCond .ge 10, 3) := by decide +kernel
theorem dX6_change_15 : decode cX6_change 15 = .ok (.aload_n 0, 1) := by decide +kernel
theorem dX6_change_16 : decode cX6_change 16 = .ok (.ldc 68, 2) := by decide +kernel
theorem dX6_change_18 : decode cX6_change 18 = .ok (.invokevirtual 69, 3) := by decide +kernel
theorem dX6_change_21 : decode cX6_change 21 = .ok (.ireturn, 1) := by decide +kernel
theorem dX6_change_22 : decode cX6_change 22 = .ok (.iload_n 2, 1) := by decide +kernel
theorem dX6_change_23 : decode cX6_change 23 = .ok (.tableswitch 142 0 3 #[29, 57, 85, 113], 29) := by decide +kernel
theorem dX6_change_52 : decode cX6_change 52 = .ok (.iload_n 3, 1) := by decide +kernel
theorem dX6_change_53 : decode cX6_change 53 = .ok (.bipush 6, 2) := by decide +kernel
theorem dX6_change_55 : decode cX6_change 55 = .ok (.if_icmp .gt 18, 3) := by decide +kernel
theorem dX6_change_58 : decode cX6_change 58 = .ok (.aload_n 0, 1) := by decide +kernel
theorem dX6_change_59 : decode cX6_change 59 = .ok (.getfield 12, 3) := by decide +kernel
theorem dX6_change_62 : decode cX6_change 62 = .ok (.getfield 91, 3) := by decide +kernel
theorem dX6_change_65 : decode cX6_change 65 = .ok (.iload_n 1, 1) := by decide +kernel
theorem dX6_change_66 : decode cX6_change 66 = .ok (.iload_n 3, 1) := by decide +kernel
theorem dX6_change_67 : decode cX6_change 67 = .ok (.invokestatic 109, 3) := by decide +kernel
theorem dX6_change_70 : decode cX6_change 70 = .ok (.goto 9, 3) := by decide +kernel
theorem dX6_change_73 : decode cX6_change 73 = .ok (.aload_n 0, 1) := by decide +kernel
theorem dX6_change_74 : decode cX6_change 74 = .ok (.ldc 68, 2) := by decide +kernel
theorem dX6_change_76 : decode cX6_change 76 = .ok (.invokevirtual 69, 3) := by decide +kernel
theorem dX6_change_79 : decode cX6_change 79 = .ok (.ireturn, 1) := by decide +kernel
theorem dX6_change_80 : decode cX6_change 80 = .ok (.iload_n 3, 1) := by decide +kernel
theorem dX6_change_81 : decode cX6_change 81 = .ok (.bipush 99, 2) := by decide +kernel
theorem dX6_change_83 : decode cX6_change 83 = .ok (.if_icmp .gt 18, 3) := by decide +kernel
theorem dX6_change_86 : decode cX6_change 86 = .ok (.aload_n 0, 1) := by decide +kernel
theorem dX6_change_87 : decode cX6_change 87 = .ok (.getfield 12, 3) := by decide +kernel
theorem dX6_change_90 : decode cX6_change 90 = .ok (.getfield 94, 3) := by decide +kernel
theorem dX6_change_93 : decode cX6_change 93 = .ok (.iload_n 1, 1) := by decide +kernel
theorem dX6_change_94 : decode cX6_change 94 = .ok (.iload_n 3, 1) := by decide +kernel
theorem dX6_change_95 : decode cX6_change 95 = .ok (.invokestatic 109, 3) := by decide +kernel
theorem dX6_change_98 : decode cX6_change 98 = .ok (.goto 9, 3) := by decide +kernel
theorem dX6_change_101 : decode cX6_change 101 = .ok (.aload_n 0, 1) := by decide +kernel
theorem dX6_change_102 : decode cX6_change 102 = .ok (.ldc 68, 2) := by decide +kernel
theorem dX6_change_104 : decode cX6_change 104 = .ok (.invokevirtual 69, 3) := by decide +kernel
theorem dX6_change_107 : decode cX6_change 107 = .ok (.ireturn, 1) := by decide +kernel
theorem dX6_change_108 : decode cX6_change 108 = .ok (.iload_n 3, 1) := by decide +kernel
theorem dX6_change_109 : decode cX6_change 109 = .ok (.bipush 99, 2) := by decide +kernel
theorem dX6_change_111 : decode cX6_change 111 = .ok (.if_icmp .gt 18, 3) := by decide +kernel
theorem dX6_change_114 : decode cX6_change 114 = .ok (.aload_n 0, 1) := by decide +kernel
theorem dX6_change_115 : decode cX6_change 115 = .ok (.getfield 12, 3) := by decide +kernel
theorem dX6_change_118 : decode cX6_change 118 = .ok (.getfield 97, 3) := by decide +kernel
theorem dX6_change_121 : decode cX6_change 121 = .ok (.iload_n 1, 1) := by decide +kernel
theorem dX6_change_122 : decode cX6_change 122 = .ok (.iload_n 3, 1) := by decide +kernel
theorem dX6_change_123 : decode cX6_change 123 = .ok (.invokestatic 109, 3) := by decide +kernel
theorem dX6_change_126 : decode cX6_change 126 = .ok (.goto 9, 3) := by decide +kernel
theorem dX6_change_129 : decode cX6_change 129 = .ok (.aload_n 0, 1) := by decide +kernel
theorem dX6_change_130 : decode cX6_change 130 = .ok (.ldc 68, 2) := by decide +kernel
theorem dX6_change_132 : decode cX6_change 132 = .ok (.invokevirtual 69, 3) := by decide +kernel
theorem dX6_change_135 : decode cX6_change 135 = .ok (.ireturn, 1) := by decide +kernel
theorem dX6_change_136 : decode cX6_change 136 = .ok (.iload_n 3, 1) := by decide +kernel
theorem dX6_change_137 : decode cX6_change 137 = .ok (.sipush 9999, 3) := by decide +kernel
theorem dX6_change_140 : decode cX6_change 140 = .ok (.if_icmp .gt 18, 3) := by decide +kernel
theorem dX6_change_143 : decode cX6_change 143 = .ok (.aload_n 0, 1) := by decide +kernel
theorem dX6_change_144 : decode cX6_change 144 = .ok (.getfield 12, 3) := by decide +kernel
theorem dX6_change_147 : decode cX6_change 147 = .ok (.getfield 100, 3) := by decide +kernel
theorem dX6_change_150 : decode cX6_change 150 = .ok (.iload_n 1, 1) := by decide +kernel
theorem dX6_change_151 : decode cX6_change 151 = .ok (.iload_n 3, 1) := by decide +kernel
theorem dX6_change_152 : decode cX6_change 152 = .ok (.invokestatic 109, 3) := by decide +kernel
theorem dX6_change_155 : decode cX6_change 155 = .ok (.goto 9, 3) := by decide +kernel
theorem dX6_change_158 : decode cX6_change 158 = .ok (.aload_n 0, 1) := by decide +kernel
theorem dX6_change_159 : decode cX6_change 159 = .ok (.ldc 68, 2) := by decide +kernel
theorem dX6_change_161 : decode cX6_change 161 = .ok (.invokevirtual 69, 3) := by decide +kernel
theorem dX6_change_164 : decode cX6_change 164 = .ok (.ireturn, 1) := by decide +kernel
theorem dX6_change_165 : decode cX6_change 165 = .ok (.aload_n 0, 1) := by decide +kernel
theorem dX6_change_166 : decode cX6_change 166 = .ok (.ldc 68, 2) := by decide +kernel
theorem dX6_change_168 : decode cX6_change 168 = .ok (.invokevirtual 69, 3) := by decide +kernel
theorem dX6_change_171 : decode cX6_change 171 = .ok (.ireturn, 1) := by decide +kernel
theorem dX6_night_0 : decode cX6_night 0 = .ok (.iload_n 1, 1) := by decide +kernel
theorem dX6_night_1 : decode cX6_night 1 = .ok (.ifCond .eq 15, 3) := by decide +kernel
theorem dX6_night_4 : decode cX6_night 4 = .ok (.iload_n 1, 1) := by decide +kernel
theorem dX6_night_5 : decode cX6_night 5 = .ok (.iconst 1, 1) := by decide +kernel
theorem dX6_night_6 : decode cX6_night 6 = .ok (.if_icmp .eq 10, 3) := by decide +kernel
theorem dX6_night_9 : decode cX6_night 9 = .ok (.aload_n 0, 1) := by decide +kernel
theorem dX6_night_10 : decode cX6_night 10 = .ok (.ldc 68, 2) := by decide +kernel
theorem dX6_night_12 : decode cX6_night 12 = .ok (.invokevirtual 69, 3) := by decide +kernel
theorem dX6_night_15 : decode cX6_night 15 = .ok (.ireturn, 1) := by decide +kernel
theorem dX6_night_16 : decode cX6_night 16 = .ok (.aload_n 0, 1) := by decide +kernel
theorem dX6_night_17 : decode cX6_night 17 = .ok (.getfield 12, 3) := by decide +kernel
theorem dX6_night_20 : decode cX6_night 20 = .ok (.getfield 113, 3) := by decide +kernel
theorem dX6_night_23 : decode cX6_night 23 = .ok (.istore_n 2, 1) := by decide +kernel
theorem dX6_night_24 : decode cX6_night 24 = .ok (.aload_n 0, 1) := by decide +kernel
theorem dX6_night_25 : decode cX6_night 25 = .ok (.getfield 12, 3) := by decide +kernel
theorem dX6_night_28 : decode cX6_night 28 = .ok (.iload_n 1, 1) := by decide +kernel
theorem dX6_night_29 : decode cX6_night 29 = .ok (.putfield 113, 3) := by decide +kernel
theorem dX6_night_32 : decode cX6_night 32 = .ok (.iload_n 2, 1) := by decide +kernel
theorem dX6_night_33 : decode cX6_night 33 = .ok (.ireturn, 1) := by decide +kernel
theorem dX6_cross_0 : decode cX6_cross 0 = .ok (.aload_n 0, 1) := by decide +kernel
theorem dX6_cross_1 : decode cX6_cross 1 = .ok (.getfield 12, 3) := by decide +kernel
theorem dX6_cross_4 : decode cX6_cross 4 = .ok (.iload_n 1, 1) := by decide +kernel
theorem dX6_cross_5 : decode cX6_cross 5 = .ok (.invokevirtual 88, 3) := by decide +kernel
theorem dX6_cross_8 : decode cX6_cross 8 = .ok (.ifCond .ne 10, 3) := by decide +kernel
theorem dX6_cross_11 : decode cX6_cross 11 = .ok (.aload_n 0, 1) := by decide +kernel
theorem dX6_cross_12 : decode cX6_cross 12 = .ok (.ldc 68, 2) := by decide +kernel
theorem dX6_cross_14 : decode cX6_cross 14 = .ok (.invokevirtual 69, 3) := by decide +kernel
theorem dX6_cross_17 : decode cX6_cross 17 = .ok (.ireturn, 1) := by decide +kernel
theorem dX6_cross_18 : decode cX6_cross 18 = .ok (.aload_n 0, 1) := by decide +kernel
theorem dX6_cross_19 : decode cX6_cross 19 = .ok (.getfield 12, 3) := by decide +kernel
theorem dX6_cross_22 : decode cX6_cross 22 = .ok (.getfield 117, 3) := by decide +kernel
theorem dX6_cross_25 : decode cX6_cross 25 = .ok (.iconst 1, 1) := by decide +kernel
theorem dX6_cross_26 : decode cX6_cross 26 = .ok (.iadd, 1) := by decide +kernel
theorem dX6_cross_27 : decode cX6_cross 27 = .ok (.ldc 120, 2) := by decide +kernel
theorem dX6_cross_29 : decode cX6_cross 29 = .ok (.if_icmp .le 10, 3) := by decide +kernel
theorem dX6_cross_32 : decode cX6_cross 32 = .ok (.aload_n 0, 1) := by decide +kernel
theorem dX6_cross_33 : decode cX6_cross 33 = .ok (.ldc 121, 2) := by decide +kernel
theorem dX6_cross_35 : decode cX6_cross 35 = .ok (.invokevirtual 69, 3) := by decide +kernel
theorem dX6_cross_38 : decode cX6_cross 38 = .ok (.ireturn, 1) := by decide +kernel
theorem dX6_cross_39 : decode cX6_cross 39 = .ok (.aload_n 0, 1) := by decide +kernel
theorem dX6_cross_40 : decode cX6_cross 40 = .ok (.iload_n 1, 1) := by decide +kernel
theorem dX6_cross_41 : decode cX6_cross 41 = .ok (.invokevirtual 122, 3) := by decide +kernel
theorem dX6_cross_44 : decode cX6_cross 44 = .ok (.ireturn, 1) := by decide +kernel
theorem dX6_crowd_0 : decode cX6_crowd 0 = .ok (.aload_n 0, 1) := by decide +kernel
theorem dX6_crowd_1 : decode cX6_crowd 1 = .ok (.getfield 12, 3) := by decide +kernel
theorem dX6_crowd_4 : decode cX6_crowd 4 = .ok (.iload_n 1, 1) := by decide +kernel
theorem dX6_crowd_5 : decode cX6_crowd 5 = .ok (.invokevirtual 125, 3) := by decide +kernel
theorem dX6_crowd_8 : decode cX6_crowd 8 = .ok (.ifCond .ne 10, 3) := by decide +kernel
theorem dX6_crowd_11 : decode cX6_crowd 11 = .ok (.aload_n 0, 1) := by decide +kernel
theorem dX6_crowd_12 : decode cX6_crowd 12 = .ok (.ldc 68, 2) := by decide +kernel
theorem dX6_crowd_14 : decode cX6_crowd 14 = .ok (.invokevirtual 69, 3) := by decide +kernel
theorem dX6_crowd_17 : decode cX6_crowd 17 = .ok (.ireturn, 1) := by decide +kernel
theorem dX6_crowd_18 : decode cX6_crowd 18 = .ok (.aload_n 0, 1) := by decide +kernel
theorem dX6_crowd_19 : decode cX6_crowd 19 = .ok (.getfield 12, 3) := by decide +kernel
theorem dX6_crowd_22 : decode cX6_crowd 22 = .ok (.getfield 117, 3) := by decide +kernel
theorem dX6_crowd_25 : decode cX6_crowd 25 = .ok (.iload_n 1, 1) := by decide +kernel
theorem dX6_crowd_26 : decode cX6_crowd 26 = .ok (.invokestatic 128, 3) := by decide +kernel
theorem dX6_crowd_29 : decode cX6_crowd 29 = .ok (.iadd, 1) := by decide +kernel
theorem dX6_crowd_30 : decode cX6_crowd 30 = .ok (.ldc 120, 2) := by decide +kernel
theorem dX6_crowd_32 : decode cX6_crowd 32 = .ok (.if_icmp .le 10, 3) := by decide +kernel
theorem dX6_crowd_35 : decode cX6_crowd 35 = .ok (.aload_n 0, 1) := by decide +kernel
theorem dX6_crowd_36 : decode cX6_crowd 36 = .ok (.ldc 121, 2) := by decide +kernel
theorem dX6_crowd_38 : decode cX6_crowd 38 = .ok (.invokevirtual 69, 3) := by decide +kernel
theorem dX6_crowd_41 : decode cX6_crowd 41 = .ok (.ireturn, 1) := by decide +kernel
theorem dX6_crowd_42 : decode cX6_crowd 42 = .ok (.iconst 0, 1) := by decide +kernel
theorem dX6_crowd_43 : decode cX6_crowd 43 = .ok (.istore_n 2, 1) := by decide +kernel
theorem dX6_crowd_44 : decode cX6_crowd 44 = .ok (.iconst 0, 1) := by decide +kernel
theorem dX6_crowd_45 : decode cX6_crowd 45 = .ok (.istore_n 3, 1) := by decide +kernel
theorem dX6_crowd_46 : decode cX6_crowd 46 = .ok (.iload_n 3, 1) := by decide +kernel
theorem dX6_crowd_47 : decode cX6_crowd 47 = .ok (.bipush 6, 2) := by decide +kernel
theorem dX6_crowd_49 : decode cX6_crowd 49 = .ok (.if_icmp .ge 30, 3) := by decide +kernel
theorem dX6_crowd_52 : decode cX6_crowd 52 = .ok (.iload_n 1, 1) := by decide +kernel
theorem dX6_crowd_53 : decode cX6_crowd 53 = .ok (.iload_n 3, 1) := by decide +kernel
theorem dX6_crowd_54 : decode cX6_crowd 54 = .ok (.invokestatic 133, 3) := by decide +kernel
theorem dX6_crowd_57 : decode cX6_crowd 57 = .ok (.ifCond .eq 16, 3) := by decide +kernel
theorem dX6_crowd_60 : decode cX6_crowd 60 = .ok (.aload_n 0, 1) := by decide +kernel
theorem dX6_crowd_61 : decode cX6_crowd 61 = .ok (.iload_n 3, 1) := by decide +kernel
theorem dX6_crowd_62 : decode cX6_crowd 62 = .ok (.invokevirtual 122, 3) := by decide +kernel
theorem dX6_crowd_65 : decode cX6_crowd 65 = .ok (.bipush 12, 2) := by decide +kernel
theorem dX6_crowd_67 : decode cX6_crowd 67 = .ok (.if_icmp .ge 6, 3) := by decide +kernel
theorem dX6_crowd_70 : decode cX6_crowd 70 = .ok (.iinc 2 1, 3) := by decide +kernel
theorem dX6_crowd_73 : decode cX6_crowd 73 = .ok (.iinc 3 1, 3) := by decide +kernel
theorem dX6_crowd_76 : decode cX6_crowd 76 = .ok (.goto (-30), 3) := by decide +kernel
theorem dX6_crowd_79 : decode cX6_crowd 79 = .ok (.iload_n 2, 1) := by decide +kernel
theorem dX6_crowd_80 : decode cX6_crowd 80 = .ok (.ireturn, 1) := by decide +kernel
theorem dX6_now_0 : decode cX6_now 0 = .ok (.iload_n 1, 1) := by decide +kernel
theorem dX6_now_1 : decode cX6_now 1 = .ok (.tableswitch 109 0 5 #[39, 47, 60, 65, 73, 91], 39) := by decide +kernel
theorem dX6_now_40 : decode cX6_now 40 = .ok (.aload_n 0, 1) := by decide +kernel
theorem dX6_now_41 : decode cX6_now 41 = .ok (.getfield 12, 3) := by decide +kernel
theorem dX6_now_44 : decode cX6_now 44 = .ok (.getfield 117, 3) := by decide +kernel
theorem dX6_now_47 : decode cX6_now 47 = .ok (.ireturn, 1) := by decide +kernel
theorem dX6_now_48 : decode cX6_now 48 = .ok (.aload_n 0, 1) := by decide +kernel
theorem dX6_now_49 : decode cX6_now 49 = .ok (.getfield 12, 3) := by decide +kernel
theorem dX6_now_52 : decode cX6_now 52 = .ok (.getfield 73, 3) := by decide +kernel
theorem dX6_now_55 : decode cX6_now 55 = .ok (.bipush 12, 2) := by decide +kernel
theorem dX6_now_57 : decode cX6_now 57 = .ok (.invokestatic 137, 3) := by decide +kernel
theorem dX6_now_60 : decode cX6_now 60 = .ok (.ireturn, 1) := by decide +kernel
theorem dX6_now_61 : decode cX6_now 61 = .ok (.aload_n 0, 1) := by decide +kernel
theorem dX6_now_62 : decode cX6_now 62 = .ok (.invokevirtual 141, 3) := by decide +kernel
theorem dX6_now_65 : decode cX6_now 65 = .ok (.ireturn, 1) := by decide +kernel
theorem dX6_now_66 : decode cX6_now 66 = .ok (.aload_n 0, 1) := by decide +kernel
theorem dX6_now_67 : decode cX6_now 67 = .ok (.getfield 12, 3) := by decide +kernel
theorem dX6_now_70 : decode cX6_now 70 = .ok (.getfield 113, 3) := by decide +kernel
theorem dX6_now_73 : decode cX6_now 73 = .ok (.ireturn, 1) := by decide +kernel
theorem dX6_now_74 : decode cX6_now 74 = .ok (.aload_n 0, 1) := by decide +kernel
theorem dX6_now_75 : decode cX6_now 75 = .ok (.getfield 12, 3) := by decide +kernel
theorem dX6_now_78 : decode cX6_now 78 = .ok (.getfield 100, 3) := by decide +kernel
theorem dX6_now_81 : decode cX6_now 81 = .ok (.aload_n 0, 1) := by decide +kernel
theorem dX6_now_82 : decode cX6_now 82 = .ok (.getfield 12, 3) := by decide +kernel
theorem dX6_now_85 : decode cX6_now 85 = .ok (.getfield 145, 3) := by decide +kernel
theorem dX6_now_88 : decode cX6_now 88 = .ok (.invokestatic 137, 3) := by decide +kernel
theorem dX6_now_91 : decode cX6_now 91 = .ok (.ireturn, 1) := by decide +kernel
theorem dX6_now_92 : decode cX6_now 92 = .ok (.aload_n 0, 1) := by decide +kernel
theorem dX6_now_93 : decode cX6_now 93 = .ok (.getfield 12, 3) := by decide +kernel
theorem dX6_now_96 : decode cX6_now 96 = .ok (.getfield 94, 3) := by decide +kernel
theorem dX6_now_99 : decode cX6_now 99 = .ok (.aload_n 0, 1) := by decide +kernel
theorem dX6_now_100 : decode cX6_now 100 = .ok (.getfield 12, 3) := by decide +kernel
theorem dX6_now_103 : decode cX6_now 103 = .ok (.getfield 145, 3) := by decide +kernel
theorem dX6_now_106 : decode cX6_now 106 = .ok (.invokestatic 137, 3) := by decide +kernel
theorem dX6_now_109 : decode cX6_now 109 = .ok (.ireturn, 1) := by decide +kernel
theorem dX6_now_110 : decode cX6_now 110 = .ok (.aload_n 0, 1) := by decide +kernel
theorem dX6_now_111 : decode cX6_now 111 = .ok (.ldc 68, 2) := by decide +kernel
theorem dX6_now_113 : decode cX6_now 113 = .ok (.invokevirtual 69, 3) := by decide +kernel
theorem dX6_now_116 : decode cX6_now 116 = .ok (.ireturn, 1) := by decide +kernel
theorem dX6_would_0 : decode cX6_would 0 = .ok (.aload_n 0, 1) := by decide +kernel
theorem dX6_would_1 : decode cX6_would 1 = .ok (.getfield 12, 3) := by decide +kernel
theorem dX6_would_4 : decode cX6_would 4 = .ok (.iload_n 1, 1) := by decide +kernel
theorem dX6_would_5 : decode cX6_would 5 = .ok (.invokevirtual 88, 3) := by decide +kernel
theorem dX6_would_8 : decode cX6_would 8 = .ok (.ifCond .eq 11, 3) := by decide +kernel
theorem dX6_would_11 : decode cX6_would 11 = .ok (.aload_n 0, 1) := by decide +kernel
theorem dX6_would_12 : decode cX6_would 12 = .ok (.iload_n 1, 1) := by decide +kernel
theorem dX6_would_13 : decode cX6_would 13 = .ok (.invokevirtual 148, 3) := by decide +kernel
theorem dX6_would_16 : decode cX6_would 16 = .ok (.goto 9, 3) := by decide +kernel
theorem dX6_would_19 : decode cX6_would 19 = .ok (.aload_n 0, 1) := by decide +kernel
theorem dX6_would_20 : decode cX6_would 20 = .ok (.ldc 68, 2) := by decide +kernel
theorem dX6_would_22 : decode cX6_would 22 = .ok (.invokevirtual 69, 3) := by decide +kernel
theorem dX6_would_25 : decode cX6_would 25 = .ok (.ireturn, 1) := by decide +kernel
theorem dX6_becomes_0 : decode cX6_becomes 0 = .ok (.aload_n 0, 1) := by decide +kernel
theorem dX6_becomes_1 : decode cX6_becomes 1 = .ok (.getfield 12, 3) := by decide +kernel
theorem dX6_becomes_4 : decode cX6_becomes 4 = .ok (.iload_n 1, 1) := by decide +kernel
theorem dX6_becomes_5 : decode cX6_becomes 5 = .ok (.invokevirtual 88, 3) := by decide +kernel
theorem dX6_becomes_8 : decode cX6_becomes 8 = .ok (.ifCond .ne 10, 3) := by decide +kernel
theorem dX6_becomes_11 : decode cX6_becomes 11 = .ok (.aload_n 0, 1) := by decide +kernel
theorem dX6_becomes_12 : decode cX6_becomes 12 = .ok (.ldc 68, 2) := by decide +kernel
theorem dX6_becomes_14 : decode cX6_becomes 14 = .ok (.invokevirtual 69, 3) := by decide +kernel
theorem dX6_becomes_17 : decode cX6_becomes 17 = .ok (.ireturn, 1) := by decide +kernel
theorem dX6_becomes_18 : decode cX6_becomes 18 = .ok (.aload_n 0, 1) := by decide +kernel
theorem dX6_becomes_19 : decode cX6_becomes 19 = .ok (.iload_n 1, 1) := by decide +kernel
theorem dX6_becomes_20 : decode cX6_becomes 20 = .ok (.invokevirtual 148, 3) := by decide +kernel
theorem dX6_becomes_23 : decode cX6_becomes 23 = .ok (.pop, 1) := by decide +kernel
theorem dX6_becomes_24 : decode cX6_becomes 24 = .ok (.aload_n 0, 1) := by decide +kernel
theorem dX6_becomes_25 : decode cX6_becomes 25 = .ok (.getfield 25, 3) := by decide +kernel
theorem dX6_becomes_28 : decode cX6_becomes 28 = .ok (.getfield 151, 3) := by decide +kernel
theorem dX6_becomes_31 : decode cX6_becomes 31 = .ok (.ireturn, 1) := by decide +kernel
theorem dX6_leaves_0 : decode cX6_leaves 0 = .ok (.aload_n 0, 1) := by decide +kernel
theorem dX6_leaves_1 : decode cX6_leaves 1 = .ok (.getfield 12, 3) := by decide +kernel
theorem dX6_leaves_4 : decode cX6_leaves 4 = .ok (.iload_n 1, 1) := by decide +kernel
theorem dX6_leaves_5 : decode cX6_leaves 5 = .ok (.invokevirtual 88, 3) := by decide +kernel
theorem dX6_leaves_8 : decode cX6_leaves 8 = .ok (.ifCond .eq 10, 3) := by decide +kernel
theorem dX6_leaves_11 : decode cX6_leaves 11 = .ok (.iload_n 2, 1) := by decide +kernel
theorem dX6_leaves_12 : decode cX6_leaves 12 = .ok (.invokestatic 61, 3) := by decide +kernel
theorem dX6_leaves_15 : decode cX6_leaves 15 = .ok (.ifCond .ne 10, 3) := by decide +kernel
theorem dX6_leaves_18 : decode cX6_leaves 18 = .ok (.aload_n 0, 1) := by decide +kernel
theorem dX6_leaves_19 : decode cX6_leaves 19 = .ok (.ldc 68, 2) := by decide +kernel
theorem dX6_leaves_21 : decode cX6_leaves 21 = .ok (.invokevirtual 69, 3) := by decide +kernel
theorem dX6_leaves_24 : decode cX6_leaves 24 = .ok (.ireturn, 1) := by decide +kernel
theorem dX6_leaves_25 : decode cX6_leaves 25 = .ok (.aload_n 0, 1) := by decide +kernel
theorem dX6_leaves_26 : decode cX6_leaves 26 = .ok (.iload_n 1, 1) := by decide +kernel
theorem dX6_leaves_27 : decode cX6_leaves 27 = .ok (.invokevirtual 148, 3) := by decide +kernel
theorem dX6_leaves_30 : decode cX6_leaves 30 = .ok (.pop, 1) := by decide +kernel
theorem dX6_leaves_31 : decode cX6_leaves 31 = .ok (.aload_n 0, 1) := by decide +kernel
theorem dX6_leaves_32 : decode cX6_leaves 32 = .ok (.getfield 25, 3) := by decide +kernel
theorem dX6_leaves_35 : decode cX6_leaves 35 = .ok (.getfield 154, 3) := by decide +kernel
theorem dX6_leaves_38 : decode cX6_leaves 38 = .ok (.iload_n 2, 1) := by decide +kernel
theorem dX6_leaves_39 : decode cX6_leaves 39 = .ok (.iaload, 1) := by decide +kernel
theorem dX6_leaves_40 : decode cX6_leaves 40 = .ok (.ireturn, 1) := by decide +kernel
theorem dX6_after_0 : decode cX6_after 0 = .ok (.aload_n 0, 1) := by decide +kernel
theorem dX6_after_1 : decode cX6_after 1 = .ok (.getfield 12, 3) := by decide +kernel
theorem dX6_after_4 : decode cX6_after 4 = .ok (.iload_n 1, 1) := by decide +kernel
theorem dX6_after_5 : decode cX6_after 5 = .ok (.invokevirtual 88, 3) := by decide +kernel
theorem dX6_after_8 : decode cX6_after 8 = .ok (.ifCond .eq 19, 3) := by decide +kernel
theorem dX6_after_11 : decode cX6_after 11 = .ok (.aload_n 0, 1) := by decide +kernel
theorem dX6_after_12 : decode cX6_after 12 = .ok (.getfield 12, 3) := by decide +kernel
theorem dX6_after_15 : decode cX6_after 15 = .ok (.iload_n 2, 1) := by decide +kernel
theorem dX6_after_16 : decode cX6_after 16 = .ok (.invokevirtual 88, 3) := by decide +kernel
theorem dX6_after_19 : decode cX6_after 19 = .ok (.ifCond .eq 8, 3) := by decide +kernel
theorem dX6_after_22 : decode cX6_after 22 = .ok (.iload_n 1, 1) := by decide +kernel
theorem dX6_after_23 : decode cX6_after 23 = .ok (.iload_n 2, 1) := by decide +kernel
theorem dX6_after_24 : decode cX6_after 24 = .ok (.if_icmp .ne 10, 3) := by decide +kernel
theorem dX6_after_27 : decode cX6_after 27 = .ok (.aload_n 0, 1) := by decide +kernel
theorem dX6_after_28 : decode cX6_after 28 = .ok (.ldc 68, 2) := by decide +kernel
theorem dX6_after_30 : decode cX6_after 30 = .ok (.invokevirtual 69, 3) := by decide +kernel
theorem dX6_after_33 : decode cX6_after 33 = .ok (.ireturn, 1) := by decide +kernel
theorem dX6_after_34 : decode cX6_after 34 = .ok (.aload_n 0, 1) := by decide +kernel
theorem dX6_after_35 : decode cX6_after 35 = .ok (.iload_n 2, 1) := by decide +kernel
theorem dX6_after_36 : decode cX6_after 36 = .ok (.invokevirtual 148, 3) := by decide +kernel
theorem dX6_after_39 : decode cX6_after 39 = .ok (.pop, 1) := by decide +kernel
theorem dX6_after_40 : decode cX6_after 40 = .ok (.aload_n 0, 1) := by decide +kernel
theorem dX6_after_41 : decode cX6_after 41 = .ok (.getfield 25, 3) := by decide +kernel
theorem dX6_after_44 : decode cX6_after 44 = .ok (.aload_n 0, 1) := by decide +kernel
theorem dX6_after_45 : decode cX6_after 45 = .ok (.getfield 12, 3) := by decide +kernel
theorem dX6_after_48 : decode cX6_after 48 = .ok (.iload_n 1, 1) := by decide +kernel
theorem dX6_after_49 : decode cX6_after 49 = .ok (.invokevirtual 157, 3) := by decide +kernel
theorem dX6_after_52 : decode cX6_after 52 = .ok (.aload_n 0, 1) := by decide +kernel
theorem dX6_after_53 : decode cX6_after 53 = .ok (.getfield 25, 3) := by decide +kernel
theorem dX6_after_56 : decode cX6_after 56 = .ok (.aload_n 0, 1) := by decide +kernel
theorem dX6_after_57 : decode cX6_after 57 = .ok (.getfield 25, 3) := by decide +kernel
theorem dX6_after_60 : decode cX6_after 60 = .ok (.getfield 154, 3) := by decide +kernel
theorem dX6_after_63 : decode cX6_after 63 = .ok (.invokevirtual 161, 3) := by decide +kernel
theorem dX6_after_66 : decode cX6_after 66 = .ok (.ireturn, 1) := by decide +kernel
theorem dX6_often_0 : decode cX6_often 0 = .ok (.aload_n 0, 1) := by decide +kernel
theorem dX6_often_1 : decode cX6_often 1 = .ok (.getfield 12, 3) := by decide +kernel
theorem dX6_often_4 : decode cX6_often 4 = .ok (.iload_n 1, 1) := by decide +kernel
theorem dX6_often_5 : decode cX6_often 5 = .ok (.invokevirtual 88, 3) := by decide +kernel
theorem dX6_often_8 : decode cX6_often 8 = .ok (.ifCond .ne 10, 3) := by decide +kernel
theorem dX6_often_11 : decode cX6_often 11 = .ok (.aload_n 0, 1) := by decide +kernel
theorem dX6_often_12 : decode cX6_often 12 = .ok (.ldc 68, 2) := by decide +kernel
theorem dX6_often_14 : decode cX6_often 14 = .ok (.invokevirtual 69, 3) := by decide +kernel
theorem dX6_often_17 : decode cX6_often 17 = .ok (.ireturn, 1) := by decide +kernel
theorem dX6_often_18 : decode cX6_often 18 = .ok (.aload_n 0, 1) := by decide +kernel
theorem dX6_often_19 : decode cX6_often 19 = .ok (.iload_n 1, 1) := by decide +kernel
theorem dX6_often_20 : decode cX6_often 20 = .ok (.invokevirtual 165, 3) := by decide +kernel
theorem dX6_often_23 : decode cX6_often 23 = .ok (.iconst 0, 1) := by decide +kernel
theorem dX6_often_24 : decode cX6_often 24 = .ok (.istore_n 2, 1) := by decide +kernel
theorem dX6_often_25 : decode cX6_often 25 = .ok (.iload_n 2, 1) := by decide +kernel
theorem dX6_often_26 : decode cX6_often 26 = .ok (.bipush 60, 2) := by decide +kernel
theorem dX6_often_28 : decode cX6_often 28 = .ok (.if_icmp .ge 28, 3) := by decide +kernel
theorem dX6_often_31 : decode cX6_often 31 = .ok (.aload_n 0, 1) := by decide +kernel
theorem dX6_often_32 : decode cX6_often 32 = .ok (.getfield 25, 3) := by decide +kernel
theorem dX6_often_35 : decode cX6_often 35 = .ok (.aload_n 0, 1) := by decide +kernel
theorem dX6_often_36 : decode cX6_often 36 = .ok (.getfield 25, 3) := by decide +kernel
theorem dX6_often_39 : decode cX6_often 39 = .ok (.getfield 154, 3) := by decide +kernel
theorem dX6_often_42 : decode cX6_often 42 = .ok (.invokevirtual 161, 3) := by decide +kernel
theorem dX6_often_45 : decode cX6_often 45 = .ok (.bipush 12, 2) := by decide +kernel
theorem dX6_often_47 : decode cX6_often 47 = .ok (.if_icmp .ne 9, 3) := by decide +kernel
theorem dX6_often_50 : decode cX6_often 50 = .ok (.iinc 2 1, 3) := by decide +kernel
theorem dX6_often_53 : decode cX6_often 53 = .ok (.goto (-28), 3) := by decide +kernel
theorem dX6_often_56 : decode cX6_often 56 = .ok (.iload_n 2, 1) := by decide +kernel
theorem dX6_often_57 : decode cX6_often 57 = .ok (.ireturn, 1) := by decide +kernel
theorem dX6_balanceFor_0 : decode cX6_balanceFor 0 = .ok (.aload_n 0, 1) := by decide +kernel
theorem dX6_balanceFor_1 : decode cX6_balanceFor 1 = .ok (.getfield 12, 3) := by decide +kernel
theorem dX6_balanceFor_4 : decode cX6_balanceFor 4 = .ok (.iload_n 1, 1) := by decide +kernel
theorem dX6_balanceFor_5 : decode cX6_balanceFor 5 = .ok (.invokevirtual 88, 3) := by decide +kernel
theorem dX6_balanceFor_8 : decode cX6_balanceFor 8 = .ok (.ifCond .ne 10, 3) := by decide +kernel
theorem dX6_balanceFor_11 : decode cX6_balanceFor 11 = .ok (.aload_n 0, 1) := by decide +kernel
theorem dX6_balanceFor_12 : decode cX6_balanceFor 12 = .ok (.ldc 68, 2) := by decide +kernel
theorem dX6_balanceFor_14 : decode cX6_balanceFor 14 = .ok (.invokevirtual 69, 3) := by decide +kernel
theorem dX6_balanceFor_17 : decode cX6_balanceFor 17 = .ok (.ireturn, 1) := by decide +kernel
theorem dX6_balanceFor_18 : decode cX6_balanceFor 18 = .ok (.iconst 0, 1) := by decide +kernel
theorem dX6_balanceFor_19 : decode cX6_balanceFor 19 = .ok (.istore_n 2, 1) := by decide +kernel
theorem dX6_balanceFor_20 : decode cX6_balanceFor 20 = .ok (.iload_n 2, 1) := by decide +kernel
theorem dX6_balanceFor_21 : decode cX6_balanceFor 21 = .ok (.bipush 99, 2) := by decide +kernel
theorem dX6_balanceFor_23 : decode cX6_balanceFor 23 = .ok (.if_icmp .gt 43, 3) := by decide +kernel
theorem dX6_balanceFor_26 : decode cX6_balanceFor 26 = .ok (.aload_n 0, 1) := by decide +kernel
theorem dX6_balanceFor_27 : decode cX6_balanceFor 27 = .ok (.iload_n 1, 1) := by decide +kernel
theorem dX6_balanceFor_28 : decode cX6_balanceFor 28 = .ok (.invokevirtual 165, 3) := by decide +kernel
theorem dX6_balanceFor_31 : decode cX6_balanceFor 31 = .ok (.aload_n 0, 1) := by decide +kernel
theorem dX6_balanceFor_32 : decode cX6_balanceFor 32 = .ok (.getfield 25, 3) := by decide +kernel
theorem dX6_balanceFor_35 : decode cX6_balanceFor 35 = .ok (.iload_n 2, 1) := by decide +kernel
theorem dX6_balanceFor_36 : decode cX6_balanceFor 36 = .ok (.putfield 169, 3) := by decide +kernel
theorem dX6_balanceFor_39 : decode cX6_balanceFor 39 = .ok (.aload_n 0, 1) := by decide +kernel
theorem dX6_balanceFor_40 : decode cX6_balanceFor 40 = .ok (.getfield 25, 3) := by decide +kernel
theorem dX6_balanceFor_43 : decode cX6_balanceFor 43 = .ok (.aload_n 0, 1) := by decide +kernel
theorem dX6_balanceFor_44 : decode cX6_balanceFor 44 = .ok (.getfield 25, 3) := by decide +kernel
theorem dX6_balanceFor_47 : decode cX6_balanceFor 47 = .ok (.getfield 154, 3) := by decide +kernel
theorem dX6_balanceFor_50 : decode cX6_balanceFor 50 = .ok (.invokevirtual 161, 3) := by decide +kernel
theorem dX6_balanceFor_53 : decode cX6_balanceFor 53 = .ok (.bipush 12, 2) := by decide +kernel
theorem dX6_balanceFor_55 : decode cX6_balanceFor 55 = .ok (.if_icmp .ne 5, 3) := by decide +kernel
theorem dX6_balanceFor_58 : decode cX6_balanceFor 58 = .ok (.iload_n 2, 1) := by decide +kernel
theorem dX6_balanceFor_59 : decode cX6_balanceFor 59 = .ok (.ireturn, 1) := by decide +kernel
theorem dX6_balanceFor_60 : decode cX6_balanceFor 60 = .ok (.iinc 2 1, 3) := by decide +kernel
theorem dX6_balanceFor_63 : decode cX6_balanceFor 63 = .ok (.goto (-43), 3) := by decide +kernel
theorem dX6_balanceFor_66 : decode cX6_balanceFor 66 = .ok (.aload_n 0, 1) := by decide +kernel
theorem dX6_balanceFor_67 : decode cX6_balanceFor 67 = .ok (.ldc 172, 2) := by decide +kernel
theorem dX6_balanceFor_69 : decode cX6_balanceFor 69 = .ok (.invokevirtual 69, 3) := by decide +kernel
theorem dX6_balanceFor_72 : decode cX6_balanceFor 72 = .ok (.ireturn, 1) := by decide +kernel
theorem dX6_gaits_0 : decode cX6_gaits 0 = .ok (.aload_n 0, 1) := by decide +kernel
theorem dX6_gaits_1 : decode cX6_gaits 1 = .ok (.getfield 12, 3) := by decide +kernel
theorem dX6_gaits_4 : decode cX6_gaits 4 = .ok (.iload_n 1, 1) := by decide +kernel
theorem dX6_gaits_5 : decode cX6_gaits 5 = .ok (.invokevirtual 88, 3) := by decide +kernel
theorem dX6_gaits_8 : decode cX6_gaits 8 = .ok (.ifCond .ne 10, 3) := by decide +kernel
theorem dX6_gaits_11 : decode cX6_gaits 11 = .ok (.aload_n 0, 1) := by decide +kernel
theorem dX6_gaits_12 : decode cX6_gaits 12 = .ok (.ldc 68, 2) := by decide +kernel
theorem dX6_gaits_14 : decode cX6_gaits 14 = .ok (.invokevirtual 69, 3) := by decide +kernel
theorem dX6_gaits_17 : decode cX6_gaits 17 = .ok (.ireturn, 1) := by decide +kernel
theorem dX6_gaits_18 : decode cX6_gaits 18 = .ok (.iconst 0, 1) := by decide +kernel
theorem dX6_gaits_19 : decode cX6_gaits 19 = .ok (.istore_n 2, 1) := by decide +kernel
theorem dX6_gaits_20 : decode cX6_gaits 20 = .ok (.iconst 0, 1) := by decide +kernel
theorem dX6_gaits_21 : decode cX6_gaits 21 = .ok (.istore_n 3, 1) := by decide +kernel
theorem dX6_gaits_22 : decode cX6_gaits 22 = .ok (.iload_n 3, 1) := by decide +kernel
theorem dX6_gaits_23 : decode cX6_gaits 23 = .ok (.bipush 99, 2) := by decide +kernel
theorem dX6_gaits_25 : decode cX6_gaits 25 = .ok (.if_icmp .gt 23, 3) := by decide +kernel
theorem dX6_gaits_28 : decode cX6_gaits 28 = .ok (.aload_n 0, 1) := by decide +kernel
theorem dX6_gaits_29 : decode cX6_gaits 29 = .ok (.iload_n 1, 1) := by decide +kernel
theorem dX6_gaits_30 : decode cX6_gaits 30 = .ok (.iload_n 3, 1) := by decide +kernel
theorem dX6_gaits_31 : decode cX6_gaits 31 = .ok (.invokevirtual 173, 3) := by decide +kernel
theorem dX6_gaits_34 : decode cX6_gaits 34 = .ok (.bipush 12, 2) := by decide +kernel
theorem dX6_gaits_36 : decode cX6_gaits 36 = .ok (.if_icmp .ne 6, 3) := by decide +kernel
theorem dX6_gaits_39 : decode cX6_gaits 39 = .ok (.iinc 2 1, 3) := by decide +kernel
theorem dX6_gaits_42 : decode cX6_gaits 42 = .ok (.iinc 3 1, 3) := by decide +kernel
theorem dX6_gaits_45 : decode cX6_gaits 45 = .ok (.goto (-23), 3) := by decide +kernel
theorem dX6_gaits_48 : decode cX6_gaits 48 = .ok (.iload_n 2, 1) := by decide +kernel
theorem dX6_gaits_49 : decode cX6_gaits 49 = .ok (.ireturn, 1) := by decide +kernel
theorem dX6_gaitFor_0 : decode cX6_gaitFor 0 = .ok (.aload_n 0, 1) := by decide +kernel
theorem dX6_gaitFor_1 : decode cX6_gaitFor 1 = .ok (.getfield 12, 3) := by decide +kernel
theorem dX6_gaitFor_4 : decode cX6_gaitFor 4 = .ok (.iload_n 1, 1) := by decide +kernel
theorem dX6_gaitFor_5 : decode cX6_gaitFor 5 = .ok (.invokevirtual 88, 3) := by decide +kernel
theorem dX6_gaitFor_8 : decode cX6_gaitFor 8 = .ok (.ifCond .ne 10, 3) := by decide +kernel
theorem dX6_gaitFor_11 : decode cX6_gaitFor 11 = .ok (.aload_n 0, 1) := by decide +kernel
theorem dX6_gaitFor_12 : decode cX6_gaitFor 12 = .ok (.ldc 68, 2) := by decide +kernel
theorem dX6_gaitFor_14 : decode cX6_gaitFor 14 = .ok (.invokevirtual 69, 3) := by decide +kernel
theorem dX6_gaitFor_17 : decode cX6_gaitFor 17 = .ok (.ireturn, 1) := by decide +kernel
theorem dX6_gaitFor_18 : decode cX6_gaitFor 18 = .ok (.iconst 0, 1) := by decide +kernel
theorem dX6_gaitFor_19 : decode cX6_gaitFor 19 = .ok (.istore_n 2, 1) := by decide +kernel
theorem dX6_gaitFor_20 : decode cX6_gaitFor 20 = .ok (.iload_n 2, 1) := by decide +kernel
theorem dX6_gaitFor_21 : decode cX6_gaitFor 21 = .ok (.bipush 99, 2) := by decide +kernel
theorem dX6_gaitFor_23 : decode cX6_gaitFor 23 = .ok (.if_icmp .gt 22, 3) := by decide +kernel
theorem dX6_gaitFor_26 : decode cX6_gaitFor 26 = .ok (.aload_n 0, 1) := by decide +kernel
theorem dX6_gaitFor_27 : decode cX6_gaitFor 27 = .ok (.iload_n 1, 1) := by decide +kernel
theorem dX6_gaitFor_28 : decode cX6_gaitFor 28 = .ok (.iload_n 2, 1) := by decide +kernel
theorem dX6_gaitFor_29 : decode cX6_gaitFor 29 = .ok (.invokevirtual 173, 3) := by decide +kernel
theorem dX6_gaitFor_32 : decode cX6_gaitFor 32 = .ok (.bipush 12, 2) := by decide +kernel
theorem dX6_gaitFor_34 : decode cX6_gaitFor 34 = .ok (.if_icmp .ne 5, 3) := by decide +kernel
theorem dX6_gaitFor_37 : decode cX6_gaitFor 37 = .ok (.iload_n 2, 1) := by decide +kernel
theorem dX6_gaitFor_38 : decode cX6_gaitFor 38 = .ok (.ireturn, 1) := by decide +kernel
theorem dX6_gaitFor_39 : decode cX6_gaitFor 39 = .ok (.iinc 2 1, 3) := by decide +kernel
theorem dX6_gaitFor_42 : decode cX6_gaitFor 42 = .ok (.goto (-22), 3) := by decide +kernel
theorem dX6_gaitFor_45 : decode cX6_gaitFor 45 = .ok (.aload_n 0, 1) := by decide +kernel
theorem dX6_gaitFor_46 : decode cX6_gaitFor 46 = .ok (.ldc 172, 2) := by decide +kernel
theorem dX6_gaitFor_48 : decode cX6_gaitFor 48 = .ok (.invokevirtual 69, 3) := by decide +kernel
theorem dX6_gaitFor_51 : decode cX6_gaitFor 51 = .ok (.ireturn, 1) := by decide +kernel
theorem dX6_kindsFor_0 : decode cX6_kindsFor 0 = .ok (.aload_n 0, 1) := by decide +kernel
theorem dX6_kindsFor_1 : decode cX6_kindsFor 1 = .ok (.getfield 12, 3) := by decide +kernel
theorem dX6_kindsFor_4 : decode cX6_kindsFor 4 = .ok (.iload_n 1, 1) := by decide +kernel
theorem dX6_kindsFor_5 : decode cX6_kindsFor 5 = .ok (.invokevirtual 88, 3) := by decide +kernel
theorem dX6_kindsFor_8 : decode cX6_kindsFor 8 = .ok (.ifCond .ne 10, 3) := by decide +kernel
theorem dX6_kindsFor_11 : decode cX6_kindsFor 11 = .ok (.aload_n 0, 1) := by decide +kernel
theorem dX6_kindsFor_12 : decode cX6_kindsFor 12 = .ok (.ldc 68, 2) := by decide +kernel
theorem dX6_kindsFor_14 : decode cX6_kindsFor 14 = .ok (.invokevirtual 69, 3) := by decide +kernel
theorem dX6_kindsFor_17 : decode cX6_kindsFor 17 = .ok (.ireturn, 1) := by decide +kernel
theorem dX6_kindsFor_18 : decode cX6_kindsFor 18 = .ok (.iconst 0, 1) := by decide +kernel
theorem dX6_kindsFor_19 : decode cX6_kindsFor 19 = .ok (.istore_n 2, 1) := by decide +kernel
theorem dX6_kindsFor_20 : decode cX6_kindsFor 20 = .ok (.iconst 0, 1) := by decide +kernel
theorem dX6_kindsFor_21 : decode cX6_kindsFor 21 = .ok (.istore_n 3, 1) := by decide +kernel
theorem dX6_kindsFor_22 : decode cX6_kindsFor 22 = .ok (.iload_n 3, 1) := by decide +kernel
theorem dX6_kindsFor_23 : decode cX6_kindsFor 23 = .ok (.bipush 6, 2) := by decide +kernel
theorem dX6_kindsFor_25 : decode cX6_kindsFor 25 = .ok (.if_icmp .gt 47, 3) := by decide +kernel
theorem dX6_kindsFor_28 : decode cX6_kindsFor 28 = .ok (.aload_n 0, 1) := by decide +kernel
theorem dX6_kindsFor_29 : decode cX6_kindsFor 29 = .ok (.iload_n 1, 1) := by decide +kernel
theorem dX6_kindsFor_30 : decode cX6_kindsFor 30 = .ok (.invokevirtual 165, 3) := by decide +kernel
theorem dX6_kindsFor_33 : decode cX6_kindsFor 33 = .ok (.aload_n 0, 1) := by decide +kernel
theorem dX6_kindsFor_34 : decode cX6_kindsFor 34 = .ok (.getfield 25, 3) := by decide +kernel
theorem dX6_kindsFor_37 : decode cX6_kindsFor 37 = .ok (.iload_n 3, 1) := by decide +kernel
theorem dX6_kindsFor_38 : decode cX6_kindsFor 38 = .ok (.putfield 177, 3) := by decide +kernel
theorem dX6_kindsFor_41 : decode cX6_kindsFor 41 = .ok (.aload_n 0, 1) := by decide +kernel
theorem dX6_kindsFor_42 : decode cX6_kindsFor 42 = .ok (.getfield 25, 3) := by decide +kernel
theorem dX6_kindsFor_45 : decode cX6_kindsFor 45 = .ok (.aload_n 0, 1) := by decide +kernel
theorem dX6_kindsFor_46 : decode cX6_kindsFor 46 = .ok (.getfield 25, 3) := by decide +kernel
theorem dX6_kindsFor_49 : decode cX6_kindsFor 49 = .ok (.getfield 154, 3) := by decide +kernel
theorem dX6_kindsFor_52 : decode cX6_kindsFor 52 = .ok (.invokevirtual 161, 3) := by decide +kernel
theorem dX6_kindsFor_55 : decode cX6_kindsFor 55 = .ok (.bipush 12, 2) := by decide +kernel
theorem dX6_kindsFor_57 : decode cX6_kindsFor 57 = .ok (.if_icmp .ne 9, 3) := by decide +kernel
theorem dX6_kindsFor_60 : decode cX6_kindsFor 60 = .ok (.iload_n 2, 1) := by decide +kernel
theorem dX6_kindsFor_61 : decode cX6_kindsFor 61 = .ok (.iconst 1, 1) := by decide +kernel
theorem dX6_kindsFor_62 : decode cX6_kindsFor 62 = .ok (.iload_n 3, 1) := by decide +kernel
theorem dX6_kindsFor_63 : decode cX6_kindsFor 63 = .ok (.ishl, 1) := by decide +kernel
theorem dX6_kindsFor_64 : decode cX6_kindsFor 64 = .ok (.ior, 1) := by decide +kernel
theorem dX6_kindsFor_65 : decode cX6_kindsFor 65 = .ok (.istore_n 2, 1) := by decide +kernel
theorem dX6_kindsFor_66 : decode cX6_kindsFor 66 = .ok (.iinc 3 1, 3) := by decide +kernel
theorem dX6_kindsFor_69 : decode cX6_kindsFor 69 = .ok (.goto (-47), 3) := by decide +kernel
theorem dX6_kindsFor_72 : decode cX6_kindsFor 72 = .ok (.iload_n 2, 1) := by decide +kernel
theorem dX6_kindsFor_73 : decode cX6_kindsFor 73 = .ok (.ireturn, 1) := by decide +kernel
theorem dX6_order_0 : decode cX6_order 0 = .ok (.aload_n 0, 1) := by decide +kernel
theorem dX6_order_1 : decode cX6_order 1 = .ok (.getfield 12, 3) := by decide +kernel
theorem dX6_order_4 : decode cX6_order 4 = .ok (.iload_n 1, 1) := by decide +kernel
theorem dX6_order_5 : decode cX6_order 5 = .ok (.invokevirtual 125, 3) := by decide +kernel
theorem dX6_order_8 : decode cX6_order 8 = .ok (.ifCond .eq 15, 3) := by decide +kernel
theorem dX6_order_11 : decode cX6_order 11 = .ok (.iload_n 2, 1) := by decide +kernel
theorem dX6_order_12 : decode cX6_order 12 = .ok (.ifCond .lt 11, 3) := by decide +kernel
theorem dX6_order_15 : decode cX6_order 15 = .ok (.iload_n 2, 1) := by decide +kernel
theorem dX6_order_16 : decode cX6_order 16 = .ok (.iload_n 1, 1) := by decide +kernel
theorem dX6_order_17 : decode cX6_order 17 = .ok (.invokestatic 128, 3) := by decide +kernel
theorem dX6_order_20 : decode cX6_order 20 = .ok (.if_icmp .lt 10, 3) := by decide +kernel
theorem dX6_order_23 : decode cX6_order 23 = .ok (.aload_n 0, 1) := by decide +kernel
theorem dX6_order_24 : decode cX6_order 24 = .ok (.ldc 68, 2) := by decide +kernel
theorem dX6_order_26 : decode cX6_order 26 = .ok (.invokevirtual 69, 3) := by decide +kernel
theorem dX6_order_29 : decode cX6_order 29 = .ok (.ireturn, 1) := by decide +kernel
theorem dX6_order_30 : decode cX6_order 30 = .ok (.aload_n 0, 1) := by decide +kernel
theorem dX6_order_31 : decode cX6_order 31 = .ok (.getfield 36, 3) := by decide +kernel
theorem dX6_order_34 : decode cX6_order 34 = .ok (.aload_n 0, 1) := by decide +kernel
theorem dX6_order_35 : decode cX6_order 35 = .ok (.getfield 12, 3) := by decide +kernel
theorem dX6_order_38 : decode cX6_order 38 = .ok (.iload_n 1, 1) := by decide +kernel
theorem dX6_order_39 : decode cX6_order 39 = .ok (.invokevirtual 180, 3) := by decide +kernel
theorem dX6_order_42 : decode cX6_order 42 = .ok (.ifCond .eq 14, 3) := by decide +kernel
theorem dX6_order_45 : decode cX6_order 45 = .ok (.aload_n 0, 1) := by decide +kernel
theorem dX6_order_46 : decode cX6_order 46 = .ok (.getfield 36, 3) := by decide +kernel
theorem dX6_order_49 : decode cX6_order 49 = .ok (.iload_n 2, 1) := by decide +kernel
theorem dX6_order_50 : decode cX6_order 50 = .ok (.invokevirtual 184, 3) := by decide +kernel
theorem dX6_order_53 : decode cX6_order 53 = .ok (.goto 9, 3) := by decide +kernel
theorem dX6_order_56 : decode cX6_order 56 = .ok (.aload_n 0, 1) := by decide +kernel
theorem dX6_order_57 : decode cX6_order 57 = .ok (.ldc 172, 2) := by decide +kernel
theorem dX6_order_59 : decode cX6_order 59 = .ok (.invokevirtual 69, 3) := by decide +kernel
theorem dX6_order_62 : decode cX6_order 62 = .ok (.ireturn, 1) := by decide +kernel
theorem dX6_orders_0 : decode cX6_orders 0 = .ok (.aload_n 0, 1) := by decide +kernel
theorem dX6_orders_1 : decode cX6_orders 1 = .ok (.getfield 12, 3) := by decide +kernel
theorem dX6_orders_4 : decode cX6_orders 4 = .ok (.iload_n 1, 1) := by decide +kernel
theorem dX6_orders_5 : decode cX6_orders 5 = .ok (.invokevirtual 125, 3) := by decide +kernel
theorem dX6_orders_8 : decode cX6_orders 8 = .ok (.ifCond .eq 18, 3) := by decide +kernel
theorem dX6_orders_11 : decode cX6_orders 11 = .ok (.aload_n 0, 1) := by decide +kernel
theorem dX6_orders_12 : decode cX6_orders 12 = .ok (.getfield 36, 3) := by decide +kernel
theorem dX6_orders_15 : decode cX6_orders 15 = .ok (.aload_n 0, 1) := by decide +kernel
theorem dX6_orders_16 : decode cX6_orders 16 = .ok (.getfield 12, 3) := by decide +kernel
theorem dX6_orders_19 : decode cX6_orders 19 = .ok (.iload_n 1, 1) := by decide +kernel
theorem dX6_orders_20 : decode cX6_orders 20 = .ok (.invokevirtual 187, 3) := by decide +kernel
theorem dX6_orders_23 : decode cX6_orders 23 = .ok (.goto 9, 3) := by decide +kernel
theorem dX6_orders_26 : decode cX6_orders 26 = .ok (.aload_n 0, 1) := by decide +kernel
theorem dX6_orders_27 : decode cX6_orders 27 = .ok (.ldc 68, 2) := by decide +kernel
theorem dX6_orders_29 : decode cX6_orders 29 = .ok (.invokevirtual 69, 3) := by decide +kernel
theorem dX6_orders_32 : decode cX6_orders 32 = .ok (.ireturn, 1) := by decide +kernel
theorem dX6_fewest_0 : decode cX6_fewest 0 = .ok (.aload_n 0, 1) := by decide +kernel
theorem dX6_fewest_1 : decode cX6_fewest 1 = .ok (.getfield 12, 3) := by decide +kernel
theorem dX6_fewest_4 : decode cX6_fewest 4 = .ok (.iload_n 1, 1) := by decide +kernel
theorem dX6_fewest_5 : decode cX6_fewest 5 = .ok (.invokevirtual 125, 3) := by decide +kernel
theorem dX6_fewest_8 : decode cX6_fewest 8 = .ok (.ifCond .eq 18, 3) := by decide +kernel
theorem dX6_fewest_11 : decode cX6_fewest 11 = .ok (.aload_n 0, 1) := by decide +kernel
theorem dX6_fewest_12 : decode cX6_fewest 12 = .ok (.getfield 36, 3) := by decide +kernel
theorem dX6_fewest_15 : decode cX6_fewest 15 = .ok (.aload_n 0, 1) := by decide +kernel
theorem dX6_fewest_16 : decode cX6_fewest 16 = .ok (.getfield 12, 3) := by decide +kernel
theorem dX6_fewest_19 : decode cX6_fewest 19 = .ok (.iload_n 1, 1) := by decide +kernel
theorem dX6_fewest_20 : decode cX6_fewest 20 = .ok (.invokevirtual 191, 3) := by decide +kernel
theorem dX6_fewest_23 : decode cX6_fewest 23 = .ok (.goto 9, 3) := by decide +kernel
theorem dX6_fewest_26 : decode cX6_fewest 26 = .ok (.aload_n 0, 1) := by decide +kernel
theorem dX6_fewest_27 : decode cX6_fewest 27 = .ok (.ldc 68, 2) := by decide +kernel
theorem dX6_fewest_29 : decode cX6_fewest 29 = .ok (.invokevirtual 69, 3) := by decide +kernel
theorem dX6_fewest_32 : decode cX6_fewest 32 = .ok (.ireturn, 1) := by decide +kernel
theorem dX6_most_0 : decode cX6_most 0 = .ok (.aload_n 0, 1) := by decide +kernel
theorem dX6_most_1 : decode cX6_most 1 = .ok (.getfield 36, 3) := by decide +kernel
theorem dX6_most_4 : decode cX6_most 4 = .ok (.aload_n 0, 1) := by decide +kernel
theorem dX6_most_5 : decode cX6_most 5 = .ok (.getfield 12, 3) := by decide +kernel
theorem dX6_most_8 : decode cX6_most 8 = .ok (.invokevirtual 194, 3) := by decide +kernel
theorem dX6_most_11 : decode cX6_most 11 = .ok (.ireturn, 1) := by decide +kernel
theorem dX6_lay_0 : decode cX6_lay 0 = .ok (.aload_n 0, 1) := by decide +kernel
theorem dX6_lay_1 : decode cX6_lay 1 = .ok (.getfield 12, 3) := by decide +kernel
theorem dX6_lay_4 : decode cX6_lay 4 = .ok (.iload_n 1, 1) := by decide +kernel
theorem dX6_lay_5 : decode cX6_lay 5 = .ok (.invokevirtual 88, 3) := by decide +kernel
theorem dX6_lay_8 : decode cX6_lay 8 = .ok (.ifCond .ne 10, 3) := by decide +kernel
theorem dX6_lay_11 : decode cX6_lay 11 = .ok (.aload_n 0, 1) := by decide +kernel
theorem dX6_lay_12 : decode cX6_lay 12 = .ok (.ldc 68, 2) := by decide +kernel
theorem dX6_lay_14 : decode cX6_lay 14 = .ok (.invokevirtual 69, 3) := by decide +kernel
theorem dX6_lay_17 : decode cX6_lay 17 = .ok (.ireturn, 1) := by decide +kernel
theorem dX6_lay_18 : decode cX6_lay 18 = .ok (.iconst 0, 1) := by decide +kernel
theorem dX6_lay_19 : decode cX6_lay 19 = .ok (.istore_n 2, 1) := by decide +kernel
theorem dX6_lay_20 : decode cX6_lay 20 = .ok (.iload_n 2, 1) := by decide +kernel
theorem dX6_lay_21 : decode cX6_lay 21 = .ok (.iconst 3, 1) := by decide +kernel
theorem dX6_lay_22 : decode cX6_lay 22 = .ok (.if_icmp .gt 25, 3) := by decide +kernel
theorem dX6_lay_25 : decode cX6_lay 25 = .ok (.aload_n 0, 1) := by decide +kernel
theorem dX6_lay_26 : decode cX6_lay 26 = .ok (.iload_n 1, 1) := by decide +kernel
theorem dX6_lay_27 : decode cX6_lay 27 = .ok (.iconst 0, 1) := by decide +kernel
theorem dX6_lay_28 : decode cX6_lay 28 = .ok (.bipush 12, 2) := by decide +kernel
theorem dX6_lay_30 : decode cX6_lay 30 = .ok (.iload_n 2, 1) := by decide +kernel
theorem dX6_lay_31 : decode cX6_lay 31 = .ok (.invokevirtual 198, 3) := by decide +kernel
theorem dX6_lay_34 : decode cX6_lay 34 = .ok (.istore_n 3, 1) := by decide +kernel
theorem dX6_lay_35 : decode cX6_lay 35 = .ok (.iload_n 3, 1) := by decide +kernel
theorem dX6_lay_36 : decode cX6_lay 36 = .ok (.ifCond .lt 5, 3) := by decide +kernel
theorem dX6_lay_39 : decode cX6_lay 39 = .ok (.iload_n 3, 1) := by decide +kernel
theorem dX6_lay_40 : decode cX6_lay 40 = .ok (.ireturn, 1) := by decide +kernel
theorem dX6_lay_41 : decode cX6_lay 41 = .ok (.iinc 2 1, 3) := by decide +kernel
theorem dX6_lay_44 : decode cX6_lay 44 = .ok (.goto (-24), 3) := by decide +kernel
theorem dX6_lay_47 : decode cX6_lay 47 = .ok (.aload_n 0, 1) := by decide +kernel
theorem dX6_lay_48 : decode cX6_lay 48 = .ok (.ldc 172, 2) := by decide +kernel
theorem dX6_lay_50 : decode cX6_lay 50 = .ok (.invokevirtual 69, 3) := by decide +kernel
theorem dX6_lay_53 : decode cX6_lay 53 = .ok (.ireturn, 1) := by decide +kernel
theorem dX6_best_0 : decode cX6_best 0 = .ok (.iconst 0, 1) := by decide +kernel
theorem dX6_best_1 : decode cX6_best 1 = .ok (.istore_n 1, 1) := by decide +kernel
theorem dX6_best_2 : decode cX6_best 2 = .ok (.bipush 7, 2) := by decide +kernel
theorem dX6_best_4 : decode cX6_best 4 = .ok (.istore_n 2, 1) := by decide +kernel
theorem dX6_best_5 : decode cX6_best 5 = .ok (.iconst 0, 1) := by decide +kernel
theorem dX6_best_6 : decode cX6_best 6 = .ok (.istore_n 3, 1) := by decide +kernel
theorem dX6_best_7 : decode cX6_best 7 = .ok (.iload_n 3, 1) := by decide +kernel
theorem dX6_best_8 : decode cX6_best 8 = .ok (.bipush 12, 2) := by decide +kernel
theorem dX6_best_10 : decode cX6_best 10 = .ok (.if_icmp .ge 59, 3) := by decide +kernel
theorem dX6_best_13 : decode cX6_best 13 = .ok (.iconst 0, 1) := by decide +kernel
theorem dX6_best_14 : decode cX6_best 14 = .ok (.istore 4, 2) := by decide +kernel
theorem dX6_best_16 : decode cX6_best 16 = .ok (.iconst 0, 1) := by decide +kernel
theorem dX6_best_17 : decode cX6_best 17 = .ok (.istore 5, 2) := by decide +kernel
theorem dX6_best_19 : decode cX6_best 19 = .ok (.iload 5, 2) := by decide +kernel
theorem dX6_best_21 : decode cX6_best 21 = .ok (.aload_n 0, 1) := by decide +kernel
theorem dX6_best_22 : decode cX6_best 22 = .ok (.getfield 12, 3) := by decide +kernel
theorem dX6_best_25 : decode cX6_best 25 = .ok (.getfield 145, 3) := by decide +kernel
theorem dX6_best_28 : decode cX6_best 28 = .ok (.if_icmp .ge 24, 3) := by decide +kernel
theorem dX6_best_31 : decode cX6_best 31 = .ok (.aload_n 0, 1) := by decide +kernel
theorem dX6_best_32 : decode cX6_best 32 = .ok (.iload 5, 2) := by decide +kernel
theorem dX6_best_34 : decode cX6_best 34 = .ok (.iconst 1, 1) := by decide +kernel
theorem dX6_best_35 : decode cX6_best 35 = .ok (.iload_n 3, 1) := by decide +kernel
theorem dX6_best_36 : decode cX6_best 36 = .ok (.ishl, 1) := by decide +kernel
theorem dX6_best_37 : decode cX6_best 37 = .ok (.invokevirtual 202, 3) := by decide +kernel
theorem dX6_best_40 : decode cX6_best 40 = .ok (.ifCond .ne 6, 3) := by decide +kernel
theorem dX6_best_43 : decode cX6_best 43 = .ok (.iinc 4 1, 3) := by decide +kernel
theorem dX6_best_46 : decode cX6_best 46 = .ok (.iinc 5 1, 3) := by decide +kernel
theorem dX6_best_49 : decode cX6_best 49 = .ok (.goto (-30), 3) := by decide +kernel
theorem dX6_best_52 : decode cX6_best 52 = .ok (.iload 4, 2) := by decide +kernel
theorem dX6_best_54 : decode cX6_best 54 = .ok (.iload_n 2, 1) := by decide +kernel
theorem dX6_best_55 : decode cX6_best 55 = .ok (.if_icmp .ge 8, 3) := by decide +kernel
theorem dX6_best_58 : decode cX6_best 58 = .ok (.iload 4, 2) := by decide +kernel
theorem dX6_best_60 : decode cX6_best 60 = .ok (.istore_n 2, 1) := by decide +kernel
theorem dX6_best_61 : decode cX6_best 61 = .ok (.iload_n 3, 1) := by decide +kernel
theorem dX6_best_62 : decode cX6_best 62 = .ok (.istore_n 1, 1) := by decide +kernel
theorem dX6_best_63 : decode cX6_best 63 = .ok (.iinc 3 1, 3) := by decide +kernel
theorem dX6_best_66 : decode cX6_best 66 = .ok (.goto (-59), 3) := by decide +kernel
theorem dX6_best_69 : decode cX6_best 69 = .ok (.iload_n 1, 1) := by decide +kernel
theorem dX6_best_70 : decode cX6_best 70 = .ok (.ireturn, 1) := by decide +kernel
theorem dX6_unlike_0 : decode cX6_unlike 0 = .ok (.aload_n 0, 1) := by decide +kernel
theorem dX6_unlike_1 : decode cX6_unlike 1 = .ok (.getfield 12, 3) := by decide +kernel
theorem dX6_unlike_4 : decode cX6_unlike 4 = .ok (.iload_n 1, 1) := by decide +kernel
theorem dX6_unlike_5 : decode cX6_unlike 5 = .ok (.invokevirtual 88, 3) := by decide +kernel
theorem dX6_unlike_8 : decode cX6_unlike 8 = .ok (.ifCond .eq 19, 3) := by decide +kernel
theorem dX6_unlike_11 : decode cX6_unlike 11 = .ok (.aload_n 0, 1) := by decide +kernel
theorem dX6_unlike_12 : decode cX6_unlike 12 = .ok (.getfield 12, 3) := by decide +kernel
theorem dX6_unlike_15 : decode cX6_unlike 15 = .ok (.iload_n 2, 1) := by decide +kernel
theorem dX6_unlike_16 : decode cX6_unlike 16 = .ok (.invokevirtual 88, 3) := by decide +kernel
theorem dX6_unlike_19 : decode cX6_unlike 19 = .ok (.ifCond .eq 8, 3) := by decide +kernel
theorem dX6_unlike_22 : decode cX6_unlike 22 = .ok (.iload_n 1, 1) := by decide +kernel
theorem dX6_unlike_23 : decode cX6_unlike 23 = .ok (.iload_n 2, 1) := by decide +kernel
theorem dX6_unlike_24 : decode cX6_unlike 24 = .ok (.if_icmp .ne 10, 3) := by decide +kernel
theorem dX6_unlike_27 : decode cX6_unlike 27 = .ok (.aload_n 0, 1) := by decide +kernel
theorem dX6_unlike_28 : decode cX6_unlike 28 = .ok (.ldc 68, 2) := by decide +kernel
theorem dX6_unlike_30 : decode cX6_unlike 30 = .ok (.invokevirtual 69, 3) := by decide +kernel
theorem dX6_unlike_33 : decode cX6_unlike 33 = .ok (.ireturn, 1) := by decide +kernel
theorem dX6_unlike_34 : decode cX6_unlike 34 = .ok (.aload_n 0, 1) := by decide +kernel
theorem dX6_unlike_35 : decode cX6_unlike 35 = .ok (.iload_n 1, 1) := by decide +kernel
theorem dX6_unlike_36 : decode cX6_unlike 36 = .ok (.iload_n 2, 1) := by decide +kernel
theorem dX6_unlike_37 : decode cX6_unlike 37 = .ok (.invokevirtual 205, 3) := by decide +kernel
theorem dX6_unlike_40 : decode cX6_unlike 40 = .ok (.ireturn, 1) := by decide +kernel
theorem dX6_taken_0 : decode cX6_taken 0 = .ok (.aload_n 0, 1) := by decide +kernel
theorem dX6_taken_1 : decode cX6_taken 1 = .ok (.getfield 12, 3) := by decide +kernel
theorem dX6_taken_4 : decode cX6_taken 4 = .ok (.iload_n 1, 1) := by decide +kernel
theorem dX6_taken_5 : decode cX6_taken 5 = .ok (.invokevirtual 88, 3) := by decide +kernel
theorem dX6_taken_8 : decode cX6_taken 8 = .ok (.ifCond .ne 10, 3) := by decide +kernel
theorem dX6_taken_11 : decode cX6_taken 11 = .ok (.aload_n 0, 1) := by decide +kernel
theorem dX6_taken_12 : decode cX6_taken 12 = .ok (.ldc 68, 2) := by decide +kernel
theorem dX6_taken_14 : decode cX6_taken 14 = .ok (.invokevirtual 69, 3) := by decide +kernel
theorem dX6_taken_17 : decode cX6_taken 17 = .ok (.ireturn, 1) := by decide +kernel
theorem dX6_taken_18 : decode cX6_taken 18 = .ok (.iconst (-1), 1) := by decide +kernel
theorem dX6_taken_19 : decode cX6_taken 19 = .ok (.istore_n 2, 1) := by decide +kernel
theorem dX6_taken_20 : decode cX6_taken 20 = .ok (.iconst 0, 1) := by decide +kernel
theorem dX6_taken_21 : decode cX6_taken 21 = .ok (.istore_n 3, 1) := by decide +kernel
theorem dX6_taken_22 : decode cX6_taken 22 = .ok (.iconst 0, 1) := by decide +kernel
theorem dX6_taken_23 : decode cX6_taken 23 = .ok (.istore 4, 2) := by decide +kernel
theorem dX6_taken_25 : decode cX6_taken 25 = .ok (.iload 4, 2) := by decide +kernel
theorem dX6_taken_27 : decode cX6_taken 27 = .ok (.aload_n 0, 1) := by decide +kernel
theorem dX6_taken_28 : decode cX6_taken 28 = .ok (.getfield 12, 3) := by decide +kernel
theorem dX6_taken_31 : decode cX6_taken 31 = .ok (.getfield 145, 3) := by decide +kernel
theorem dX6_taken_34 : decode cX6_taken 34 = .ok (.if_icmp .ge 41, 3) := by decide +kernel
theorem dX6_taken_37 : decode cX6_taken 37 = .ok (.iload 4, 2) := by decide +kernel
theorem dX6_taken_39 : decode cX6_taken 39 = .ok (.iload_n 1, 1) := by decide +kernel
theorem dX6_taken_40 : decode cX6_taken 40 = .ok (.if_icmp .eq 29, 3) := by decide +kernel
theorem dX6_taken_43 : decode cX6_taken 43 = .ok (.aload_n 0, 1) := by decide +kernel
theorem dX6_taken_44 : decode cX6_taken 44 = .ok (.iload_n 1, 1) := by decide +kernel
theorem dX6_taken_45 : decode cX6_taken 45 = .ok (.iload 4, 2) := by decide +kernel
theorem dX6_taken_47 : decode cX6_taken 47 = .ok (.invokevirtual 205, 3) := by decide +kernel
theorem dX6_taken_50 : decode cX6_taken 50 = .ok (.istore 5, 2) := by decide +kernel
theorem dX6_taken_52 : decode cX6_taken 52 = .ok (.iload_n 2, 1) := by decide +kernel
theorem dX6_taken_53 : decode cX6_taken 53 = .ok (.iconst (-1), 1) := by decide +kernel
theorem dX6_taken_54 : decode cX6_taken 54 = .ok (.if_icmp .eq 9, 3) := by decide +kernel
theorem dX6_taken_57 : decode cX6_taken 57 = .ok (.iload 5, 2) := by decide +kernel
theorem dX6_taken_59 : decode cX6_taken 59 = .ok (.iload_n 3, 1) := by decide +kernel
theorem dX6_taken_60 : decode cX6_taken 60 = .ok (.if_icmp .ge 9, 3) := by decide +kernel
theorem dX6_taken_63 : decode cX6_taken 63 = .ok (.iload 4, 2) := by decide +kernel
theorem dX6_taken_65 : decode cX6_taken 65 = .ok (.istore_n 2, 1) := by decide +kernel
theorem dX6_taken_66 : decode cX6_taken 66 = .ok (.iload 5, 2) := by decide +kernel
theorem dX6_taken_68 : decode cX6_taken 68 = .ok (.istore_n 3, 1) := by decide +kernel
theorem dX6_taken_69 : decode cX6_taken 69 = .ok (.iinc 4 1, 3) := by decide +kernel
theorem dX6_taken_72 : decode cX6_taken 72 = .ok (.goto (-47), 3) := by decide +kernel
theorem dX6_taken_75 : decode cX6_taken 75 = .ok (.iload_n 2, 1) := by decide +kernel
theorem dX6_taken_76 : decode cX6_taken 76 = .ok (.iconst (-1), 1) := by decide +kernel
theorem dX6_taken_77 : decode cX6_taken 77 = .ok (.if_icmp .ne 12, 3) := by decide +kernel
theorem dX6_taken_80 : decode cX6_taken 80 = .ok (.aload_n 0, 1) := by decide +kernel
theorem dX6_taken_81 : decode cX6_taken 81 = .ok (.ldc 172, 2) := by decide +kernel
theorem dX6_taken_83 : decode cX6_taken 83 = .ok (.invokevirtual 69, 3) := by decide +kernel
theorem dX6_taken_86 : decode cX6_taken 86 = .ok (.goto 4, 3) := by decide +kernel
theorem dX6_taken_89 : decode cX6_taken 89 = .ok (.iload_n 2, 1) := by decide +kernel
theorem dX6_taken_90 : decode cX6_taken 90 = .ok (.ireturn, 1) := by decide +kernel
theorem dX6_fits_0 : decode cX6_fits 0 = .ok (.aload_n 0, 1) := by decide +kernel
theorem dX6_fits_1 : decode cX6_fits 1 = .ok (.iload_n 1, 1) := by decide +kernel
theorem dX6_fits_2 : decode cX6_fits 2 = .ok (.iload_n 2, 1) := by decide +kernel
theorem dX6_fits_3 : decode cX6_fits 3 = .ok (.invokevirtual 208, 3) := by decide +kernel
theorem dX6_fits_6 : decode cX6_fits 6 = .ok (.istore_n 3, 1) := by decide +kernel
theorem dX6_fits_7 : decode cX6_fits 7 = .ok (.iload_n 3, 1) := by decide +kernel
theorem dX6_fits_8 : decode cX6_fits 8 = .ok (.ifCond .eq 9, 3) := by decide +kernel
theorem dX6_fits_11 : decode cX6_fits 11 = .ok (.aload_n 0, 1) := by decide +kernel
theorem dX6_fits_12 : decode cX6_fits 12 = .ok (.iload_n 3, 1) := by decide +kernel
theorem dX6_fits_13 : decode cX6_fits 13 = .ok (.invokevirtual 69, 3) := by decide +kernel
theorem dX6_fits_16 : decode cX6_fits 16 = .ok (.ireturn, 1) := by decide +kernel
theorem dX6_fits_17 : decode cX6_fits 17 = .ok (.iconst 0, 1) := by decide +kernel
theorem dX6_fits_18 : decode cX6_fits 18 = .ok (.istore 4, 2) := by decide +kernel
theorem dX6_fits_20 : decode cX6_fits 20 = .ok (.iconst 0, 1) := by decide +kernel
theorem dX6_fits_21 : decode cX6_fits 21 = .ok (.istore 5, 2) := by decide +kernel
theorem dX6_fits_23 : decode cX6_fits 23 = .ok (.iload 5, 2) := by decide +kernel
theorem dX6_fits_25 : decode cX6_fits 25 = .ok (.bipush 99, 2) := by decide +kernel
theorem dX6_fits_27 : decode cX6_fits 27 = .ok (.if_icmp .gt 38, 3) := by decide +kernel
theorem dX6_fits_30 : decode cX6_fits 30 = .ok (.aload_n 0, 1) := by decide +kernel
theorem dX6_fits_31 : decode cX6_fits 31 = .ok (.iload_n 2, 1) := by decide +kernel
theorem dX6_fits_32 : decode cX6_fits 32 = .ok (.iload 5, 2) := by decide +kernel
theorem dX6_fits_34 : decode cX6_fits 34 = .ok (.invokevirtual 173, 3) := by decide +kernel
theorem dX6_fits_37 : decode cX6_fits 37 = .ok (.pop, 1) := by decide +kernel
theorem dX6_fits_38 : decode cX6_fits 38 = .ok (.aload_n 0, 1) := by decide +kernel
theorem dX6_fits_39 : decode cX6_fits 39 = .ok (.getfield 50, 3) := by decide +kernel
theorem dX6_fits_42 : decode cX6_fits 42 = .ok (.iload_n 1, 1) := by decide +kernel
theorem dX6_fits_43 : decode cX6_fits 43 = .ok (.aload_n 0, 1) := by decide +kernel
theorem dX6_fits_44 : decode cX6_fits 44 = .ok (.getfield 25, 3) := by decide +kernel
theorem dX6_fits_47 : decode cX6_fits 47 = .ok (.getfield 154, 3) := by decide +kernel
theorem dX6_fits_50 : decode cX6_fits 50 = .ok (.invokevirtual 211, 3) := by decide +kernel
theorem dX6_fits_53 : decode cX6_fits 53 = .ok (.ifCond .eq 6, 3) := by decide +kernel
theorem dX6_fits_56 : decode cX6_fits 56 = .ok (.iinc 4 1, 3) := by decide +kernel
theorem dX6_fits_59 : decode cX6_fits 59 = .ok (.iinc 5 1, 3) := by decide +kernel
theorem dX6_fits_62 : decode cX6_fits 62 = .ok (.goto (-39), 3) := by decide +kernel
theorem dX6_fits_65 : decode cX6_fits 65 = .ok (.iload 4, 2) := by decide +kernel
theorem dX6_fits_67 : decode cX6_fits 67 = .ok (.ireturn, 1) := by decide +kernel
theorem dX6_gait_0 : decode cX6_gait 0 = .ok (.aload_n 0, 1) := by decide +kernel
theorem dX6_gait_1 : decode cX6_gait 1 = .ok (.iload_n 1, 1) := by decide +kernel
theorem dX6_gait_2 : decode cX6_gait 2 = .ok (.iload_n 2, 1) := by decide +kernel
theorem dX6_gait_3 : decode cX6_gait 3 = .ok (.invokevirtual 208, 3) := by decide +kernel
theorem dX6_gait_6 : decode cX6_gait 6 = .ok (.istore_n 3, 1) := by decide +kernel
theorem dX6_gait_7 : decode cX6_gait 7 = .ok (.iload_n 3, 1) := by decide +kernel
theorem dX6_gait_8 : decode cX6_gait 8 = .ok (.ifCond .eq 9, 3) := by decide +kernel
theorem dX6_gait_11 : decode cX6_gait 11 = .ok (.aload_n 0, 1) := by decide +kernel
theorem dX6_gait_12 : decode cX6_gait 12 = .ok (.iload_n 3, 1) := by decide +kernel
theorem dX6_gait_13 : decode cX6_gait 13 = .ok (.invokevirtual 69, 3) := by decide +kernel
theorem dX6_gait_16 : decode cX6_gait 16 = .ok (.ireturn, 1) := by decide +kernel
theorem dX6_gait_17 : decode cX6_gait 17 = .ok (.iconst 0, 1) := by decide +kernel
theorem dX6_gait_18 : decode cX6_gait 18 = .ok (.istore 4, 2) := by decide +kernel
theorem dX6_gait_20 : decode cX6_gait 20 = .ok (.iload 4, 2) := by decide +kernel
theorem dX6_gait_22 : decode cX6_gait 22 = .ok (.bipush 99, 2) := by decide +kernel
theorem dX6_gait_24 : decode cX6_gait 24 = .ok (.if_icmp .gt 38, 3) := by decide +kernel
theorem dX6_gait_27 : decode cX6_gait 27 = .ok (.aload_n 0, 1) := by decide +kernel
theorem dX6_gait_28 : decode cX6_gait 28 = .ok (.iload_n 2, 1) := by decide +kernel
theorem dX6_gait_29 : decode cX6_gait 29 = .ok (.iload 4, 2) := by decide +kernel
theorem dX6_gait_31 : decode cX6_gait 31 = .ok (.invokevirtual 173, 3) := by decide +kernel
theorem dX6_gait_34 : decode cX6_gait 34 = .ok (.pop, 1) := by decide +kernel
theorem dX6_gait_35 : decode cX6_gait 35 = .ok (.aload_n 0, 1) := by decide +kernel
theorem dX6_gait_36 : decode cX6_gait 36 = .ok (.getfield 50, 3) := by decide +kernel
theorem dX6_gait_39 : decode cX6_gait 39 = .ok (.iload_n 1, 1) := by decide +kernel
theorem dX6_gait_40 : decode cX6_gait 40 = .ok (.aload_n 0, 1) := by decide +kernel
theorem dX6_gait_41 : decode cX6_gait 41 = .ok (.getfield 25, 3) := by decide +kernel
theorem dX6_gait_44 : decode cX6_gait 44 = .ok (.getfield 154, 3) := by decide +kernel
theorem dX6_gait_47 : decode cX6_gait 47 = .ok (.invokevirtual 211, 3) := by decide +kernel
theorem dX6_gait_50 : decode cX6_gait 50 = .ok (.ifCond .eq 6, 3) := by decide +kernel
theorem dX6_gait_53 : decode cX6_gait 53 = .ok (.iload 4, 2) := by decide +kernel
theorem dX6_gait_55 : decode cX6_gait 55 = .ok (.ireturn, 1) := by decide +kernel
theorem dX6_gait_56 : decode cX6_gait 56 = .ok (.iinc 4 1, 3) := by decide +kernel
theorem dX6_gait_59 : decode cX6_gait 59 = .ok (.goto (-39), 3) := by decide +kernel
theorem dX6_gait_62 : decode cX6_gait 62 = .ok (.aload_n 0, 1) := by decide +kernel
theorem dX6_gait_63 : decode cX6_gait 63 = .ok (.ldc 172, 2) := by decide +kernel
theorem dX6_gait_65 : decode cX6_gait 65 = .ok (.invokevirtual 69, 3) := by decide +kernel
theorem dX6_gait_68 : decode cX6_gait 68 = .ok (.ireturn, 1) := by decide +kernel
theorem dX6_who_0 : decode cX6_who 0 = .ok (.aload_n 0, 1) := by decide +kernel
theorem dX6_who_1 : decode cX6_who 1 = .ok (.getfield 50, 3) := by decide +kernel
theorem dX6_who_4 : decode cX6_who 4 = .ok (.iload_n 1, 1) := by decide +kernel
theorem dX6_who_5 : decode cX6_who 5 = .ok (.invokevirtual 215, 3) := by decide +kernel
theorem dX6_who_8 : decode cX6_who 8 = .ok (.istore_n 2, 1) := by decide +kernel
theorem dX6_who_9 : decode cX6_who 9 = .ok (.iload_n 2, 1) := by decide +kernel
theorem dX6_who_10 : decode cX6_who 10 = .ok (.ifCond .eq 9, 3) := by decide +kernel
theorem dX6_who_13 : decode cX6_who 13 = .ok (.aload_n 0, 1) := by decide +kernel
theorem dX6_who_14 : decode cX6_who 14 = .ok (.iload_n 2, 1) := by decide +kernel
theorem dX6_who_15 : decode cX6_who 15 = .ok (.invokevirtual 69, 3) := by decide +kernel
theorem dX6_who_18 : decode cX6_who 18 = .ok (.ireturn, 1) := by decide +kernel
theorem dX6_who_19 : decode cX6_who 19 = .ok (.aload_n 0, 1) := by decide +kernel
theorem dX6_who_20 : decode cX6_who 20 = .ok (.getfield 50, 3) := by decide +kernel
theorem dX6_who_23 : decode cX6_who 23 = .ok (.getfield 218, 3) := by decide +kernel
theorem dX6_who_26 : decode cX6_who 26 = .ok (.iload_n 1, 1) := by decide +kernel
theorem dX6_who_27 : decode cX6_who 27 = .ok (.iaload, 1) := by decide +kernel
theorem dX6_who_28 : decode cX6_who 28 = .ok (.bipush 12, 2) := by decide +kernel
theorem dX6_who_30 : decode cX6_who 30 = .ok (.if_icmp .le 10, 3) := by decide +kernel
theorem dX6_who_33 : decode cX6_who 33 = .ok (.aload_n 0, 1) := by decide +kernel
theorem dX6_who_34 : decode cX6_who 34 = .ok (.ldc 121, 2) := by decide +kernel
theorem dX6_who_36 : decode cX6_who 36 = .ok (.invokevirtual 69, 3) := by decide +kernel
theorem dX6_who_39 : decode cX6_who 39 = .ok (.ireturn, 1) := by decide +kernel
theorem dX6_who_40 : decode cX6_who 40 = .ok (.iconst 0, 1) := by decide +kernel
theorem dX6_who_41 : decode cX6_who 41 = .ok (.istore_n 3, 1) := by decide +kernel
theorem dX6_who_42 : decode cX6_who 42 = .ok (.iconst 0, 1) := by decide +kernel
theorem dX6_who_43 : decode cX6_who 43 = .ok (.istore 4, 2) := by decide +kernel
theorem dX6_who_45 : decode cX6_who 45 = .ok (.iload 4, 2) := by decide +kernel
theorem dX6_who_47 : decode cX6_who 47 = .ok (.aload_n 0, 1) := by decide +kernel
theorem dX6_who_48 : decode cX6_who 48 = .ok (.getfield 12, 3) := by decide +kernel
theorem dX6_who_51 : decode cX6_who 51 = .ok (.getfield 145, 3) := by decide +kernel
theorem dX6_who_54 : decode cX6_who 54 = .ok (.if_icmp .ge 41, 3) := by decide +kernel
theorem dX6_who_57 : decode cX6_who 57 = .ok (.aload_n 0, 1) := by decide +kernel
theorem dX6_who_58 : decode cX6_who 58 = .ok (.iload 4, 2) := by decide +kernel
theorem dX6_who_60 : decode cX6_who 60 = .ok (.invokevirtual 148, 3) := by decide +kernel
theorem dX6_who_63 : decode cX6_who 63 = .ok (.pop, 1) := by decide +kernel
theorem dX6_who_64 : decode cX6_who 64 = .ok (.aload_n 0, 1) := by decide +kernel
theorem dX6_who_65 : decode cX6_who 65 = .ok (.getfield 50, 3) := by decide +kernel
theorem dX6_who_68 : decode cX6_who 68 = .ok (.iload_n 1, 1) := by decide +kernel
theorem dX6_who_69 : decode cX6_who 69 = .ok (.aload_n 0, 1) := by decide +kernel
theorem dX6_who_70 : decode cX6_who 70 = .ok (.getfield 25, 3) := by decide +kernel
theorem dX6_who_73 : decode cX6_who 73 = .ok (.getfield 154, 3) := by decide +kernel
theorem dX6_who_76 : decode cX6_who 76 = .ok (.invokevirtual 211, 3) := by decide +kernel
theorem dX6_who_79 : decode cX6_who 79 = .ok (.ifCond .eq 10, 3) := by decide +kernel
theorem dX6_who_82 : decode cX6_who 82 = .ok (.iload_n 3, 1) := by decide +kernel
theorem dX6_who_83 : decode cX6_who 83 = .ok (.iconst 1, 1) := by decide +kernel
theorem dX6_who_84 : decode cX6_who 84 = .ok (.iload 4, 2) := by decide +kernel
theorem dX6_who_86 : decode cX6_who 86 = .ok (.ishl, 1) := by decide +kernel
theorem dX6_who_87 : decode cX6_who 87 = .ok (.ior, 1) := by decide +kernel
theorem dX6_who_88 : decode cX6_who 88 = .ok (.istore_n 3, 1) := by decide +kernel
theorem dX6_who_89 : decode cX6_who 89 = .ok (.iinc 4 1, 3) := by decide +kernel
theorem dX6_who_92 : decode cX6_who 92 = .ok (.goto (-47), 3) := by decide +kernel
theorem dX6_who_95 : decode cX6_who 95 = .ok (.iload_n 3, 1) := by decide +kernel
theorem dX6_who_96 : decode cX6_who 96 = .ok (.ireturn, 1) := by decide +kernel
theorem dX6_strangers_0 : decode cX6_strangers 0 = .ok (.iload_n 1, 1) := by decide +kernel
theorem dX6_strangers_1 : decode cX6_strangers 1 = .ok (.iconst 1, 1) := by decide +kernel
theorem dX6_strangers_2 : decode cX6_strangers 2 = .ok (.if_icmp .lt 9, 3) := by decide +kernel
theorem dX6_strangers_5 : decode cX6_strangers 5 = .ok (.iload_n 1, 1) := by decide +kernel
theorem dX6_strangers_6 : decode cX6_strangers 6 = .ok (.bipush 20, 2) := by decide +kernel
theorem dX6_strangers_8 : decode cX6_strangers 8 = .ok (.if_icmp .le 10, 3) := by decide +kernel
theorem dX6_strangers_11 : decode cX6_strangers 11 = .ok (.aload_n 0, 1) := by decide +kernel
theorem dX6_strangers_12 : decode cX6_strangers 12 = .ok (.ldc 68, 2) := by decide +kernel
theorem dX6_strangers_14 : decode cX6_strangers 14 = .ok (.invokevirtual 69, 3) := by decide +kernel
theorem dX6_strangers_17 : decode cX6_strangers 17 = .ok (.ireturn, 1) := by decide +kernel
theorem dX6_strangers_18 : decode cX6_strangers 18 = .ok (.iconst 0, 1) := by decide +kernel
theorem dX6_strangers_19 : decode cX6_strangers 19 = .ok (.istore_n 2, 1) := by decide +kernel
theorem dX6_strangers_20 : decode cX6_strangers 20 = .ok (.iload_n 2, 1) := by decide +kernel
theorem dX6_strangers_21 : decode cX6_strangers 21 = .ok (.iload_n 1, 1) := by decide +kernel
theorem dX6_strangers_22 : decode cX6_strangers 22 = .ok (.if_icmp .ge 50, 3) := by decide +kernel
theorem dX6_strangers_25 : decode cX6_strangers 25 = .ok (.aload_n 0, 1) := by decide +kernel
theorem dX6_strangers_26 : decode cX6_strangers 26 = .ok (.getfield 12, 3) := by decide +kernel
theorem dX6_strangers_29 : decode cX6_strangers 29 = .ok (.invokevirtual 221, 3) := by decide +kernel
theorem dX6_strangers_32 : decode cX6_strangers 32 = .ok (.bipush 12, 2) := by decide +kernel
theorem dX6_strangers_34 : decode cX6_strangers 34 = .ok (.irem, 1) := by decide +kernel
theorem dX6_strangers_35 : decode cX6_strangers 35 = .ok (.istore_n 3, 1) := by decide +kernel
theorem dX6_strangers_36 : decode cX6_strangers 36 = .ok (.aload_n 0, 1) := by decide +kernel
theorem dX6_strangers_37 : decode cX6_strangers 37 = .ok (.getfield 12, 3) := by decide +kernel
theorem dX6_strangers_40 : decode cX6_strangers 40 = .ok (.invokevirtual 221, 3) := by decide +kernel
theorem dX6_strangers_43 : decode cX6_strangers 43 = .ok (.bipush 100, 2) := by decide +kernel
theorem dX6_strangers_45 : decode cX6_strangers 45 = .ok (.irem, 1) := by decide +kernel
theorem dX6_strangers_46 : decode cX6_strangers 46 = .ok (.istore 4, 2) := by decide +kernel
theorem dX6_strangers_48 : decode cX6_strangers 48 = .ok (.iload_n 3, 1) := by decide +kernel
theorem dX6_strangers_49 : decode cX6_strangers 49 = .ok (.invokestatic 61, 3) := by decide +kernel
theorem dX6_strangers_52 : decode cX6_strangers 52 = .ok (.ifCond .eq 14, 3) := by decide +kernel
theorem dX6_strangers_55 : decode cX6_strangers 55 = .ok (.aload_n 0, 1) := by decide +kernel
theorem dX6_strangers_56 : decode cX6_strangers 56 = .ok (.getfield 12, 3) := by decide +kernel
theorem dX6_strangers_59 : decode cX6_strangers 59 = .ok (.getfield 73, 3) := by decide +kernel
theorem dX6_strangers_62 : decode cX6_strangers 62 = .ok (.iload_n 3, 1) := by decide +kernel
theorem dX6_strangers_63 : decode cX6_strangers 63 = .ok (.iload 4, 2) := by decide +kernel
theorem dX6_strangers_65 : decode cX6_strangers 65 = .ok (.iastore, 1) := by decide +kernel
theorem dX6_strangers_66 : decode cX6_strangers 66 = .ok (.iinc 2 1, 3) := by decide +kernel
theorem dX6_strangers_69 : decode cX6_strangers 69 = .ok (.goto (-49), 3) := by decide +kernel
theorem dX6_strangers_72 : decode cX6_strangers 72 = .ok (.aload_n 0, 1) := by decide +kernel
theorem dX6_strangers_73 : decode cX6_strangers 73 = .ok (.getfield 12, 3) := by decide +kernel
theorem dX6_strangers_76 : decode cX6_strangers 76 = .ok (.getfield 73, 3) := by decide +kernel
theorem dX6_strangers_79 : decode cX6_strangers 79 = .ok (.bipush 12, 2) := by decide +kernel
theorem dX6_strangers_81 : decode cX6_strangers 81 = .ok (.invokestatic 137, 3) := by decide +kernel
theorem dX6_strangers_84 : decode cX6_strangers 84 = .ok (.ireturn, 1) := by decide +kernel
theorem dX6_odds_0 : decode cX6_odds 0 = .ok (.aload_n 0, 1) := by decide +kernel
theorem dX6_odds_1 : decode cX6_odds 1 = .ok (.getfield 12, 3) := by decide +kernel
theorem dX6_odds_4 : decode cX6_odds 4 = .ok (.iload_n 1, 1) := by decide +kernel
theorem dX6_odds_5 : decode cX6_odds 5 = .ok (.invokevirtual 88, 3) := by decide +kernel
theorem dX6_odds_8 : decode cX6_odds 8 = .ok (.ifCond .eq 22, 3) := by decide +kernel
theorem dX6_odds_11 : decode cX6_odds 11 = .ok (.iload_n 2, 1) := by decide +kernel
theorem dX6_odds_12 : decode cX6_odds 12 = .ok (.ifCond .lt 18, 3) := by decide +kernel
theorem dX6_odds_15 : decode cX6_odds 15 = .ok (.iload_n 2, 1) := by decide +kernel
theorem dX6_odds_16 : decode cX6_odds 16 = .ok (.bipush 14, 2) := by decide +kernel
theorem dX6_odds_18 : decode cX6_odds 18 = .ok (.if_icmp .gt 12, 3) := by decide +kernel
theorem dX6_odds_21 : decode cX6_odds 21 = .ok (.iload_n 3, 1) := by decide +kernel
theorem dX6_odds_22 : decode cX6_odds 22 = .ok (.ifCond .eq 16, 3) := by decide +kernel
theorem dX6_odds_25 : decode cX6_odds 25 = .ok (.iload_n 3, 1) := by decide +kernel
theorem dX6_odds_26 : decode cX6_odds 26 = .ok (.iconst 1, 1) := by decide +kernel
theorem dX6_odds_27 : decode cX6_odds 27 = .ok (.if_icmp .eq 11, 3) := by decide +kernel
theorem dX6_odds_30 : decode cX6_odds 30 = .ok (.aload_n 0, 1) := by decide +kernel
theorem dX6_odds_31 : decode cX6_odds 31 = .ok (.ldc 68, 2) := by decide +kernel
theorem dX6_odds_33 : decode cX6_odds 33 = .ok (.invokevirtual 69, 3) := by decide +kernel
theorem dX6_odds_36 : decode cX6_odds 36 = .ok (.i2l, 1) := by decide +kernel
theorem dX6_odds_37 : decode cX6_odds 37 = .ok (.lreturn, 1) := by decide +kernel
theorem dX6_odds_38 : decode cX6_odds 38 = .ok (.bipush 12, 2) := by decide +kernel
theorem dX6_odds_40 : decode cX6_odds 40 = .ok (.aload_n 0, 1) := by decide +kernel
theorem dX6_odds_41 : decode cX6_odds 41 = .ok (.getfield 12, 3) := by decide +kernel
theorem dX6_odds_44 : decode cX6_odds 44 = .ok (.iload_n 1, 1) := by decide +kernel
theorem dX6_odds_45 : decode cX6_odds 45 = .ok (.invokevirtual 106, 3) := by decide +kernel
theorem dX6_odds_48 : decode cX6_odds 48 = .ok (.invokestatic 128, 3) := by decide +kernel
theorem dX6_odds_51 : decode cX6_odds 51 = .ok (.isub, 1) := by decide +kernel
theorem dX6_odds_52 : decode cX6_odds 52 = .ok (.istore 4, 2) := by decide +kernel
theorem dX6_odds_54 : decode cX6_odds 54 = .ok (.bipush 12, 2) := by decide +kernel
theorem dX6_odds_56 : decode cX6_odds 56 = .ok (.iload 4, 2) := by decide +kernel
theorem dX6_odds_58 : decode cX6_odds 58 = .ok (.invokestatic 224, 3) := by decide +kernel
theorem dX6_odds_61 : decode cX6_odds 61 = .ok (.istore 5, 2) := by decide +kernel
theorem dX6_odds_63 : decode cX6_odds 63 = .ok (.iload 5, 2) := by decide +kernel
theorem dX6_odds_65 : decode cX6_odds 65 = .ok (.ifCond .ne 7, 3) := by decide +kernel
theorem dX6_odds_68 : decode cX6_odds 68 = .ok (.lconst 0, 1) := by decide +kernel
theorem dX6_odds_69 : decode cX6_odds 69 = .ok (.goto 22, 3) := by decide +kernel
theorem dX6_odds_72 : decode cX6_odds 72 = .ok (.iload_n 3, 1) := by decide +kernel
theorem dX6_odds_73 : decode cX6_odds 73 = .ok (.ifCond .ne 8, 3) := by decide +kernel
theorem dX6_odds_76 : decode cX6_odds 76 = .ok (.iload 4, 2) := by decide +kernel
theorem dX6_odds_78 : decode cX6_odds 78 = .ok (.goto 5, 3) := by decide +kernel
theorem dX6_odds_81 : decode cX6_odds 81 = .ok (.bipush 12, 2) := by decide +kernel
theorem dX6_odds_83 : decode cX6_odds 83 = .ok (.iload 5, 2) := by decide +kernel
theorem dX6_odds_85 : decode cX6_odds 85 = .ok (.idiv, 1) := by decide +kernel
theorem dX6_odds_86 : decode cX6_odds 86 = .ok (.i2l, 1) := by decide +kernel
theorem dX6_odds_87 : decode cX6_odds 87 = .ok (.iload_n 2, 1) := by decide +kernel
theorem dX6_odds_88 : decode cX6_odds 88 = .ok (.invokestatic 227, 3) := by decide +kernel
theorem dX6_odds_91 : decode cX6_odds 91 = .ok (.lreturn, 1) := by decide +kernel
theorem dX6_seed_0 : decode cX6_seed 0 = .ok (.aload_n 0, 1) := by decide +kernel
theorem dX6_seed_1 : decode cX6_seed 1 = .ok (.getfield 12, 3) := by decide +kernel
theorem dX6_seed_4 : decode cX6_seed 4 = .ok (.getfield 231, 3) := by decide +kernel
theorem dX6_seed_7 : decode cX6_seed 7 = .ok (.istore_n 2, 1) := by decide +kernel
theorem dX6_seed_8 : decode cX6_seed 8 = .ok (.aload_n 0, 1) := by decide +kernel
theorem dX6_seed_9 : decode cX6_seed 9 = .ok (.getfield 12, 3) := by decide +kernel
theorem dX6_seed_12 : decode cX6_seed 12 = .ok (.iload_n 1, 1) := by decide +kernel
theorem dX6_seed_13 : decode cX6_seed 13 = .ok (.putfield 231, 3) := by decide +kernel
theorem dX6_seed_16 : decode cX6_seed 16 = .ok (.iload_n 2, 1) := by decide +kernel
theorem dX6_seed_17 : decode cX6_seed 17 = .ok (.ireturn, 1) := by decide +kernel
theorem dX6_feed_0 : decode cX6_feed 0 = .ok (.iload_n 2, 1) := by decide +kernel
theorem dX6_feed_1 : decode cX6_feed 1 = .ok (.iconst 1, 1) := by decide +kernel
theorem dX6_feed_2 : decode cX6_feed 2 = .ok (.if_icmp .lt 8, 3) := by decide +kernel
theorem dX6_feed_5 : decode cX6_feed 5 = .ok (.iload_n 2, 1) := by decide +kernel
theorem dX6_feed_6 : decode cX6_feed 6 = .ok (.iconst 4, 1) := by decide +kernel
theorem dX6_feed_7 : decode cX6_feed 7 = .ok (.if_icmp .le 10, 3) := by decide +kernel
theorem dX6_feed_10 : decode cX6_feed 10 = .ok (.aload_n 0, 1) := by decide +kernel
theorem dX6_feed_11 : decode cX6_feed 11 = .ok (.ldc 68, 2) := by decide +kernel
theorem dX6_feed_13 : decode cX6_feed 13 = .ok (.invokevirtual 69, 3) := by decide +kernel
theorem dX6_feed_16 : decode cX6_feed 16 = .ok (.ireturn, 1) := by decide +kernel
theorem dX6_feed_17 : decode cX6_feed 17 = .ok (.aload_n 0, 1) := by decide +kernel
theorem dX6_feed_18 : decode cX6_feed 18 = .ok (.getfield 43, 3) := by decide +kernel
theorem dX6_feed_21 : decode cX6_feed 21 = .ok (.getfield 234, 3) := by decide +kernel
theorem dX6_feed_24 : decode cX6_feed 24 = .ok (.iload_n 2, 1) := by decide +kernel
theorem dX6_feed_25 : decode cX6_feed 25 = .ok (.iadd, 1) := by decide +kernel
theorem dX6_feed_26 : decode cX6_feed 26 = .ok (.bipush 120, 2) := by decide +kernel
theorem dX6_feed_28 : decode cX6_feed 28 = .ok (.if_icmp .le 10, 3) := by decide +kernel
theorem dX6_feed_31 : decode cX6_feed 31 = .ok (.aload_n 0, 1) := by decide +kernel
theorem dX6_feed_32 : decode cX6_feed 32 = .ok (.ldc 83, 2) := by decide +kernel
theorem dX6_feed_34 : decode cX6_feed 34 = .ok (.invokevirtual 69, 3) := by decide +kernel
theorem dX6_feed_37 : decode cX6_feed 37 = .ok (.ireturn, 1) := by decide +kernel
theorem dX6_feed_38 : decode cX6_feed 38 = .ok (.iload_n 2, 1) := by decide +kernel
theorem dX6_feed_39 : decode cX6_feed 39 = .ok (.iconst 1, 1) := by decide +kernel
theorem dX6_feed_40 : decode cX6_feed 40 = .ok (.isub, 1) := by decide +kernel
theorem dX6_feed_41 : decode cX6_feed 41 = .ok (.istore_n 3, 1) := by decide +kernel
theorem dX6_feed_42 : decode cX6_feed 42 = .ok (.iload_n 3, 1) := by decide +kernel
theorem dX6_feed_43 : decode cX6_feed 43 = .ok (.ifCond .lt 26, 3) := by decide +kernel
theorem dX6_feed_46 : decode cX6_feed 46 = .ok (.aload_n 0, 1) := by decide +kernel
theorem dX6_feed_47 : decode cX6_feed 47 = .ok (.getfield 43, 3) := by decide +kernel
theorem dX6_feed_50 : decode cX6_feed 50 = .ok (.iload_n 1, 1) := by decide +kernel
theorem dX6_feed_51 : decode cX6_feed 51 = .ok (.bipush 8, 2) := by decide +kernel
theorem dX6_feed_53 : decode cX6_feed 53 = .ok (.iload_n 3, 1) := by decide +kernel
theorem dX6_feed_54 : decode cX6_feed 54 = .ok (.imul, 1) := by decide +kernel
theorem dX6_feed_55 : decode cX6_feed 55 = .ok (.iushr, 1) := by decide +kernel
theorem dX6_feed_56 : decode cX6_feed 56 = .ok (.sipush 255, 3) := by decide +kernel
theorem dX6_feed_59 : decode cX6_feed 59 = .ok (.iand, 1) := by decide +kernel
theorem dX6_feed_60 : decode cX6_feed 60 = .ok (.invokevirtual 237, 3) := by decide +kernel
theorem dX6_feed_63 : decode cX6_feed 63 = .ok (.iinc 3 (-1), 3) := by decide +kernel
theorem dX6_feed_66 : decode cX6_feed 66 = .ok (.goto (-24), 3) := by decide +kernel
theorem dX6_feed_69 : decode cX6_feed 69 = .ok (.aload_n 0, 1) := by decide +kernel
theorem dX6_feed_70 : decode cX6_feed 70 = .ok (.getfield 43, 3) := by decide +kernel
theorem dX6_feed_73 : decode cX6_feed 73 = .ok (.getfield 234, 3) := by decide +kernel
theorem dX6_feed_76 : decode cX6_feed 76 = .ok (.ireturn, 1) := by decide +kernel
theorem dX6_wipe_0 : decode cX6_wipe 0 = .ok (.aload_n 0, 1) := by decide +kernel
theorem dX6_wipe_1 : decode cX6_wipe 1 = .ok (.getfield 43, 3) := by decide +kernel
theorem dX6_wipe_4 : decode cX6_wipe 4 = .ok (.getfield 234, 3) := by decide +kernel
theorem dX6_wipe_7 : decode cX6_wipe 7 = .ok (.istore_n 1, 1) := by decide +kernel
theorem dX6_wipe_8 : decode cX6_wipe 8 = .ok (.aload_n 0, 1) := by decide +kernel
theorem dX6_wipe_9 : decode cX6_wipe 9 = .ok (.getfield 43, 3) := by decide +kernel
theorem dX6_wipe_12 : decode cX6_wipe 12 = .ok (.iconst 0, 1) := by decide +kernel
theorem dX6_wipe_13 : decode cX6_wipe 13 = .ok (.putfield 234, 3) := by decide +kernel
theorem dX6_wipe_16 : decode cX6_wipe 16 = .ok (.iload_n 1, 1) := by decide +kernel
theorem dX6_wipe_17 : decode cX6_wipe 17 = .ok (.ireturn, 1) := by decide +kernel
theorem dX6_text_0 : decode cX6_text 0 = .ok (.aload_n 0, 1) := by decide +kernel
theorem dX6_text_1 : decode cX6_text 1 = .ok (.getfield 19, 3) := by decide +kernel
theorem dX6_text_4 : decode cX6_text 4 = .ok (.aload_n 0, 1) := by decide +kernel
theorem dX6_text_5 : decode cX6_text 5 = .ok (.getfield 12, 3) := by decide +kernel
theorem dX6_text_8 : decode cX6_text 8 = .ok (.invokevirtual 240, 3) := by decide +kernel
theorem dX6_text_11 : decode cX6_text 11 = .ok (.aload_n 0, 1) := by decide +kernel
theorem dX6_text_12 : decode cX6_text 12 = .ok (.getfield 43, 3) := by decide +kernel
theorem dX6_text_15 : decode cX6_text 15 = .ok (.aload_n 0, 1) := by decide +kernel
theorem dX6_text_16 : decode cX6_text 16 = .ok (.getfield 19, 3) := by decide +kernel
theorem dX6_text_19 : decode cX6_text 19 = .ok (.invokevirtual 243, 3) := by decide +kernel
theorem dX6_text_22 : decode cX6_text 22 = .ok (.istore_n 1, 1) := by decide +kernel
theorem dX6_text_23 : decode cX6_text 23 = .ok (.aload_n 0, 1) := by decide +kernel
theorem dX6_text_24 : decode cX6_text 24 = .ok (.getfield 43, 3) := by decide +kernel
theorem dX6_text_27 : decode cX6_text 27 = .ok (.iconst 0, 1) := by decide +kernel
theorem dX6_text_28 : decode cX6_text 28 = .ok (.putfield 234, 3) := by decide +kernel
theorem dX6_text_31 : decode cX6_text 31 = .ok (.iload_n 1, 1) := by decide +kernel
theorem dX6_text_32 : decode cX6_text 32 = .ok (.ifCond .lt 14, 3) := by decide +kernel
theorem dX6_text_35 : decode cX6_text 35 = .ok (.aload_n 0, 1) := by decide +kernel
theorem dX6_text_36 : decode cX6_text 36 = .ok (.getfield 12, 3) := by decide +kernel
theorem dX6_text_39 : decode cX6_text 39 = .ok (.aload_n 0, 1) := by decide +kernel
theorem dX6_text_40 : decode cX6_text 40 = .ok (.getfield 19, 3) := by decide +kernel
theorem dX6_text_43 : decode cX6_text 43 = .ok (.invokevirtual 240, 3) := by decide +kernel
theorem dX6_text_46 : decode cX6_text 46 = .ok (.iload_n 1, 1) := by decide +kernel
theorem dX6_text_47 : decode cX6_text 47 = .ok (.ireturn, 1) := by decide +kernel
theorem dX6_hold_0 : decode cX6_hold 0 = .ok (.iload_n 1, 1) := by decide +kernel
theorem dX6_hold_1 : decode cX6_hold 1 = .ok (.invokestatic 246, 3) := by decide +kernel
theorem dX6_hold_4 : decode cX6_hold 4 = .ok (.ifCond .eq 19, 3) := by decide +kernel
theorem dX6_hold_7 : decode cX6_hold 7 = .ok (.iload_n 2, 1) := by decide +kernel
theorem dX6_hold_8 : decode cX6_hold 8 = .ok (.iconst (-1), 1) := by decide +kernel
theorem dX6_hold_9 : decode cX6_hold 9 = .ok (.if_icmp .eq 21, 3) := by decide +kernel
theorem dX6_hold_12 : decode cX6_hold 12 = .ok (.aload_n 0, 1) := by decide +kernel
theorem dX6_hold_13 : decode cX6_hold 13 = .ok (.getfield 12, 3) := by decide +kernel
theorem dX6_hold_16 : decode cX6_hold 16 = .ok (.iload_n 2, 1) := by decide +kernel
theorem dX6_hold_17 : decode cX6_hold 17 = .ok (.invokevirtual 88, 3) := by decide +kernel
theorem dX6_hold_20 : decode cX6_hold 20 = .ok (.ifCond .ne 10, 3) := by decide +kernel
theorem dX6_hold_23 : decode cX6_hold 23 = .ok (.aload_n 0, 1) := by decide +kernel
theorem dX6_hold_24 : decode cX6_hold 24 = .ok (.ldc 68, 2) := by decide +kernel
theorem dX6_hold_26 : decode cX6_hold 26 = .ok (.invokevirtual 69, 3) := by decide +kernel
theorem dX6_hold_29 : decode cX6_hold 29 = .ok (.ireturn, 1) := by decide +kernel
theorem dX6_hold_30 : decode cX6_hold 30 = .ok (.aload_n 0, 1) := by decide +kernel
theorem dX6_hold_31 : decode cX6_hold 31 = .ok (.getfield 12, 3) := by decide +kernel
theorem dX6_hold_34 : decode cX6_hold 34 = .ok (.getfield 249, 3) := by decide +kernel
theorem dX6_hold_37 : decode cX6_hold 37 = .ok (.iload_n 1, 1) := by decide +kernel
theorem dX6_hold_38 : decode cX6_hold 38 = .ok (.iload_n 2, 1) := by decide +kernel
theorem dX6_hold_39 : decode cX6_hold 39 = .ok (.iastore, 1) := by decide +kernel
theorem dX6_hold_40 : decode cX6_hold 40 = .ok (.iconst 1, 1) := by decide +kernel
theorem dX6_hold_41 : decode cX6_hold 41 = .ok (.ireturn, 1) := by decide +kernel
theorem dX6_as_0 : decode cX6_as 0 = .ok (.iload_n 1, 1) := by decide +kernel
theorem dX6_as_1 : decode cX6_as 1 = .ok (.invokestatic 246, 3) := by decide +kernel
theorem dX6_as_4 : decode cX6_as 4 = .ok (.ifCond .eq 10, 3) := by decide +kernel
theorem dX6_as_7 : decode cX6_as 7 = .ok (.iload_n 2, 1) := by decide +kernel
theorem dX6_as_8 : decode cX6_as 8 = .ok (.invokestatic 76, 3) := by decide +kernel
theorem dX6_as_11 : decode cX6_as 11 = .ok (.ifCond .ne 10, 3) := by decide +kernel
theorem dX6_as_14 : decode cX6_as 14 = .ok (.aload_n 0, 1) := by decide +kernel
theorem dX6_as_15 : decode cX6_as 15 = .ok (.ldc 68, 2) := by decide +kernel
theorem dX6_as_17 : decode cX6_as 17 = .ok (.invokevirtual 69, 3) := by decide +kernel
theorem dX6_as_20 : decode cX6_as 20 = .ok (.ireturn, 1) := by decide +kernel
theorem dX6_as_21 : decode cX6_as 21 = .ok (.aload_n 0, 1) := by decide +kernel
theorem dX6_as_22 : decode cX6_as 22 = .ok (.getfield 12, 3) := by decide +kernel
theorem dX6_as_25 : decode cX6_as 25 = .ok (.getfield 249, 3) := by decide +kernel
theorem dX6_as_28 : decode cX6_as 28 = .ok (.iload_n 1, 1) := by decide +kernel
theorem dX6_as_29 : decode cX6_as 29 = .ok (.iaload, 1) := by decide +kernel
theorem dX6_as_30 : decode cX6_as 30 = .ok (.istore_n 3, 1) := by decide +kernel
theorem dX6_as_31 : decode cX6_as 31 = .ok (.aload_n 0, 1) := by decide +kernel
theorem dX6_as_32 : decode cX6_as 32 = .ok (.getfield 12, 3) := by decide +kernel
theorem dX6_as_35 : decode cX6_as 35 = .ok (.iload_n 3, 1) := by decide +kernel
theorem dX6_as_36 : decode cX6_as 36 = .ok (.invokevirtual 88, 3) := by decide +kernel
theorem dX6_as_39 : decode cX6_as 39 = .ok (.ifCond .ne 10, 3) := by decide +kernel
theorem dX6_as_42 : decode cX6_as 42 = .ok (.aload_n 0, 1) := by decide +kernel
theorem dX6_as_43 : decode cX6_as 43 = .ok (.ldc 252, 2) := by decide +kernel
theorem dX6_as_45 : decode cX6_as 45 = .ok (.invokevirtual 69, 3) := by decide +kernel
theorem dX6_as_48 : decode cX6_as 48 = .ok (.ireturn, 1) := by decide +kernel
theorem dX6_as_49 : decode cX6_as 49 = .ok (.aload_n 0, 1) := by decide +kernel
theorem dX6_as_50 : decode cX6_as 50 = .ok (.getfield 12, 3) := by decide +kernel
theorem dX6_as_53 : decode cX6_as 53 = .ok (.getfield 91, 3) := by decide +kernel
theorem dX6_as_56 : decode cX6_as 56 = .ok (.iload_n 3, 1) := by decide +kernel
theorem dX6_as_57 : decode cX6_as 57 = .ok (.iaload, 1) := by decide +kernel
theorem dX6_as_58 : decode cX6_as 58 = .ok (.iload_n 2, 1) := by decide +kernel
theorem dX6_as_59 : decode cX6_as 59 = .ok (.invokestatic 253, 3) := by decide +kernel
theorem dX6_as_62 : decode cX6_as 62 = .ok (.ifCond .eq 7, 3) := by decide +kernel
theorem dX6_as_65 : decode cX6_as 65 = .ok (.iload_n 3, 1) := by decide +kernel
theorem dX6_as_66 : decode cX6_as 66 = .ok (.goto 10, 3) := by decide +kernel
theorem dX6_as_69 : decode cX6_as 69 = .ok (.aload_n 0, 1) := by decide +kernel
theorem dX6_as_70 : decode cX6_as 70 = .ok (.ldc_w 258, 3) := by decide +kernel
theorem dX6_as_73 : decode cX6_as 73 = .ok (.invokevirtual 69, 3) := by decide +kernel
theorem dX6_as_76 : decode cX6_as 76 = .ok (.ireturn, 1) := by decide +kernel
theorem dX6_sheet_0 : decode cX6_sheet 0 = .ok (.iload_n 1, 1) := by decide +kernel
theorem dX6_sheet_1 : decode cX6_sheet 1 = .ok (.invokestatic 259, 3) := by decide +kernel
theorem dX6_sheet_4 : decode cX6_sheet 4 = .ok (.ifCond .eq 25, 3) := by decide +kernel
theorem dX6_sheet_7 : decode cX6_sheet 7 = .ok (.iload_n 2, 1) := by decide +kernel
theorem dX6_sheet_8 : decode cX6_sheet 8 = .ok (.ifCond .eq 28, 3) := by decide +kernel
theorem dX6_sheet_11 : decode cX6_sheet 11 = .ok (.iload_n 2, 1) := by decide +kernel
theorem dX6_sheet_12 : decode cX6_sheet 12 = .ok (.bipush 8, 2) := by decide +kernel
theorem dX6_sheet_14 : decode cX6_sheet 14 = .ok (.if_icmp .eq 22, 3) := by decide +kernel
theorem dX6_sheet_17 : decode cX6_sheet 17 = .ok (.iload_n 2, 1) := by decide +kernel
theorem dX6_sheet_18 : decode cX6_sheet 18 = .ok (.bipush 16, 2) := by decide +kernel
theorem dX6_sheet_20 : decode cX6_sheet 20 = .ok (.if_icmp .eq 16, 3) := by decide +kernel
theorem dX6_sheet_23 : decode cX6_sheet 23 = .ok (.iload_n 2, 1) := by decide +kernel
theorem dX6_sheet_24 : decode cX6_sheet 24 = .ok (.bipush 32, 2) := by decide +kernel
theorem dX6_sheet_26 : decode cX6_sheet 26 = .ok (.if_icmp .eq 10, 3) := by decide +kernel
theorem dX6_sheet_29 : decode cX6_sheet 29 = .ok (.aload_n 0, 1) := by decide +kernel
theorem dX6_sheet_30 : decode cX6_sheet 30 = .ok (.ldc 68, 2) := by decide +kernel
theorem dX6_sheet_32 : decode cX6_sheet 32 = .ok (.invokevirtual 69, 3) := by decide +kernel
theorem dX6_sheet_35 : decode cX6_sheet 35 = .ok (.ireturn, 1) := by decide +kernel
theorem dX6_sheet_36 : decode cX6_sheet 36 = .ok (.iload_n 3, 1) := by decide +kernel
theorem dX6_sheet_37 : decode cX6_sheet 37 = .ok (.ifCond .ge 11, 3) := by decide +kernel
theorem dX6_sheet_40 : decode cX6_sheet 40 = .ok (.aload_n 0, 1) := by decide +kernel
theorem dX6_sheet_41 : decode cX6_sheet 41 = .ok (.ldc_w 262, 3) := by decide +kernel
theorem dX6_sheet_44 : decode cX6_sheet 44 = .ok (.invokevirtual 69, 3) := by decide +kernel
theorem dX6_sheet_47 : decode cX6_sheet 47 = .ok (.ireturn, 1) := by decide +kernel
theorem dX6_sheet_48 : decode cX6_sheet 48 = .ok (.iload_n 3, 1) := by decide +kernel
theorem dX6_sheet_49 : decode cX6_sheet 49 = .ok (.bipush 40, 2) := by decide +kernel
theorem dX6_sheet_51 : decode cX6_sheet 51 = .ok (.if_icmp .le 10, 3) := by decide +kernel
theorem dX6_sheet_54 : decode cX6_sheet 54 = .ok (.aload_n 0, 1) := by decide +kernel
theorem dX6_sheet_55 : decode cX6_sheet 55 = .ok (.ldc 68, 2) := by decide +kernel
theorem dX6_sheet_57 : decode cX6_sheet 57 = .ok (.invokevirtual 69, 3) := by decide +kernel
theorem dX6_sheet_60 : decode cX6_sheet 60 = .ok (.ireturn, 1) := by decide +kernel
theorem dX6_sheet_61 : decode cX6_sheet 61 = .ok (.aload_n 0, 1) := by decide +kernel
theorem dX6_sheet_62 : decode cX6_sheet 62 = .ok (.getfield 50, 3) := by decide +kernel
theorem dX6_sheet_65 : decode cX6_sheet 65 = .ok (.iload_n 1, 1) := by decide +kernel
theorem dX6_sheet_66 : decode cX6_sheet 66 = .ok (.iload_n 2, 1) := by decide +kernel
theorem dX6_sheet_67 : decode cX6_sheet 67 = .ok (.iload_n 2, 1) := by decide +kernel
theorem dX6_sheet_68 : decode cX6_sheet 68 = .ok (.ifCond .ne 7, 3) := by decide +kernel
theorem dX6_sheet_71 : decode cX6_sheet 71 = .ok (.iconst 0, 1) := by decide +kernel
theorem dX6_sheet_72 : decode cX6_sheet 72 = .ok (.goto 4, 3) := by decide +kernel
theorem dX6_sheet_75 : decode cX6_sheet 75 = .ok (.iload_n 3, 1) := by decide +kernel
theorem dX6_sheet_76 : decode cX6_sheet 76 = .ok (.invokevirtual 263, 3) := by decide +kernel
theorem dX6_sheet_79 : decode cX6_sheet 79 = .ok (.aload_n 0, 1) := by decide +kernel
theorem dX6_sheet_80 : decode cX6_sheet 80 = .ok (.getfield 50, 3) := by decide +kernel
theorem dX6_sheet_83 : decode cX6_sheet 83 = .ok (.getfield 218, 3) := by decide +kernel
theorem dX6_sheet_86 : decode cX6_sheet 86 = .ok (.iload_n 1, 1) := by decide +kernel
theorem dX6_sheet_87 : decode cX6_sheet 87 = .ok (.iaload, 1) := by decide +kernel
theorem dX6_sheet_88 : decode cX6_sheet 88 = .ok (.ireturn, 1) := by decide +kernel
theorem dX6_write_0 : decode cX6_write 0 = .ok (.aload_n 0, 1) := by decide +kernel
theorem dX6_write_1 : decode cX6_write 1 = .ok (.getfield 50, 3) := by decide +kernel
theorem dX6_write_4 : decode cX6_write 4 = .ok (.iload_n 1, 1) := by decide +kernel
theorem dX6_write_5 : decode cX6_write 5 = .ok (.invokevirtual 215, 3) := by decide +kernel
theorem dX6_write_8 : decode cX6_write 8 = .ok (.istore 4, 2) := by decide +kernel
theorem dX6_write_10 : decode cX6_write 10 = .ok (.iload 4, 2) := by decide +kernel
theorem dX6_write_12 : decode cX6_write 12 = .ok (.ifCond .eq 10, 3) := by decide +kernel
theorem dX6_write_15 : decode cX6_write 15 = .ok (.aload_n 0, 1) := by decide +kernel
theorem dX6_write_16 : decode cX6_write 16 = .ok (.iload 4, 2) := by decide +kernel
theorem dX6_write_18 : decode cX6_write 18 = .ok (.invokevirtual 69, 3) := by decide +kernel
theorem dX6_write_21 : decode cX6_write 21 = .ok (.ireturn, 1) := by decide +kernel
theorem dX6_write_22 : decode cX6_write 22 = .ok (.iload_n 2, 1) := by decide +kernel
theorem dX6_write_23 : decode cX6_write 23 = .ok (.ifCond .lt 16, 3) := by decide +kernel
theorem dX6_write_26 : decode cX6_write 26 = .ok (.iload_n 2, 1) := by decide +kernel
theorem dX6_write_27 : decode cX6_write 27 = .ok (.aload_n 0, 1) := by decide +kernel
theorem dX6_write_28 : decode cX6_write 28 = .ok (.getfield 50, 3) := by decide +kernel
theorem dX6_write_31 : decode cX6_write 31 = .ok (.getfield 218, 3) := by decide +kernel
theorem dX6_write_34 : decode cX6_write 34 = .ok (.iload_n 1, 1) := by decide +kernel
theorem dX6_write_35 : decode cX6_write 35 = .ok (.iaload, 1) := by decide +kernel
theorem dX6_write_36 : decode cX6_write 36 = .ok (.if_icmp .lt 10, 3) := by decide +kernel
theorem dX6_write_39 : decode cX6_write 39 = .ok (.aload_n 0, 1) := by decide +kernel
theorem dX6_write_40 : decode cX6_write 40 = .ok (.ldc 68, 2) := by decide +kernel
theorem dX6_write_42 : decode cX6_write 42 = .ok (.invokevirtual 69, 3) := by decide +kernel
theorem dX6_write_45 : decode cX6_write 45 = .ok (.ireturn, 1) := by decide +kernel
theorem dX6_write_46 : decode cX6_write 46 = .ok (.aload_n 0, 1) := by decide +kernel
theorem dX6_write_47 : decode cX6_write 47 = .ok (.getfield 50, 3) := by decide +kernel
theorem dX6_write_50 : decode cX6_write 50 = .ok (.iload_n 1, 1) := by decide +kernel
theorem dX6_write_51 : decode cX6_write 51 = .ok (.iload_n 2, 1) := by decide +kernel
theorem dX6_write_52 : decode cX6_write 52 = .ok (.iload_n 3, 1) := by decide +kernel
theorem dX6_write_53 : decode cX6_write 53 = .ok (.invokevirtual 267, 3) := by decide +kernel
theorem dX6_write_56 : decode cX6_write 56 = .ok (.iconst 1, 1) := by decide +kernel
theorem dX6_write_57 : decode cX6_write 57 = .ok (.ireturn, 1) := by decide +kernel
theorem dX6_copy_0 : decode cX6_copy 0 = .ok (.iload_n 1, 1) := by decide +kernel
theorem dX6_copy_1 : decode cX6_copy 1 = .ok (.invokestatic 259, 3) := by decide +kernel
theorem dX6_copy_4 : decode cX6_copy 4 = .ok (.ifCond .eq 10, 3) := by decide +kernel
theorem dX6_copy_7 : decode cX6_copy 7 = .ok (.iload_n 3, 1) := by decide +kernel
theorem dX6_copy_8 : decode cX6_copy 8 = .ok (.invokestatic 259, 3) := by decide +kernel
theorem dX6_copy_11 : decode cX6_copy 11 = .ok (.ifCond .ne 10, 3) := by decide +kernel
theorem dX6_copy_14 : decode cX6_copy 14 = .ok (.aload_n 0, 1) := by decide +kernel
theorem dX6_copy_15 : decode cX6_copy 15 = .ok (.ldc 68, 2) := by decide +kernel
theorem dX6_copy_17 : decode cX6_copy 17 = .ok (.invokevirtual 69, 3) := by decide +kernel
theorem dX6_copy_20 : decode cX6_copy 20 = .ok (.ireturn, 1) := by decide +kernel
theorem dX6_copy_21 : decode cX6_copy 21 = .ok (.aload_n 0, 1) := by decide +kernel
theorem dX6_copy_22 : decode cX6_copy 22 = .ok (.getfield 50, 3) := by decide +kernel
theorem dX6_copy_25 : decode cX6_copy 25 = .ok (.iload_n 1, 1) := by decide +kernel
theorem dX6_copy_26 : decode cX6_copy 26 = .ok (.invokevirtual 215, 3) := by decide +kernel
theorem dX6_copy_29 : decode cX6_copy 29 = .ok (.ifCond .ne 14, 3) := by decide +kernel
theorem dX6_copy_32 : decode cX6_copy 32 = .ok (.aload_n 0, 1) := by decide +kernel
theorem dX6_copy_33 : decode cX6_copy 33 = .ok (.getfield 50, 3) := by decide +kernel
theorem dX6_copy_36 : decode cX6_copy 36 = .ok (.iload_n 3, 1) := by decide +kernel
theorem dX6_copy_37 : decode cX6_copy 37 = .ok (.invokevirtual 215, 3) := by decide +kernel
theorem dX6_copy_40 : decode cX6_copy 40 = .ok (.ifCond .eq 10, 3) := by decide +kernel
theorem dX6_copy_43 : decode cX6_copy 43 = .ok (.aload_n 0, 1) := by decide +kernel
theorem dX6_copy_44 : decode cX6_copy 44 = .ok (.ldc 252, 2) := by decide +kernel
theorem dX6_copy_46 : decode cX6_copy 46 = .ok (.invokevirtual 69, 3) := by decide +kernel
theorem dX6_copy_49 : decode cX6_copy 49 = .ok (.ireturn, 1) := by decide +kernel
theorem dX6_copy_50 : decode cX6_copy 50 = .ok (.aload_n 0, 1) := by decide +kernel
theorem dX6_copy_51 : decode cX6_copy 51 = .ok (.getfield 50, 3) := by decide +kernel
theorem dX6_copy_54 : decode cX6_copy 54 = .ok (.getfield 269, 3) := by decide +kernel
theorem dX6_copy_57 : decode cX6_copy 57 = .ok (.iload_n 1, 1) := by decide +kernel
theorem dX6_copy_58 : decode cX6_copy 58 = .ok (.iaload, 1) := by decide +kernel
theorem dX6_copy_59 : decode cX6_copy 59 = .ok (.aload_n 0, 1) := by decide +kernel
theorem dX6_copy_60 : decode cX6_copy 60 = .ok (.getfield 50, 3) := by decide +kernel
theorem dX6_copy_63 : decode cX6_copy 63 = .ok (.getfield 269, 3) := by decide +kernel
theorem dX6_copy_66 : decode cX6_copy 66 = .ok (.iload_n 3, 1) := by decide +kernel
theorem dX6_copy_67 : decode cX6_copy 67 = .ok (.iaload, 1) := by decide +kernel
theorem dX6_copy_68 : decode cX6_copy 68 = .ok (.if_icmp .eq 11, 3) := by decide +kernel
theorem dX6_copy_71 : decode cX6_copy 71 = .ok (.aload_n 0, 1) := by decide +kernel
theorem dX6_copy_72 : decode cX6_copy 72 = .ok (.ldc_w 258, 3) := by decide +kernel
theorem dX6_copy_75 : decode cX6_copy 75 = .ok (.invokevirtual 69, 3) := by decide +kernel
theorem dX6_copy_78 : decode cX6_copy 78 = .ok (.ireturn, 1) := by decide +kernel
theorem dX6_copy_79 : decode cX6_copy 79 = .ok (.aload_n 0, 1) := by decide +kernel
theorem dX6_copy_80 : decode cX6_copy 80 = .ok (.getfield 50, 3) := by decide +kernel
theorem dX6_copy_83 : decode cX6_copy 83 = .ok (.iload_n 1, 1) := by decide +kernel
theorem dX6_copy_84 : decode cX6_copy 84 = .ok (.iload_n 2, 1) := by decide +kernel
theorem dX6_copy_85 : decode cX6_copy 85 = .ok (.iload 5, 2) := by decide +kernel
theorem dX6_copy_87 : decode cX6_copy 87 = .ok (.invokevirtual 272, 3) := by decide +kernel
theorem dX6_copy_90 : decode cX6_copy 90 = .ok (.ifCond .eq 18, 3) := by decide +kernel
theorem dX6_copy_93 : decode cX6_copy 93 = .ok (.aload_n 0, 1) := by decide +kernel
theorem dX6_copy_94 : decode cX6_copy 94 = .ok (.getfield 50, 3) := by decide +kernel
theorem dX6_copy_97 : decode cX6_copy 97 = .ok (.iload_n 3, 1) := by decide +kernel
theorem dX6_copy_98 : decode cX6_copy 98 = .ok (.iload 4, 2) := by decide +kernel
theorem dX6_copy_100 : decode cX6_copy 100 = .ok (.iload 5, 2) := by decide +kernel
theorem dX6_copy_102 : decode cX6_copy 102 = .ok (.invokevirtual 272, 3) := by decide +kernel
theorem dX6_copy_105 : decode cX6_copy 105 = .ok (.ifCond .ne 10, 3) := by decide +kernel
theorem dX6_copy_108 : decode cX6_copy 108 = .ok (.aload_n 0, 1) := by decide +kernel
theorem dX6_copy_109 : decode cX6_copy 109 = .ok (.ldc 68, 2) := by decide +kernel
theorem dX6_copy_111 : decode cX6_copy 111 = .ok (.invokevirtual 69, 3) := by decide +kernel
theorem dX6_copy_114 : decode cX6_copy 114 = .ok (.ireturn, 1) := by decide +kernel
theorem dX6_copy_115 : decode cX6_copy 115 = .ok (.aload_n 0, 1) := by decide +kernel
theorem dX6_copy_116 : decode cX6_copy 116 = .ok (.getfield 50, 3) := by decide +kernel
theorem dX6_copy_119 : decode cX6_copy 119 = .ok (.getfield 276, 3) := by decide +kernel
theorem dX6_copy_122 : decode cX6_copy 122 = .ok (.iload_n 1, 1) := by decide +kernel
theorem dX6_copy_123 : decode cX6_copy 123 = .ok (.aaload, 1) := by decide +kernel
theorem dX6_copy_124 : decode cX6_copy 124 = .ok (.iload_n 2, 1) := by decide +kernel
theorem dX6_copy_125 : decode cX6_copy 125 = .ok (.aload_n 0, 1) := by decide +kernel
theorem dX6_copy_126 : decode cX6_copy 126 = .ok (.getfield 50, 3) := by decide +kernel
theorem dX6_copy_129 : decode cX6_copy 129 = .ok (.getfield 276, 3) := by decide +kernel
theorem dX6_copy_132 : decode cX6_copy 132 = .ok (.iload_n 3, 1) := by decide +kernel
theorem dX6_copy_133 : decode cX6_copy 133 = .ok (.aaload, 1) := by decide +kernel
theorem dX6_copy_134 : decode cX6_copy 134 = .ok (.iload 4, 2) := by decide +kernel
theorem dX6_copy_136 : decode cX6_copy 136 = .ok (.iload 5, 2) := by decide +kernel
theorem dX6_copy_138 : decode cX6_copy 138 = .ok (.invokestatic 280, 3) := by decide +kernel
theorem dX6_copy_141 : decode cX6_copy 141 = .ok (.iload 5, 2) := by decide +kernel
theorem dX6_copy_143 : decode cX6_copy 143 = .ok (.ireturn, 1) := by decide +kernel
theorem dX6_load_0 : decode cX6_load 0 = .ok (.aload_n 0, 1) := by decide +kernel
theorem dX6_load_1 : decode cX6_load 1 = .ok (.getfield 50, 3) := by decide +kernel
theorem dX6_load_4 : decode cX6_load 4 = .ok (.iload_n 1, 1) := by decide +kernel
theorem dX6_load_5 : decode cX6_load 5 = .ok (.invokevirtual 215, 3) := by decide +kernel
theorem dX6_load_8 : decode cX6_load 8 = .ok (.istore_n 2, 1) := by decide +kernel
theorem dX6_load_9 : decode cX6_load 9 = .ok (.iload_n 2, 1) := by decide +kernel
theorem dX6_load_10 : decode cX6_load 10 = .ok (.ifCond .eq 9, 3) := by decide +kernel
theorem dX6_load_13 : decode cX6_load 13 = .ok (.aload_n 0, 1) := by decide +kernel
theorem dX6_load_14 : decode cX6_load 14 = .ok (.iload_n 2, 1) := by decide +kernel
theorem dX6_load_15 : decode cX6_load 15 = .ok (.invokevirtual 69, 3) := by decide +kernel
theorem dX6_load_18 : decode cX6_load 18 = .ok (.ireturn, 1) := by decide +kernel
theorem dX6_load_19 : decode cX6_load 19 = .ok (.iconst 0, 1) := by decide +kernel
theorem dX6_load_20 : decode cX6_load 20 = .ok (.istore_n 3, 1) := by decide +kernel
theorem dX6_load_21 : decode cX6_load 21 = .ok (.iload_n 3, 1) := by decide +kernel
theorem dX6_load_22 : decode cX6_load 22 = .ok (.bipush 12, 2) := by decide +kernel
theorem dX6_load_24 : decode cX6_load 24 = .ok (.if_icmp .ge 59, 3) := by decide +kernel
theorem dX6_load_27 : decode cX6_load 27 = .ok (.iload_n 3, 1) := by decide +kernel
theorem dX6_load_28 : decode cX6_load 28 = .ok (.aload_n 0, 1) := by decide +kernel
theorem dX6_load_29 : decode cX6_load 29 = .ok (.getfield 50, 3) := by decide +kernel
theorem dX6_load_32 : decode cX6_load 32 = .ok (.getfield 218, 3) := by decide +kernel
theorem dX6_load_35 : decode cX6_load 35 = .ok (.iload_n 1, 1) := by decide +kernel
theorem dX6_load_36 : decode cX6_load 36 = .ok (.iaload, 1) := by decide +kernel
theorem dX6_load_37 : decode cX6_load 37 = .ok (.if_icmp .ge 46, 3) := by decide +kernel
theorem dX6_load_40 : decode cX6_load 40 = .ok (.aload_n 0, 1) := by decide +kernel
theorem dX6_load_41 : decode cX6_load 41 = .ok (.getfield 50, 3) := by decide +kernel
theorem dX6_load_44 : decode cX6_load 44 = .ok (.getfield 276, 3) := by decide +kernel
theorem dX6_load_47 : decode cX6_load 47 = .ok (.iload_n 1, 1) := by decide +kernel
theorem dX6_load_48 : decode cX6_load 48 = .ok (.aaload, 1) := by decide +kernel
theorem dX6_load_49 : decode cX6_load 49 = .ok (.iload_n 3, 1) := by decide +kernel
theorem dX6_load_50 : decode cX6_load 50 = .ok (.iaload, 1) := by decide +kernel
theorem dX6_load_51 : decode cX6_load 51 = .ok (.invokestatic 65, 3) := by decide +kernel
theorem dX6_load_54 : decode cX6_load 54 = .ok (.ifCond .eq 29, 3) := by decide +kernel
theorem dX6_load_57 : decode cX6_load 57 = .ok (.aload_n 0, 1) := by decide +kernel
theorem dX6_load_58 : decode cX6_load 58 = .ok (.getfield 12, 3) := by decide +kernel
theorem dX6_load_61 : decode cX6_load 61 = .ok (.getfield 73, 3) := by decide +kernel
theorem dX6_load_64 : decode cX6_load 64 = .ok (.iload_n 3, 1) := by decide +kernel
theorem dX6_load_65 : decode cX6_load 65 = .ok (.aload_n 0, 1) := by decide +kernel
theorem dX6_load_66 : decode cX6_load 66 = .ok (.getfield 50, 3) := by decide +kernel
theorem dX6_load_69 : decode cX6_load 69 = .ok (.getfield 276, 3) := by decide +kernel
theorem dX6_load_72 : decode cX6_load 72 = .ok (.iload_n 1, 1) := by decide +kernel
theorem dX6_load_73 : decode cX6_load 73 = .ok (.aaload, 1) := by decide +kernel
theorem dX6_load_74 : decode cX6_load 74 = .ok (.iload_n 3, 1) := by decide +kernel
theorem dX6_load_75 : decode cX6_load 75 = .ok (.iaload, 1) := by decide +kernel
theorem dX6_load_76 : decode cX6_load 76 = .ok (.iastore, 1) := by decide +kernel
theorem dX6_load_77 : decode cX6_load 77 = .ok (.iinc 3 1, 3) := by decide +kernel
theorem dX6_load_80 : decode cX6_load 80 = .ok (.goto (-59), 3) := by decide +kernel
theorem dX6_load_83 : decode cX6_load 83 = .ok (.iload_n 3, 1) := by decide +kernel
theorem dX6_load_84 : decode cX6_load 84 = .ok (.ireturn, 1) := by decide +kernel
theorem dX6_judge_0 : decode cX6_judge 0 = .ok (.aload_n 0, 1) := by decide +kernel
theorem dX6_judge_1 : decode cX6_judge 1 = .ok (.getfield 50, 3) := by decide +kernel
theorem dX6_judge_4 : decode cX6_judge 4 = .ok (.iload_n 1, 1) := by decide +kernel
theorem dX6_judge_5 : decode cX6_judge 5 = .ok (.invokevirtual 215, 3) := by decide +kernel
theorem dX6_judge_8 : decode cX6_judge 8 = .ok (.istore_n 2, 1) := by decide +kernel
theorem dX6_judge_9 : decode cX6_judge 9 = .ok (.iload_n 2, 1) := by decide +kernel
theorem dX6_judge_10 : decode cX6_judge 10 = .ok (.ifCond .eq 9, 3) := by decide +kernel
theorem dX6_judge_13 : decode cX6_judge 13 = .ok (.aload_n 0, 1) := by decide +kernel
theorem dX6_judge_14 : decode cX6_judge 14 = .ok (.iload_n 2, 1) := by decide +kernel
theorem dX6_judge_15 : decode cX6_judge 15 = .ok (.invokevirtual 69, 3) := by decide +kernel
theorem dX6_judge_18 : decode cX6_judge 18 = .ok (.ireturn, 1) := by decide +kernel
theorem dX6_judge_19 : decode cX6_judge 19 = .ok (.iconst 0, 1) := by decide +kernel
theorem dX6_judge_20 : decode cX6_judge 20 = .ok (.istore_n 3, 1) := by decide +kernel
theorem dX6_judge_21 : decode cX6_judge 21 = .ok (.aload_n 0, 1) := by decide +kernel
theorem dX6_judge_22 : decode cX6_judge 22 = .ok (.getfield 25, 3) := by decide +kernel
theorem dX6_judge_25 : decode cX6_judge 25 = .ok (.aload_n 0, 1) := by decide +kernel
theorem dX6_judge_26 : decode cX6_judge 26 = .ok (.getfield 12, 3) := by decide +kernel
theorem dX6_judge_29 : decode cX6_judge 29 = .ok (.getfield 73, 3) := by decide +kernel
theorem dX6_judge_32 : decode cX6_judge 32 = .ok (.invokevirtual 286, 3) := by decide +kernel
theorem dX6_judge_35 : decode cX6_judge 35 = .ok (.iconst 0, 1) := by decide +kernel
theorem dX6_judge_36 : decode cX6_judge 36 = .ok (.istore 4, 2) := by decide +kernel
theorem dX6_judge_38 : decode cX6_judge 38 = .ok (.iload 4, 2) := by decide +kernel
theorem dX6_judge_40 : decode cX6_judge 40 = .ok (.aload_n 0, 1) := by decide +kernel
theorem dX6_judge_41 : decode cX6_judge 41 = .ok (.getfield 50, 3) := by decide +kernel
theorem dX6_judge_44 : decode cX6_judge 44 = .ok (.getfield 218, 3) := by decide +kernel
theorem dX6_judge_47 : decode cX6_judge 47 = .ok (.iload_n 1, 1) := by decide +kernel
theorem dX6_judge_48 : decode cX6_judge 48 = .ok (.iaload, 1) := by decide +kernel
theorem dX6_judge_49 : decode cX6_judge 49 = .ok (.if_icmp .ge 93, 3) := by decide +kernel
theorem dX6_judge_52 : decode cX6_judge 52 = .ok (.aload_n 0, 1) := by decide +kernel
theorem dX6_judge_53 : decode cX6_judge 53 = .ok (.getfield 50, 3) := by decide +kernel
theorem dX6_judge_56 : decode cX6_judge 56 = .ok (.getfield 276, 3) := by decide +kernel
theorem dX6_judge_59 : decode cX6_judge 59 = .ok (.iload_n 1, 1) := by decide +kernel
theorem dX6_judge_60 : decode cX6_judge 60 = .ok (.aaload, 1) := by decide +kernel
theorem dX6_judge_61 : decode cX6_judge 61 = .ok (.iload 4, 2) := by decide +kernel
theorem dX6_judge_63 : decode cX6_judge 63 = .ok (.iaload, 1) := by decide +kernel
theorem dX6_judge_64 : decode cX6_judge 64 = .ok (.istore 5, 2) := by decide +kernel
theorem dX6_judge_66 : decode cX6_judge 66 = .ok (.aload_n 0, 1) := by decide +kernel
theorem dX6_judge_67 : decode cX6_judge 67 = .ok (.getfield 12, 3) := by decide +kernel
theorem dX6_judge_70 : decode cX6_judge 70 = .ok (.iload 5, 2) := by decide +kernel
theorem dX6_judge_72 : decode cX6_judge 72 = .ok (.invokevirtual 88, 3) := by decide +kernel
theorem dX6_judge_75 : decode cX6_judge 75 = .ok (.ifCond .eq 12, 3) := by decide +kernel
theorem dX6_judge_78 : decode cX6_judge 78 = .ok (.iload_n 3, 1) := by decide +kernel
theorem dX6_judge_79 : decode cX6_judge 79 = .ok (.iload 5, 2) := by decide +kernel
theorem dX6_judge_81 : decode cX6_judge 81 = .ok (.invokestatic 133, 3) := by decide +kernel
theorem dX6_judge_84 : decode cX6_judge 84 = .ok (.ifCond .eq 8, 3) := by decide +kernel
theorem dX6_judge_87 : decode cX6_judge 87 = .ok (.iconst 1, 1) := by decide +kernel
theorem dX6_judge_88 : decode cX6_judge 88 = .ok (.iload 4, 2) := by decide +kernel
theorem dX6_judge_90 : decode cX6_judge 90 = .ok (.iadd, 1) := by decide +kernel
theorem dX6_judge_91 : decode cX6_judge 91 = .ok (.ireturn, 1) := by decide +kernel
theorem dX6_judge_92 : decode cX6_judge 92 = .ok (.aload_n 0, 1) := by decide +kernel
theorem dX6_judge_93 : decode cX6_judge 93 = .ok (.getfield 25, 3) := by decide +kernel
theorem dX6_judge_96 : decode cX6_judge 96 = .ok (.aload_n 0, 1) := by decide +kernel
theorem dX6_judge_97 : decode cX6_judge 97 = .ok (.getfield 12, 3) := by decide +kernel
theorem dX6_judge_100 : decode cX6_judge 100 = .ok (.iload 5, 2) := by decide +kernel
theorem dX6_judge_102 : decode cX6_judge 102 = .ok (.invokevirtual 157, 3) := by decide +kernel
theorem dX6_judge_105 : decode cX6_judge 105 = .ok (.aload_n 0, 1) := by decide +kernel
theorem dX6_judge_106 : decode cX6_judge 106 = .ok (.getfield 25, 3) := by decide +kernel
theorem dX6_judge_109 : decode cX6_judge 109 = .ok (.aload_n 0, 1) := by decide +kernel
theorem dX6_judge_110 : decode cX6_judge 110 = .ok (.getfield 25, 3) := by decide +kernel
theorem dX6_judge_113 : decode cX6_judge 113 = .ok (.getfield 154, 3) := by decide +kernel
theorem dX6_judge_116 : decode cX6_judge 116 = .ok (.invokevirtual 161, 3) := by decide +kernel
theorem dX6_judge_119 : decode cX6_judge 119 = .ok (.bipush 12, 2) := by decide +kernel
theorem dX6_judge_121 : decode cX6_judge 121 = .ok (.if_icmp .ge 8, 3) := by decide +kernel
theorem dX6_judge_124 : decode cX6_judge 124 = .ok (.iconst 1, 1) := by decide +kernel
theorem dX6_judge_125 : decode cX6_judge 125 = .ok (.iload 4, 2) := by decide +kernel
theorem dX6_judge_127 : decode cX6_judge 127 = .ok (.iadd, 1) := by decide +kernel
theorem dX6_judge_128 : decode cX6_judge 128 = .ok (.ireturn, 1) := by decide +kernel
theorem dX6_judge_129 : decode cX6_judge 129 = .ok (.iload_n 3, 1) := by decide +kernel
theorem dX6_judge_130 : decode cX6_judge 130 = .ok (.iconst 1, 1) := by decide +kernel
theorem dX6_judge_131 : decode cX6_judge 131 = .ok (.iload 5, 2) := by decide +kernel
theorem dX6_judge_133 : decode cX6_judge 133 = .ok (.ishl, 1) := by decide +kernel
theorem dX6_judge_134 : decode cX6_judge 134 = .ok (.ior, 1) := by decide +kernel
theorem dX6_judge_135 : decode cX6_judge 135 = .ok (.istore_n 3, 1) := by decide +kernel
theorem dX6_judge_136 : decode cX6_judge 136 = .ok (.iinc 4 1, 3) := by decide +kernel
theorem dX6_judge_139 : decode cX6_judge 139 = .ok (.goto (-101), 3) := by decide +kernel
theorem dX6_judge_142 : decode cX6_judge 142 = .ok (.iconst 0, 1) := by decide +kernel
theorem dX6_judge_143 : decode cX6_judge 143 = .ok (.ireturn, 1) := by decide +kernel
theorem dX6_image_0 : decode cX6_image 0 = .ok (.aload_n 0, 1) := by decide +kernel
theorem dX6_image_1 : decode cX6_image 1 = .ok (.getfield 16, 3) := by decide +kernel
theorem dX6_image_4 : decode cX6_image 4 = .ok (.aload_n 0, 1) := by decide +kernel
theorem dX6_image_5 : decode cX6_image 5 = .ok (.getfield 12, 3) := by decide +kernel
theorem dX6_image_8 : decode cX6_image 8 = .ok (.invokevirtual 240, 3) := by decide +kernel
theorem dX6_image_11 : decode cX6_image 11 = .ok (.aload_n 0, 1) := by decide +kernel
theorem dX6_image_12 : decode cX6_image 12 = .ok (.iconst 1, 1) := by decide +kernel
theorem dX6_image_13 : decode cX6_image 13 = .ok (.putfield 57, 3) := by decide +kernel
theorem dX6_image_16 : decode cX6_image 16 = .ok (.iconst 1, 1) := by decide +kernel
theorem dX6_image_17 : decode cX6_image 17 = .ok (.ireturn, 1) := by decide +kernel
theorem dX6_undo_0 : decode cX6_undo 0 = .ok (.aload_n 0, 1) := by decide +kernel
theorem dX6_undo_1 : decode cX6_undo 1 = .ok (.getfield 57, 3) := by decide +kernel
theorem dX6_undo_4 : decode cX6_undo 4 = .ok (.ifCond .ne 10, 3) := by decide +kernel
theorem dX6_undo_7 : decode cX6_undo 7 = .ok (.aload_n 0, 1) := by decide +kernel
theorem dX6_undo_8 : decode cX6_undo 8 = .ok (.ldc 172, 2) := by decide +kernel
theorem dX6_undo_10 : decode cX6_undo 10 = .ok (.invokevirtual 69, 3) := by decide +kernel
theorem dX6_undo_13 : decode cX6_undo 13 = .ok (.ireturn, 1) := by decide +kernel
theorem dX6_undo_14 : decode cX6_undo 14 = .ok (.aload_n 0, 1) := by decide +kernel
theorem dX6_undo_15 : decode cX6_undo 15 = .ok (.getfield 12, 3) := by decide +kernel
theorem dX6_undo_18 : decode cX6_undo 18 = .ok (.aload_n 0, 1) := by decide +kernel
theorem dX6_undo_19 : decode cX6_undo 19 = .ok (.getfield 16, 3) := by decide +kernel
theorem dX6_undo_22 : decode cX6_undo 22 = .ok (.invokevirtual 240, 3) := by decide +kernel
theorem dX6_undo_25 : decode cX6_undo 25 = .ok (.aload_n 0, 1) := by decide +kernel
theorem dX6_undo_26 : decode cX6_undo 26 = .ok (.getfield 12, 3) := by decide +kernel
theorem dX6_undo_29 : decode cX6_undo 29 = .ok (.getfield 117, 3) := by decide +kernel
theorem dX6_undo_32 : decode cX6_undo 32 = .ok (.ireturn, 1) := by decide +kernel
theorem dX6_tear_0 : decode cX6_tear 0 = .ok (.aload_n 0, 1) := by decide +kernel
theorem dX6_tear_1 : decode cX6_tear 1 = .ok (.getfield 57, 3) := by decide +kernel
theorem dX6_tear_4 : decode cX6_tear 4 = .ok (.ifCond .eq 7, 3) := by decide +kernel
theorem dX6_tear_7 : decode cX6_tear 7 = .ok (.iconst 1, 1) := by decide +kernel
theorem dX6_tear_8 : decode cX6_tear 8 = .ok (.goto 4, 3) := by decide +kernel
theorem dX6_tear_11 : decode cX6_tear 11 = .ok (.iconst 0, 1) := by decide +kernel
theorem dX6_tear_12 : decode cX6_tear 12 = .ok (.istore_n 1, 1) := by decide +kernel
theorem dX6_tear_13 : decode cX6_tear 13 = .ok (.aload_n 0, 1) := by decide +kernel
theorem dX6_tear_14 : decode cX6_tear 14 = .ok (.iconst 0, 1) := by decide +kernel
theorem dX6_tear_15 : decode cX6_tear 15 = .ok (.putfield 57, 3) := by decide +kernel
theorem dX6_tear_18 : decode cX6_tear 18 = .ok (.iload_n 1, 1) := by decide +kernel
theorem dX6_tear_19 : decode cX6_tear 19 = .ok (.ireturn, 1) := by decide +kernel
theorem dX6_count_0 : decode cX6_count 0 = .ok (.iload_n 1, 1) := by decide +kernel
theorem dX6_count_1 : decode cX6_count 1 = .ok (.tableswitch 136 0 7 #[47, 55, 63, 81, 99, 112, 120, 128], 47) := by decide +kernel
theorem dX6_count_48 : decode cX6_count 48 = .ok (.aload_n 0, 1) := by decide +kernel
theorem dX6_count_49 : decode cX6_count 49 = .ok (.getfield 12, 3) := by decide +kernel
theorem dX6_count_52 : decode cX6_count 52 = .ok (.getfield 117, 3) := by decide +kernel
theorem dX6_count_55 : decode cX6_count 55 = .ok (.ireturn, 1) := by decide +kernel
theorem dX6_count_56 : decode cX6_count 56 = .ok (.aload_n 0, 1) := by decide +kernel
theorem dX6_count_57 : decode cX6_count 57 = .ok (.getfield 12, 3) := by decide +kernel
theorem dX6_count_60 : decode cX6_count 60 = .ok (.getfield 145, 3) := by decide +kernel
theorem dX6_count_63 : decode cX6_count 63 = .ok (.ireturn, 1) := by decide +kernel
theorem dX6_count_64 : decode cX6_count 64 = .ok (.aload_n 0, 1) := by decide +kernel
theorem dX6_count_65 : decode cX6_count 65 = .ok (.getfield 12, 3) := by decide +kernel
theorem dX6_count_68 : decode cX6_count 68 = .ok (.getfield 100, 3) := by decide +kernel
theorem dX6_count_71 : decode cX6_count 71 = .ok (.aload_n 0, 1) := by decide +kernel
theorem dX6_count_72 : decode cX6_count 72 = .ok (.getfield 12, 3) := by decide +kernel
theorem dX6_count_75 : decode cX6_count 75 = .ok (.getfield 145, 3) := by decide +kernel
theorem dX6_count_78 : decode cX6_count 78 = .ok (.invokestatic 137, 3) := by decide +kernel
theorem dX6_count_81 : decode cX6_count 81 = .ok (.ireturn, 1) := by decide +kernel
theorem dX6_count_82 : decode cX6_count 82 = .ok (.aload_n 0, 1) := by decide +kernel
theorem dX6_count_83 : decode cX6_count 83 = .ok (.getfield 12, 3) := by decide +kernel
theorem dX6_count_86 : decode cX6_count 86 = .ok (.getfield 94, 3) := by decide +kernel
theorem dX6_count_89 : decode cX6_count 89 = .ok (.aload_n 0, 1) := by decide +kernel
theorem dX6_count_90 : decode cX6_count 90 = .ok (.getfield 12, 3) := by decide +kernel
theorem dX6_count_93 : decode cX6_count 93 = .ok (.getfield 145, 3) := by decide +kernel
theorem dX6_count_96 : decode cX6_count 96 = .ok (.invokestatic 137, 3) := by decide +kernel
theorem dX6_count_99 : decode cX6_count 99 = .ok (.ireturn, 1) := by decide +kernel
theorem dX6_count_100 : decode cX6_count 100 = .ok (.aload_n 0, 1) := by decide +kernel
theorem dX6_count_101 : decode cX6_count 101 = .ok (.getfield 12, 3) := by decide +kernel
theorem dX6_count_104 : decode cX6_count 104 = .ok (.getfield 73, 3) := by decide +kernel
theorem dX6_count_107 : decode cX6_count 107 = .ok (.bipush 12, 2) := by decide +kernel
theorem dX6_count_109 : decode cX6_count 109 = .ok (.invokestatic 137, 3) := by decide +kernel
theorem dX6_count_112 : decode cX6_count 112 = .ok (.ireturn, 1) := by decide +kernel
theorem dX6_count_113 : decode cX6_count 113 = .ok (.aload_n 0, 1) := by decide +kernel
theorem dX6_count_114 : decode cX6_count 114 = .ok (.getfield 43, 3) := by decide +kernel
theorem dX6_count_117 : decode cX6_count 117 = .ok (.getfield 234, 3) := by decide +kernel
theorem dX6_count_120 : decode cX6_count 120 = .ok (.ireturn, 1) := by decide +kernel
theorem dX6_count_121 : decode cX6_count 121 = .ok (.aload_n 0, 1) := by decide +kernel
theorem dX6_count_122 : decode cX6_count 122 = .ok (.getfield 12, 3) := by decide +kernel
theorem dX6_count_125 : decode cX6_count 125 = .ok (.getfield 231, 3) := by decide +kernel
theorem dX6_count_128 : decode cX6_count 128 = .ok (.ireturn, 1) := by decide +kernel
theorem dX6_count_129 : decode cX6_count 129 = .ok (.aload_n 0, 1) := by decide +kernel
theorem dX6_count_130 : decode cX6_count 130 = .ok (.getfield 12, 3) := by decide +kernel
theorem dX6_count_133 : decode cX6_count 133 = .ok (.invokevirtual 290, 3) := by decide +kernel
theorem dX6_count_136 : decode cX6_count 136 = .ok (.ireturn, 1) := by decide +kernel
theorem dX6_count_137 : decode cX6_count 137 = .ok (.aload_n 0, 1) := by decide +kernel
theorem dX6_count_138 : decode cX6_count 138 = .ok (.ldc 68, 2) := by decide +kernel
theorem dX6_count_140 : decode cX6_count 140 = .ok (.invokevirtual 69, 3) := by decide +kernel
theorem dX6_count_143 : decode cX6_count 143 = .ok (.ireturn, 1) := by decide +kernel
theorem dX6_status_0 : decode cX6_status 0 = .ok (.iload_n 1, 1) := by decide +kernel
theorem dX6_status_1 : decode cX6_status 1 = .ok (.iconst (-1), 1) := by decide +kernel
theorem dX6_status_2 : decode cX6_status 2 = .ok (.if_icmp .ne 13, 3) := by decide +kernel
theorem dX6_status_5 : decode cX6_status 5 = .ok (.aload_n 0, 1) := by decide +kernel
theorem dX6_status_6 : decode cX6_status 6 = .ok (.getfield 54, 3) := by decide +kernel
theorem dX6_status_9 : decode cX6_status 9 = .ok (.bipush 7, 2) := by decide +kernel
theorem dX6_status_11 : decode cX6_status 11 = .ok (.invokestatic 137, 3) := by decide +kernel
theorem dX6_status_14 : decode cX6_status 14 = .ok (.ireturn, 1) := by decide +kernel
theorem dX6_status_15 : decode cX6_status 15 = .ok (.iload_n 1, 1) := by decide +kernel
theorem dX6_status_16 : decode cX6_status 16 = .ok (.ifCond .lt 18, 3) := by decide +kernel
theorem dX6_status_19 : decode cX6_status 19 = .ok (.iload_n 1, 1) := by decide +kernel
theorem dX6_status_20 : decode cX6_status 20 = .ok (.bipush 7, 2) := by decide +kernel
theorem dX6_status_22 : decode cX6_status 22 = .ok (.if_icmp .ge 12, 3) := by decide +kernel
theorem dX6_status_25 : decode cX6_status 25 = .ok (.aload_n 0, 1) := by decide +kernel
theorem dX6_status_26 : decode cX6_status 26 = .ok (.getfield 54, 3) := by decide +kernel
theorem dX6_status_29 : decode cX6_status 29 = .ok (.iload_n 1, 1) := by decide +kernel
theorem dX6_status_30 : decode cX6_status 30 = .ok (.iaload, 1) := by decide +kernel
theorem dX6_status_31 : decode cX6_status 31 = .ok (.goto 9, 3) := by decide +kernel
theorem dX6_status_34 : decode cX6_status 34 = .ok (.aload_n 0, 1) := by decide +kernel
theorem dX6_status_35 : decode cX6_status 35 = .ok (.ldc 68, 2) := by decide +kernel
theorem dX6_status_37 : decode cX6_status 37 = .ok (.invokevirtual 69, 3) := by decide +kernel
theorem dX6_status_40 : decode cX6_status 40 = .ok (.ireturn, 1) := by decide +kernel
theorem dX6_tell_0 : decode cX6_tell 0 = .ok (.ldc 68, 2) := by decide +kernel
theorem dX6_tell_2 : decode cX6_tell 2 = .ok (.iload_n 1, 1) := by decide +kernel
theorem dX6_tell_3 : decode cX6_tell 3 = .ok (.isub, 1) := by decide +kernel
theorem dX6_tell_4 : decode cX6_tell 4 = .ok (.istore_n 2, 1) := by decide +kernel
theorem dX6_tell_5 : decode cX6_tell 5 = .ok (.iload_n 2, 1) := by decide +kernel
theorem dX6_tell_6 : decode cX6_tell 6 = .ok (.ifCond .lt 19, 3) := by decide +kernel
theorem dX6_tell_9 : decode cX6_tell 9 = .ok (.iload_n 2, 1) := by decide +kernel
theorem dX6_tell_10 : decode cX6_tell 10 = .ok (.bipush 7, 2) := by decide +kernel
theorem dX6_tell_12 : decode cX6_tell 12 = .ok (.if_icmp .ge 13, 3) := by decide +kernel
theorem dX6_tell_15 : decode cX6_tell 15 = .ok (.aload_n 0, 1) := by decide +kernel
theorem dX6_tell_16 : decode cX6_tell 16 = .ok (.getfield 54, 3) := by decide +kernel
theorem dX6_tell_19 : decode cX6_tell 19 = .ok (.iload_n 2, 1) := by decide +kernel
theorem dX6_tell_20 : decode cX6_tell 20 = .ok (.dup2, 1) := by decide +kernel
theorem dX6_tell_21 : decode cX6_tell 21 = .ok (.iaload, 1) := by decide +kernel
theorem dX6_tell_22 : decode cX6_tell 22 = .ok (.iconst 1, 1) := by decide +kernel
theorem dX6_tell_23 : decode cX6_tell 23 = .ok (.iadd, 1) := by decide +kernel
theorem dX6_tell_24 : decode cX6_tell 24 = .ok (.iastore, 1) := by decide +kernel
theorem dX6_tell_25 : decode cX6_tell 25 = .ok (.iload_n 1, 1) := by decide +kernel
theorem dX6_tell_26 : decode cX6_tell 26 = .ok (.ireturn, 1) := by decide +kernel
theorem dX6_isPlank_0 : decode cX6_isPlank 0 = .ok (.iload_n 0, 1) := by decide +kernel
theorem dX6_isPlank_1 : decode cX6_isPlank 1 = .ok (.ifCond .lt 13, 3) := by decide +kernel
theorem dX6_isPlank_4 : decode cX6_isPlank 4 = .ok (.iload_n 0, 1) := by decide +kernel
theorem dX6_isPlank_5 : decode cX6_isPlank 5 = .ok (.bipush 12, 2) := by decide +kernel
theorem dX6_isPlank_7 : decode cX6_isPlank 7 = .ok (.if_icmp .ge 7, 3) := by decide +kernel
theorem dX6_isPlank_10 : decode cX6_isPlank 10 = .ok (.iconst 1, 1) := by decide +kernel
theorem dX6_isPlank_11 : decode cX6_isPlank 11 = .ok (.goto 4, 3) := by decide +kernel
theorem dX6_isPlank_14 : decode cX6_isPlank 14 = .ok (.iconst 0, 1) := by decide +kernel
theorem dX6_isPlank_15 : decode cX6_isPlank 15 = .ok (.ireturn, 1) := by decide +kernel
theorem dX6_isGait_0 : decode cX6_isGait 0 = .ok (.iload_n 0, 1) := by decide +kernel
theorem dX6_isGait_1 : decode cX6_isGait 1 = .ok (.ifCond .lt 13, 3) := by decide +kernel
theorem dX6_isGait_4 : decode cX6_isGait 4 = .ok (.iload_n 0, 1) := by decide +kernel
theorem dX6_isGait_5 : decode cX6_isGait 5 = .ok (.bipush 99, 2) := by decide +kernel
theorem dX6_isGait_7 : decode cX6_isGait 7 = .ok (.if_icmp .gt 7, 3) := by decide +kernel
theorem dX6_isGait_10 : decode cX6_isGait 10 = .ok (.iconst 1, 1) := by decide +kernel
theorem dX6_isGait_11 : decode cX6_isGait 11 = .ok (.goto 4, 3) := by decide +kernel
theorem dX6_isGait_14 : decode cX6_isGait 14 = .ok (.iconst 0, 1) := by decide +kernel
theorem dX6_isGait_15 : decode cX6_isGait 15 = .ok (.ireturn, 1) := by decide +kernel
theorem dX6_isKind_0 : decode cX6_isKind 0 = .ok (.iload_n 0, 1) := by decide +kernel
theorem dX6_isKind_1 : decode cX6_isKind 1 = .ok (.ifCond .lt 13, 3) := by decide +kernel
theorem dX6_isKind_4 : decode cX6_isKind 4 = .ok (.iload_n 0, 1) := by decide +kernel
theorem dX6_isKind_5 : decode cX6_isKind 5 = .ok (.bipush 6, 2) := by decide +kernel
theorem dX6_isKind_7 : decode cX6_isKind 7 = .ok (.if_icmp .gt 7, 3) := by decide +kernel
theorem dX6_isKind_10 : decode cX6_isKind 10 = .ok (.iconst 1, 1) := by decide +kernel
theorem dX6_isKind_11 : decode cX6_isKind 11 = .ok (.goto 4, 3) := by decide +kernel
theorem dX6_isKind_14 : decode cX6_isKind 14 = .ok (.iconst 0, 1) := by decide +kernel
theorem dX6_isKind_15 : decode cX6_isKind 15 = .ok (.ireturn, 1) := by decide +kernel
theorem dX6_isSpot_0 : decode cX6_isSpot 0 = .ok (.iload_n 0, 1) := by decide +kernel
theorem dX6_isSpot_1 : decode cX6_isSpot 1 = .ok (.ifCond .lt 13, 3) := by decide +kernel
theorem dX6_isSpot_4 : decode cX6_isSpot 4 = .ok (.iload_n 0, 1) := by decide +kernel
theorem dX6_isSpot_5 : decode cX6_isSpot 5 = .ok (.bipush 10, 2) := by decide +kernel
theorem dX6_isSpot_7 : decode cX6_isSpot 7 = .ok (.if_icmp .ge 7, 3) := by decide +kernel
theorem dX6_isSpot_10 : decode cX6_isSpot 10 = .ok (.iconst 1, 1) := by decide +kernel
theorem dX6_isSpot_11 : decode cX6_isSpot 11 = .ok (.goto 4, 3) := by decide +kernel
theorem dX6_isSpot_14 : decode cX6_isSpot 14 = .ok (.iconst 0, 1) := by decide +kernel
theorem dX6_isSpot_15 : decode cX6_isSpot 15 = .ok (.ireturn, 1) := by decide +kernel
theorem dX6_isSheet_0 : decode cX6_isSheet 0 = .ok (.iload_n 0, 1) := by decide +kernel
theorem dX6_isSheet_1 : decode cX6_isSheet 1 = .ok (.ifCond .lt 12, 3) := by decide +kernel
theorem dX6_isSheet_4 : decode cX6_isSheet 4 = .ok (.iload_n 0, 1) := by decide +kernel
theorem dX6_isSheet_5 : decode cX6_isSheet 5 = .ok (.iconst 4, 1) := by decide +kernel
theorem dX6_isSheet_6 : decode cX6_isSheet 6 = .ok (.if_icmp .ge 7, 3) := by decide +kernel
theorem dX6_isSheet_9 : decode cX6_isSheet 9 = .ok (.iconst 1, 1) := by decide +kernel
theorem dX6_isSheet_10 : decode cX6_isSheet 10 = .ok (.goto 4, 3) := by decide +kernel
theorem dX6_isSheet_13 : decode cX6_isSheet 13 = .ok (.iconst 0, 1) := by decide +kernel
theorem dX6_isSheet_14 : decode cX6_isSheet 14 = .ok (.ireturn, 1) := by decide +kernel
theorem dX6_isIn_0 : decode cX6_isIn 0 = .ok (.iload_n 0, 1) := by decide +kernel
theorem dX6_isIn_1 : decode cX6_isIn 1 = .ok (.iload_n 1, 1) := by decide +kernel
theorem dX6_isIn_2 : decode cX6_isIn 2 = .ok (.ishr, 1) := by decide +kernel
theorem dX6_isIn_3 : decode cX6_isIn 3 = .ok (.iconst 1, 1) := by decide +kernel
theorem dX6_isIn_4 : decode cX6_isIn 4 = .ok (.iand, 1) := by decide +kernel
theorem dX6_isIn_5 : decode cX6_isIn 5 = .ok (.ifCond .eq 7, 3) := by decide +kernel
theorem dX6_isIn_8 : decode cX6_isIn 8 = .ok (.iconst 1, 1) := by decide +kernel
theorem dX6_isIn_9 : decode cX6_isIn 9 = .ok (.goto 4, 3) := by decide +kernel
theorem dX6_isIn_12 : decode cX6_isIn 12 = .ok (.iconst 0, 1) := by decide +kernel
theorem dX6_isIn_13 : decode cX6_isIn 13 = .ok (.ireturn, 1) := by decide +kernel
theorem dX6_held_0 : decode cX6_held 0 = .ok (.iconst 0, 1) := by decide +kernel
theorem dX6_held_1 : decode cX6_held 1 = .ok (.bipush 99, 2) := by decide +kernel
theorem dX6_held_3 : decode cX6_held 3 = .ok (.iload_n 0, 1) := by decide +kernel
theorem dX6_held_4 : decode cX6_held 4 = .ok (.invokestatic 293, 3) := by decide +kernel
theorem dX6_held_7 : decode cX6_held 7 = .ok (.invokestatic 298, 3) := by decide +kernel
theorem dX6_held_10 : decode cX6_held 10 = .ok (.ireturn, 1) := by decide +kernel
theorem dX6_sum_0 : decode cX6_sum 0 = .ok (.iconst 0, 1) := by decide +kernel
theorem dX6_sum_1 : decode cX6_sum 1 = .ok (.istore_n 2, 1) := by decide +kernel
theorem dX6_sum_2 : decode cX6_sum 2 = .ok (.iconst 0, 1) := by decide +kernel
theorem dX6_sum_3 : decode cX6_sum 3 = .ok (.istore_n 3, 1) := by decide +kernel
theorem dX6_sum_4 : decode cX6_sum 4 = .ok (.iload_n 3, 1) := by decide +kernel
theorem dX6_sum_5 : decode cX6_sum 5 = .ok (.iload_n 1, 1) := by decide +kernel
theorem dX6_sum_6 : decode cX6_sum 6 = .ok (.if_icmp .ge 21, 3) := by decide +kernel
theorem dX6_sum_9 : decode cX6_sum 9 = .ok (.iload_n 3, 1) := by decide +kernel
theorem dX6_sum_10 : decode cX6_sum 10 = .ok (.aload_n 0, 1) := by decide +kernel
theorem dX6_sum_11 : decode cX6_sum 11 = .ok (.arraylength, 1) := by decide +kernel
theorem dX6_sum_12 : decode cX6_sum 12 = .ok (.if_icmp .ge 15, 3) := by decide +kernel
theorem dX6_sum_15 : decode cX6_sum 15 = .ok (.iload_n 2, 1) := by decide +kernel
theorem dX6_sum_16 : decode cX6_sum 16 = .ok (.aload_n 0, 1) := by decide +kernel
theorem dX6_sum_17 : decode cX6_sum 17 = .ok (.iload_n 3, 1) := by decide +kernel
theorem dX6_sum_18 : decode cX6_sum 18 = .ok (.iaload, 1) := by decide +kernel
theorem dX6_sum_19 : decode cX6_sum 19 = .ok (.iadd, 1) := by decide +kernel
theorem dX6_sum_20 : decode cX6_sum 20 = .ok (.istore_n 2, 1) := by decide +kernel
theorem dX6_sum_21 : decode cX6_sum 21 = .ok (.iinc 3 1, 3) := by decide +kernel
theorem dX6_sum_24 : decode cX6_sum 24 = .ok (.goto (-20), 3) := by decide +kernel
theorem dX6_sum_27 : decode cX6_sum 27 = .ok (.iload_n 2, 1) := by decide +kernel
theorem dX6_sum_28 : decode cX6_sum 28 = .ok (.ireturn, 1) := by decide +kernel
theorem dX6_replace_0 : decode cX6_replace 0 = .ok (.iload_n 1, 1) := by decide +kernel
theorem dX6_replace_1 : decode cX6_replace 1 = .ok (.ifCond .lt 9, 3) := by decide +kernel
theorem dX6_replace_4 : decode cX6_replace 4 = .ok (.iload_n 1, 1) := by decide +kernel
theorem dX6_replace_5 : decode cX6_replace 5 = .ok (.aload_n 0, 1) := by decide +kernel
theorem dX6_replace_6 : decode cX6_replace 6 = .ok (.arraylength, 1) := by decide +kernel
theorem dX6_replace_7 : decode cX6_replace 7 = .ok (.if_icmp .lt 5, 3) := by decide +kernel
theorem dX6_replace_10 : decode cX6_replace 10 = .ok (.iconst 0, 1) := by decide +kernel
theorem dX6_replace_11 : decode cX6_replace 11 = .ok (.ireturn, 1) := by decide +kernel
theorem dX6_replace_12 : decode cX6_replace 12 = .ok (.aload_n 0, 1) := by decide +kernel
theorem dX6_replace_13 : decode cX6_replace 13 = .ok (.iload_n 1, 1) := by decide +kernel
theorem dX6_replace_14 : decode cX6_replace 14 = .ok (.iaload, 1) := by decide +kernel
theorem dX6_replace_15 : decode cX6_replace 15 = .ok (.istore_n 3, 1) := by decide +kernel
theorem dX6_replace_16 : decode cX6_replace 16 = .ok (.aload_n 0, 1) := by decide +kernel
theorem dX6_replace_17 : decode cX6_replace 17 = .ok (.iload_n 1, 1) := by decide +kernel
theorem dX6_replace_18 : decode cX6_replace 18 = .ok (.iload_n 2, 1) := by decide +kernel
theorem dX6_replace_19 : decode cX6_replace 19 = .ok (.iastore, 1) := by decide +kernel
theorem dX6_replace_20 : decode cX6_replace 20 = .ok (.iload_n 3, 1) := by decide +kernel
theorem dX6_replace_21 : decode cX6_replace 21 = .ok (.ireturn, 1) := by decide +kernel
theorem dX6_reallyCross_0 : decode cX6_reallyCross 0 = .ok (.aload_n 0, 1) := by decide +kernel
theorem dX6_reallyCross_1 : decode cX6_reallyCross 1 = .ok (.getfield 12, 3) := by decide +kernel
theorem dX6_reallyCross_4 : decode cX6_reallyCross 4 = .ok (.iload_n 1, 1) := by decide +kernel
theorem dX6_reallyCross_5 : decode cX6_reallyCross 5 = .ok (.invokevirtual 88, 3) := by decide +kernel
theorem dX6_reallyCross_8 : decode cX6_reallyCross 8 = .ok (.ifCond .ne 6, 3) := by decide +kernel
theorem dX6_reallyCross_11 : decode cX6_reallyCross 11 = .ok (.bipush 12, 2) := by decide +kernel
theorem dX6_reallyCross_13 : decode cX6_reallyCross 13 = .ok (.ireturn, 1) := by decide +kernel
theorem dX6_reallyCross_14 : decode cX6_reallyCross 14 = .ok (.aload_n 0, 1) := by decide +kernel
theorem dX6_reallyCross_15 : decode cX6_reallyCross 15 = .ok (.getfield 25, 3) := by decide +kernel
theorem dX6_reallyCross_18 : decode cX6_reallyCross 18 = .ok (.aload_n 0, 1) := by decide +kernel
theorem dX6_reallyCross_19 : decode cX6_reallyCross 19 = .ok (.getfield 12, 3) := by decide +kernel
theorem dX6_reallyCross_22 : decode cX6_reallyCross 22 = .ok (.iload_n 1, 1) := by decide +kernel
theorem dX6_reallyCross_23 : decode cX6_reallyCross 23 = .ok (.invokevirtual 157, 3) := by decide +kernel
theorem dX6_reallyCross_26 : decode cX6_reallyCross 26 = .ok (.aload_n 0, 1) := by decide +kernel
theorem dX6_reallyCross_27 : decode cX6_reallyCross 27 = .ok (.getfield 25, 3) := by decide +kernel
theorem dX6_reallyCross_30 : decode cX6_reallyCross 30 = .ok (.aload_n 0, 1) := by decide +kernel
theorem dX6_reallyCross_31 : decode cX6_reallyCross 31 = .ok (.getfield 12, 3) := by decide +kernel
theorem dX6_reallyCross_34 : decode cX6_reallyCross 34 = .ok (.getfield 73, 3) := by decide +kernel
theorem dX6_reallyCross_37 : decode cX6_reallyCross 37 = .ok (.invokevirtual 161, 3) := by decide +kernel
theorem dX6_reallyCross_40 : decode cX6_reallyCross 40 = .ok (.istore_n 2, 1) := by decide +kernel
theorem dX6_reallyCross_41 : decode cX6_reallyCross 41 = .ok (.aload_n 0, 1) := by decide +kernel
theorem dX6_reallyCross_42 : decode cX6_reallyCross 42 = .ok (.getfield 12, 3) := by decide +kernel
theorem dX6_reallyCross_45 : decode cX6_reallyCross 45 = .ok (.getfield 94, 3) := by decide +kernel
theorem dX6_reallyCross_48 : decode cX6_reallyCross 48 = .ok (.iload_n 1, 1) := by decide +kernel
theorem dX6_reallyCross_49 : decode cX6_reallyCross 49 = .ok (.aload_n 0, 1) := by decide +kernel
theorem dX6_reallyCross_50 : decode cX6_reallyCross 50 = .ok (.getfield 25, 3) := by decide +kernel
theorem dX6_reallyCross_53 : decode cX6_reallyCross 53 = .ok (.getfield 151, 3) := by decide +kernel
theorem dX6_reallyCross_56 : decode cX6_reallyCross 56 = .ok (.iastore, 1) := by decide +kernel
theorem dX6_reallyCross_57 : decode cX6_reallyCross 57 = .ok (.iload_n 2, 1) := by decide +kernel
theorem dX6_reallyCross_58 : decode cX6_reallyCross 58 = .ok (.bipush 12, 2) := by decide +kernel
theorem dX6_reallyCross_60 : decode cX6_reallyCross 60 = .ok (.if_icmp .ge 29, 3) := by decide +kernel
theorem dX6_reallyCross_63 : decode cX6_reallyCross 63 = .ok (.aload_n 0, 1) := by decide +kernel
theorem dX6_reallyCross_64 : decode cX6_reallyCross 64 = .ok (.getfield 12, 3) := by decide +kernel
theorem dX6_reallyCross_67 : decode cX6_reallyCross 67 = .ok (.getfield 100, 3) := by decide +kernel
theorem dX6_reallyCross_70 : decode cX6_reallyCross 70 = .ok (.iload_n 1, 1) := by decide +kernel
theorem dX6_reallyCross_71 : decode cX6_reallyCross 71 = .ok (.sipush 9999, 3) := by decide +kernel
theorem dX6_reallyCross_74 : decode cX6_reallyCross 74 = .ok (.aload_n 0, 1) := by decide +kernel
theorem dX6_reallyCross_75 : decode cX6_reallyCross 75 = .ok (.getfield 12, 3) := by decide +kernel
theorem dX6_reallyCross_78 : decode cX6_reallyCross 78 = .ok (.getfield 100, 3) := by decide +kernel
theorem dX6_reallyCross_81 : decode cX6_reallyCross 81 = .ok (.iload_n 1, 1) := by decide +kernel
theorem dX6_reallyCross_82 : decode cX6_reallyCross 82 = .ok (.iaload, 1) := by decide +kernel
theorem dX6_reallyCross_83 : decode cX6_reallyCross 83 = .ok (.iconst 1, 1) := by decide +kernel
theorem dX6_reallyCross_84 : decode cX6_reallyCross 84 = .ok (.iadd, 1) := by decide +kernel
theorem dX6_reallyCross_85 : decode cX6_reallyCross 85 = .ok (.invokestatic 293, 3) := by decide +kernel
theorem dX6_reallyCross_88 : decode cX6_reallyCross 88 = .ok (.iastore, 1) := by decide +kernel
theorem dX6_reallyCross_89 : decode cX6_reallyCross 89 = .ok (.aload_n 0, 1) := by decide +kernel
theorem dX6_reallyCross_90 : decode cX6_reallyCross 90 = .ok (.getfield 12, 3) := by decide +kernel
theorem dX6_reallyCross_93 : decode cX6_reallyCross 93 = .ok (.dup, 1) := by decide +kernel
theorem dX6_reallyCross_94 : decode cX6_reallyCross 94 = .ok (.getfield 117, 3) := by decide +kernel
theorem dX6_reallyCross_97 : decode cX6_reallyCross 97 = .ok (.iconst 1, 1) := by decide +kernel
theorem dX6_reallyCross_98 : decode cX6_reallyCross 98 = .ok (.iadd, 1) := by decide +kernel
theorem dX6_reallyCross_99 : decode cX6_reallyCross 99 = .ok (.putfield 117, 3) := by decide +kernel
theorem dX6_reallyCross_102 : decode cX6_reallyCross 102 = .ok (.iload_n 2, 1) := by decide +kernel
theorem dX6_reallyCross_103 : decode cX6_reallyCross 103 = .ok (.ireturn, 1) := by decide +kernel
theorem dX6_fallers_0 : decode cX6_fallers 0 = .ok (.iconst 0, 1) := by decide +kernel
theorem dX6_fallers_1 : decode cX6_fallers 1 = .ok (.istore_n 1, 1) := by decide +kernel
theorem dX6_fallers_2 : decode cX6_fallers 2 = .ok (.iconst 0, 1) := by decide +kernel
theorem dX6_fallers_3 : decode cX6_fallers 3 = .ok (.istore_n 2, 1) := by decide +kernel
theorem dX6_fallers_4 : decode cX6_fallers 4 = .ok (.iload_n 2, 1) := by decide +kernel
theorem dX6_fallers_5 : decode cX6_fallers 5 = .ok (.aload_n 0, 1) := by decide +kernel
theorem dX6_fallers_6 : decode cX6_fallers 6 = .ok (.getfield 12, 3) := by decide +kernel
theorem dX6_fallers_9 : decode cX6_fallers 9 = .ok (.getfield 145, 3) := by decide +kernel
theorem dX6_fallers_12 : decode cX6_fallers 12 = .ok (.if_icmp .ge 25, 3) := by decide +kernel
theorem dX6_fallers_15 : decode cX6_fallers 15 = .ok (.aload_n 0, 1) := by decide +kernel
theorem dX6_fallers_16 : decode cX6_fallers 16 = .ok (.iload_n 2, 1) := by decide +kernel
theorem dX6_fallers_17 : decode cX6_fallers 17 = .ok (.invokevirtual 148, 3) := by decide +kernel
theorem dX6_fallers_20 : decode cX6_fallers 20 = .ok (.bipush 12, 2) := by decide +kernel
theorem dX6_fallers_22 : decode cX6_fallers 22 = .ok (.if_icmp .ge 9, 3) := by decide +kernel
theorem dX6_fallers_25 : decode cX6_fallers 25 = .ok (.iload_n 1, 1) := by decide +kernel
theorem dX6_fallers_26 : decode cX6_fallers 26 = .ok (.iconst 1, 1) := by decide +kernel
theorem dX6_fallers_27 : decode cX6_fallers 27 = .ok (.iload_n 2, 1) := by decide +kernel
theorem dX6_fallers_28 : decode cX6_fallers 28 = .ok (.ishl, 1) := by decide +kernel
theorem dX6_fallers_29 : decode cX6_fallers 29 = .ok (.ior, 1) := by decide +kernel
theorem dX6_fallers_30 : decode cX6_fallers 30 = .ok (.istore_n 1, 1) := by decide +kernel
theorem dX6_fallers_31 : decode cX6_fallers 31 = .ok (.iinc 2 1, 3) := by decide +kernel
theorem dX6_fallers_34 : decode cX6_fallers 34 = .ok (.goto (-30), 3) := by decide +kernel
theorem dX6_fallers_37 : decode cX6_fallers 37 = .ok (.iload_n 1, 1) := by decide +kernel
theorem dX6_fallers_38 : decode cX6_fallers 38 = .ok (.ireturn, 1) := by decide +kernel
theorem dX6_prepare_0 : decode cX6_prepare 0 = .ok (.aload_n 0, 1) := by decide +kernel
theorem dX6_prepare_1 : decode cX6_prepare 1 = .ok (.getfield 25, 3) := by decide +kernel
theorem dX6_prepare_4 : decode cX6_prepare 4 = .ok (.aload_n 0, 1) := by decide +kernel
theorem dX6_prepare_5 : decode cX6_prepare 5 = .ok (.getfield 12, 3) := by decide +kernel
theorem dX6_prepare_8 : decode cX6_prepare 8 = .ok (.iload_n 1, 1) := by decide +kernel
theorem dX6_prepare_9 : decode cX6_prepare 9 = .ok (.invokevirtual 157, 3) := by decide +kernel
theorem dX6_prepare_12 : decode cX6_prepare 12 = .ok (.aload_n 0, 1) := by decide +kernel
theorem dX6_prepare_13 : decode cX6_prepare 13 = .ok (.getfield 25, 3) := by decide +kernel
theorem dX6_prepare_16 : decode cX6_prepare 16 = .ok (.aload_n 0, 1) := by decide +kernel
theorem dX6_prepare_17 : decode cX6_prepare 17 = .ok (.getfield 12, 3) := by decide +kernel
theorem dX6_prepare_20 : decode cX6_prepare 20 = .ok (.getfield 73, 3) := by decide +kernel
theorem dX6_prepare_23 : decode cX6_prepare 23 = .ok (.invokevirtual 286, 3) := by decide +kernel
theorem dX6_prepare_26 : decode cX6_prepare 26 = .ok (.return_, 1) := by decide +kernel
theorem dX6_tryWalk_0 : decode cX6_tryWalk 0 = .ok (.aload_n 0, 1) := by decide +kernel
theorem dX6_tryWalk_1 : decode cX6_tryWalk 1 = .ok (.iload_n 1, 1) := by decide +kernel
theorem dX6_tryWalk_2 : decode cX6_tryWalk 2 = .ok (.invokevirtual 165, 3) := by decide +kernel
theorem dX6_tryWalk_5 : decode cX6_tryWalk 5 = .ok (.aload_n 0, 1) := by decide +kernel
theorem dX6_tryWalk_6 : decode cX6_tryWalk 6 = .ok (.getfield 25, 3) := by decide +kernel
theorem dX6_tryWalk_9 : decode cX6_tryWalk 9 = .ok (.aload_n 0, 1) := by decide +kernel
theorem dX6_tryWalk_10 : decode cX6_tryWalk 10 = .ok (.getfield 25, 3) := by decide +kernel
theorem dX6_tryWalk_13 : decode cX6_tryWalk 13 = .ok (.getfield 154, 3) := by decide +kernel
theorem dX6_tryWalk_16 : decode cX6_tryWalk 16 = .ok (.invokevirtual 161, 3) := by decide +kernel
theorem dX6_tryWalk_19 : decode cX6_tryWalk 19 = .ok (.ireturn, 1) := by decide +kernel
theorem dX6_tryGait_0 : decode cX6_tryGait 0 = .ok (.aload_n 0, 1) := by decide +kernel
theorem dX6_tryGait_1 : decode cX6_tryGait 1 = .ok (.iload_n 1, 1) := by decide +kernel
theorem dX6_tryGait_2 : decode cX6_tryGait 2 = .ok (.invokevirtual 165, 3) := by decide +kernel
theorem dX6_tryGait_5 : decode cX6_tryGait 5 = .ok (.aload_n 0, 1) := by decide +kernel
theorem dX6_tryGait_6 : decode cX6_tryGait 6 = .ok (.getfield 25, 3) := by decide +kernel
theorem dX6_tryGait_9 : decode cX6_tryGait 9 = .ok (.iload_n 2, 1) := by decide +kernel
theorem dX6_tryGait_10 : decode cX6_tryGait 10 = .ok (.putfield 151, 3) := by decide +kernel
theorem dX6_tryGait_13 : decode cX6_tryGait 13 = .ok (.aload_n 0, 1) := by decide +kernel
theorem dX6_tryGait_14 : decode cX6_tryGait 14 = .ok (.getfield 25, 3) := by decide +kernel
theorem dX6_tryGait_17 : decode cX6_tryGait 17 = .ok (.aload_n 0, 1) := by decide +kernel
theorem dX6_tryGait_18 : decode cX6_tryGait 18 = .ok (.getfield 25, 3) := by decide +kernel
theorem dX6_tryGait_21 : decode cX6_tryGait 21 = .ok (.getfield 154, 3) := by decide +kernel
theorem dX6_tryGait_24 : decode cX6_tryGait 24 = .ok (.invokevirtual 161, 3) := by decide +kernel
theorem dX6_tryGait_27 : decode cX6_tryGait 27 = .ok (.ireturn, 1) := by decide +kernel
theorem dX6_crossesLaid_0 : decode cX6_crossesLaid 0 = .ok (.aload_n 0, 1) := by decide +kernel
theorem dX6_crossesLaid_1 : decode cX6_crossesLaid 1 = .ok (.iload_n 1, 1) := by decide +kernel
theorem dX6_crossesLaid_2 : decode cX6_crossesLaid 2 = .ok (.invokevirtual 165, 3) := by decide +kernel
theorem dX6_crossesLaid_5 : decode cX6_crossesLaid 5 = .ok (.iconst 0, 1) := by decide +kernel
theorem dX6_crossesLaid_6 : decode cX6_crossesLaid 6 = .ok (.istore_n 3, 1) := by decide +kernel
theorem dX6_crossesLaid_7 : decode cX6_crossesLaid 7 = .ok (.iload_n 3, 1) := by decide +kernel
theorem dX6_crossesLaid_8 : decode cX6_crossesLaid 8 = .ok (.bipush 12, 2) := by decide +kernel
theorem dX6_crossesLaid_10 : decode cX6_crossesLaid 10 = .ok (.if_icmp .ge 28, 3) := by decide +kernel
theorem dX6_crossesLaid_13 : decode cX6_crossesLaid 13 = .ok (.iload_n 2, 1) := by decide +kernel
theorem dX6_crossesLaid_14 : decode cX6_crossesLaid 14 = .ok (.iload_n 3, 1) := by decide +kernel
theorem dX6_crossesLaid_15 : decode cX6_crossesLaid 15 = .ok (.invokestatic 133, 3) := by decide +kernel
theorem dX6_crossesLaid_18 : decode cX6_crossesLaid 18 = .ok (.ifCond .eq 14, 3) := by decide +kernel
theorem dX6_crossesLaid_21 : decode cX6_crossesLaid 21 = .ok (.aload_n 0, 1) := by decide +kernel
theorem dX6_crossesLaid_22 : decode cX6_crossesLaid 22 = .ok (.getfield 25, 3) := by decide +kernel
theorem dX6_crossesLaid_25 : decode cX6_crossesLaid 25 = .ok (.getfield 154, 3) := by decide +kernel
theorem dX6_crossesLaid_28 : decode cX6_crossesLaid 28 = .ok (.iload_n 3, 1) := by decide +kernel
theorem dX6_crossesLaid_29 : decode cX6_crossesLaid 29 = .ok (.bipush 50, 2) := by decide +kernel
theorem dX6_crossesLaid_31 : decode cX6_crossesLaid 31 = .ok (.iastore, 1) := by decide +kernel
theorem dX6_crossesLaid_32 : decode cX6_crossesLaid 32 = .ok (.iinc 3 1, 3) := by decide +kernel
theorem dX6_crossesLaid_35 : decode cX6_crossesLaid 35 = .ok (.goto (-28), 3) := by decide +kernel
theorem dX6_crossesLaid_38 : decode cX6_crossesLaid 38 = .ok (.aload_n 0, 1) := by decide +kernel
theorem dX6_crossesLaid_39 : decode cX6_crossesLaid 39 = .ok (.getfield 25, 3) := by decide +kernel
theorem dX6_crossesLaid_42 : decode cX6_crossesLaid 42 = .ok (.aload_n 0, 1) := by decide +kernel
theorem dX6_crossesLaid_43 : decode cX6_crossesLaid 43 = .ok (.getfield 25, 3) := by decide +kernel
theorem dX6_crossesLaid_46 : decode cX6_crossesLaid 46 = .ok (.getfield 154, 3) := by decide +kernel
theorem dX6_crossesLaid_49 : decode cX6_crossesLaid 49 = .ok (.invokevirtual 161, 3) := by decide +kernel
theorem dX6_crossesLaid_52 : decode cX6_crossesLaid 52 = .ok (.bipush 12, 2) := by decide +kernel
theorem dX6_crossesLaid_54 : decode cX6_crossesLaid 54 = .ok (.if_icmp .ne 7, 3) := by decide +kernel
theorem dX6_crossesLaid_57 : decode cX6_crossesLaid 57 = .ok (.iconst 1, 1) := by decide +kernel
theorem dX6_crossesLaid_58 : decode cX6_crossesLaid 58 = .ok (.goto 4, 3) := by decide +kernel
theorem dX6_crossesLaid_61 : decode cX6_crossesLaid 61 = .ok (.iconst 0, 1) := by decide +kernel
theorem dX6_crossesLaid_62 : decode cX6_crossesLaid 62 = .ok (.ireturn, 1) := by decide +kernel
theorem dX6_layMore_0 : decode cX6_layMore 0 = .ok (.iload 4, 2) := by decide +kernel
theorem dX6_layMore_2 : decode cX6_layMore 2 = .ok (.ifCond .gt 18, 3) := by decide +kernel
theorem dX6_layMore_5 : decode cX6_layMore 5 = .ok (.aload_n 0, 1) := by decide +kernel
theorem dX6_layMore_6 : decode cX6_layMore 6 = .ok (.iload_n 1, 1) := by decide +kernel
theorem dX6_layMore_7 : decode cX6_layMore 7 = .ok (.iload_n 2, 1) := by decide +kernel
theorem dX6_layMore_8 : decode cX6_layMore 8 = .ok (.invokevirtual 202, 3) := by decide +kernel
theorem dX6_layMore_11 : decode cX6_layMore 11 = .ok (.ifCond .eq 7, 3) := by decide +kernel
theorem dX6_layMore_14 : decode cX6_layMore 14 = .ok (.iload_n 2, 1) := by decide +kernel
theorem dX6_layMore_15 : decode cX6_layMore 15 = .ok (.goto 4, 3) := by decide +kernel
theorem dX6_layMore_18 : decode cX6_layMore 18 = .ok (.iconst (-1), 1) := by decide +kernel
theorem dX6_layMore_19 : decode cX6_layMore 19 = .ok (.ireturn, 1) := by decide +kernel
theorem dX6_layMore_20 : decode cX6_layMore 20 = .ok (.iconst 0, 1) := by decide +kernel
theorem dX6_layMore_21 : decode cX6_layMore 21 = .ok (.istore 5, 2) := by decide +kernel
theorem dX6_layMore_23 : decode cX6_layMore 23 = .ok (.iload 5, 2) := by decide +kernel
theorem dX6_layMore_25 : decode cX6_layMore 25 = .ok (.iload_n 3, 1) := by decide +kernel
theorem dX6_layMore_26 : decode cX6_layMore 26 = .ok (.if_icmp .ge 36, 3) := by decide +kernel
theorem dX6_layMore_29 : decode cX6_layMore 29 = .ok (.aload_n 0, 1) := by decide +kernel
theorem dX6_layMore_30 : decode cX6_layMore 30 = .ok (.iload_n 1, 1) := by decide +kernel
theorem dX6_layMore_31 : decode cX6_layMore 31 = .ok (.iload_n 2, 1) := by decide +kernel
theorem dX6_layMore_32 : decode cX6_layMore 32 = .ok (.iconst 1, 1) := by decide +kernel
theorem dX6_layMore_33 : decode cX6_layMore 33 = .ok (.iload 5, 2) := by decide +kernel
theorem dX6_layMore_35 : decode cX6_layMore 35 = .ok (.ishl, 1) := by decide +kernel
theorem dX6_layMore_36 : decode cX6_layMore 36 = .ok (.ior, 1) := by decide +kernel
theorem dX6_layMore_37 : decode cX6_layMore 37 = .ok (.iload 5, 2) := by decide +kernel
theorem dX6_layMore_39 : decode cX6_layMore 39 = .ok (.iload 4, 2) := by decide +kernel
theorem dX6_layMore_41 : decode cX6_layMore 41 = .ok (.iconst 1, 1) := by decide +kernel
theorem dX6_layMore_42 : decode cX6_layMore 42 = .ok (.isub, 1) := by decide +kernel
theorem dX6_layMore_43 : decode cX6_layMore 43 = .ok (.invokevirtual 198, 3) := by decide +kernel
theorem dX6_layMore_46 : decode cX6_layMore 46 = .ok (.istore 6, 2) := by decide +kernel
theorem dX6_layMore_48 : decode cX6_layMore 48 = .ok (.iload 6, 2) := by decide +kernel
theorem dX6_layMore_50 : decode cX6_layMore 50 = .ok (.ifCond .lt 6, 3) := by decide +kernel
theorem dX6_layMore_53 : decode cX6_layMore 53 = .ok (.iload 6, 2) := by decide +kernel
theorem dX6_layMore_55 : decode cX6_layMore 55 = .ok (.ireturn, 1) := by decide +kernel
theorem dX6_layMore_56 : decode cX6_layMore 56 = .ok (.iinc 5 1, 3) := by decide +kernel
theorem dX6_layMore_59 : decode cX6_layMore 59 = .ok (.goto (-36), 3) := by decide +kernel
theorem dX6_layMore_62 : decode cX6_layMore 62 = .ok (.iconst (-1), 1) := by decide +kernel
theorem dX6_layMore_63 : decode cX6_layMore 63 = .ok (.ireturn, 1) := by decide +kernel
theorem dX6_difference_0 : decode cX6_difference 0 = .ok (.aload_n 0, 1) := by decide +kernel
theorem dX6_difference_1 : decode cX6_difference 1 = .ok (.iload_n 1, 1) := by decide +kernel
theorem dX6_difference_2 : decode cX6_difference 2 = .ok (.invokevirtual 148, 3) := by decide +kernel
theorem dX6_difference_5 : decode cX6_difference 5 = .ok (.pop, 1) := by decide +kernel
theorem dX6_difference_6 : decode cX6_difference 6 = .ok (.aload_n 0, 1) := by decide +kernel
theorem dX6_difference_7 : decode cX6_difference 7 = .ok (.getfield 25, 3) := by decide +kernel
theorem dX6_difference_10 : decode cX6_difference 10 = .ok (.getfield 154, 3) := by decide +kernel
theorem dX6_difference_13 : decode cX6_difference 13 = .ok (.iconst 0, 1) := by decide +kernel
theorem dX6_difference_14 : decode cX6_difference 14 = .ok (.aload_n 0, 1) := by decide +kernel
theorem dX6_difference_15 : decode cX6_difference 15 = .ok (.getfield 29, 3) := by decide +kernel
theorem dX6_difference_18 : decode cX6_difference 18 = .ok (.iconst 0, 1) := by decide +kernel
theorem dX6_difference_19 : decode cX6_difference 19 = .ok (.bipush 12, 2) := by decide +kernel
theorem dX6_difference_21 : decode cX6_difference 21 = .ok (.invokestatic 280, 3) := by decide +kernel
theorem dX6_difference_24 : decode cX6_difference 24 = .ok (.aload_n 0, 1) := by decide +kernel
theorem dX6_difference_25 : decode cX6_difference 25 = .ok (.iload_n 2, 1) := by decide +kernel
theorem dX6_difference_26 : decode cX6_difference 26 = .ok (.invokevirtual 148, 3) := by decide +kernel
theorem dX6_difference_29 : decode cX6_difference 29 = .ok (.pop, 1) := by decide +kernel
theorem dX6_difference_30 : decode cX6_difference 30 = .ok (.iconst 0, 1) := by decide +kernel
theorem dX6_difference_31 : decode cX6_difference 31 = .ok (.istore_n 3, 1) := by decide +kernel
theorem dX6_difference_32 : decode cX6_difference 32 = .ok (.iconst 0, 1) := by decide +kernel
theorem dX6_difference_33 : decode cX6_difference 33 = .ok (.istore 4, 2) := by decide +kernel
theorem dX6_difference_35 : decode cX6_difference 35 = .ok (.iload 4, 2) := by decide +kernel
theorem dX6_difference_37 : decode cX6_difference 37 = .ok (.bipush 12, 2) := by decide +kernel
theorem dX6_difference_39 : decode cX6_difference 39 = .ok (.if_icmp .ge 33, 3) := by decide +kernel
theorem dX6_difference_42 : decode cX6_difference 42 = .ok (.iload_n 3, 1) := by decide +kernel
theorem dX6_difference_43 : decode cX6_difference 43 = .ok (.aload_n 0, 1) := by decide +kernel
theorem dX6_difference_44 : decode cX6_difference 44 = .ok (.getfield 25, 3) := by decide +kernel
theorem dX6_difference_47 : decode cX6_difference 47 = .ok (.getfield 154, 3) := by decide +kernel
theorem dX6_difference_50 : decode cX6_difference 50 = .ok (.iload 4, 2) := by decide +kernel
theorem dX6_difference_52 : decode cX6_difference 52 = .ok (.iaload, 1) := by decide +kernel
theorem dX6_difference_53 : decode cX6_difference 53 = .ok (.aload_n 0, 1) := by decide +kernel
theorem dX6_difference_54 : decode cX6_difference 54 = .ok (.getfield 29, 3) := by decide +kernel
theorem dX6_difference_57 : decode cX6_difference 57 = .ok (.iload 4, 2) := by decide +kernel
theorem dX6_difference_59 : decode cX6_difference 59 = .ok (.iaload, 1) := by decide +kernel
theorem dX6_difference_60 : decode cX6_difference 60 = .ok (.isub, 1) := by decide +kernel
theorem dX6_difference_61 : decode cX6_difference 61 = .ok (.invokestatic 301, 3) := by decide +kernel
theorem dX6_difference_64 : decode cX6_difference 64 = .ok (.iadd, 1) := by decide +kernel
theorem dX6_difference_65 : decode cX6_difference 65 = .ok (.istore_n 3, 1) := by decide +kernel
theorem dX6_difference_66 : decode cX6_difference 66 = .ok (.iinc 4 1, 3) := by decide +kernel
theorem dX6_difference_69 : decode cX6_difference 69 = .ok (.goto (-34), 3) := by decide +kernel
theorem dX6_difference_72 : decode cX6_difference 72 = .ok (.iload_n 3, 1) := by decide +kernel
theorem dX6_difference_73 : decode cX6_difference 73 = .ok (.ireturn, 1) := by decide +kernel
theorem dX6_swayFinding_0 : decode cX6_swayFinding 0 = .ok (.aload_n 0, 1) := by decide +kernel
theorem dX6_swayFinding_1 : decode cX6_swayFinding 1 = .ok (.getfield 50, 3) := by decide +kernel
theorem dX6_swayFinding_4 : decode cX6_swayFinding 4 = .ok (.iload_n 1, 1) := by decide +kernel
theorem dX6_swayFinding_5 : decode cX6_swayFinding 5 = .ok (.invokevirtual 215, 3) := by decide +kernel
theorem dX6_swayFinding_8 : decode cX6_swayFinding 8 = .ok (.istore_n 3, 1) := by decide +kernel
theorem dX6_swayFinding_9 : decode cX6_swayFinding 9 = .ok (.iload_n 3, 1) := by decide +kernel
theorem dX6_swayFinding_10 : decode cX6_swayFinding 10 = .ok (.ifCond .eq 5, 3) := by decide +kernel
theorem dX6_swayFinding_13 : decode cX6_swayFinding 13 = .ok (.iload_n 3, 1) := by decide +kernel
theorem dX6_swayFinding_14 : decode cX6_swayFinding 14 = .ok (.ireturn, 1) := by decide +kernel
theorem dX6_swayFinding_15 : decode cX6_swayFinding 15 = .ok (.aload_n 0, 1) := by decide +kernel
theorem dX6_swayFinding_16 : decode cX6_swayFinding 16 = .ok (.getfield 12, 3) := by decide +kernel
theorem dX6_swayFinding_19 : decode cX6_swayFinding 19 = .ok (.iload_n 2, 1) := by decide +kernel
theorem dX6_swayFinding_20 : decode cX6_swayFinding 20 = .ok (.invokevirtual 88, 3) := by decide +kernel
theorem dX6_swayFinding_23 : decode cX6_swayFinding 23 = .ok (.ifCond .ne 6, 3) := by decide +kernel
theorem dX6_swayFinding_26 : decode cX6_swayFinding 26 = .ok (.ldc 68, 2) := by decide +kernel
theorem dX6_swayFinding_28 : decode cX6_swayFinding 28 = .ok (.ireturn, 1) := by decide +kernel
theorem dX6_swayFinding_29 : decode cX6_swayFinding 29 = .ok (.aload_n 0, 1) := by decide +kernel
theorem dX6_swayFinding_30 : decode cX6_swayFinding 30 = .ok (.getfield 50, 3) := by decide +kernel
theorem dX6_swayFinding_33 : decode cX6_swayFinding 33 = .ok (.getfield 218, 3) := by decide +kernel
theorem dX6_swayFinding_36 : decode cX6_swayFinding 36 = .ok (.iload_n 1, 1) := by decide +kernel
theorem dX6_swayFinding_37 : decode cX6_swayFinding 37 = .ok (.iaload, 1) := by decide +kernel
theorem dX6_swayFinding_38 : decode cX6_swayFinding 38 = .ok (.bipush 12, 2) := by decide +kernel
theorem dX6_swayFinding_40 : decode cX6_swayFinding 40 = .ok (.if_icmp .le 8, 3) := by decide +kernel
theorem dX6_swayFinding_43 : decode cX6_swayFinding 43 = .ok (.ldc 121, 2) := by decide +kernel
theorem dX6_swayFinding_45 : decode cX6_swayFinding 45 = .ok (.goto 4, 3) := by decide +kernel
theorem dX6_swayFinding_48 : decode cX6_swayFinding 48 = .ok (.iconst 0, 1) := by decide +kernel
theorem dX6_swayFinding_49 : decode cX6_swayFinding 49 = .ok (.ireturn, 1) := by decide +kernel
theorem dX6_commonDivisor_0 : decode cX6_commonDivisor 0 = .ok (.iload_n 0, 1) := by decide +kernel
theorem dX6_commonDivisor_1 : decode cX6_commonDivisor 1 = .ok (.istore_n 2, 1) := by decide +kernel
theorem dX6_commonDivisor_2 : decode cX6_commonDivisor 2 = .ok (.iload_n 1, 1) := by decide +kernel
theorem dX6_commonDivisor_3 : decode cX6_commonDivisor 3 = .ok (.istore_n 3, 1) := by decide +kernel
theorem dX6_commonDivisor_4 : decode cX6_commonDivisor 4 = .ok (.iconst 0, 1) := by decide +kernel
theorem dX6_commonDivisor_5 : decode cX6_commonDivisor 5 = .ok (.istore 4, 2) := by decide +kernel
theorem dX6_commonDivisor_7 : decode cX6_commonDivisor 7 = .ok (.iload 4, 2) := by decide +kernel
theorem dX6_commonDivisor_9 : decode cX6_commonDivisor 9 = .ok (.bipush 12, 2) := by decide +kernel
theorem dX6_commonDivisor_11 : decode cX6_commonDivisor 11 = .ok (.if_icmp .ge 23, 3) := by decide +kernel
theorem dX6_commonDivisor_14 : decode cX6_commonDivisor 14 = .ok (.iload_n 3, 1) := by decide +kernel
theorem dX6_commonDivisor_15 : decode cX6_commonDivisor 15 = .ok (.ifCond .le 19, 3) := by decide +kernel
theorem dX6_commonDivisor_18 : decode cX6_commonDivisor 18 = .ok (.iload_n 2, 1) := by decide +kernel
theorem dX6_commonDivisor_19 : decode cX6_commonDivisor 19 = .ok (.iload_n 3, 1) := by decide +kernel
theorem dX6_commonDivisor_20 : decode cX6_commonDivisor 20 = .ok (.irem, 1) := by decide +kernel
theorem dX6_commonDivisor_21 : decode cX6_commonDivisor 21 = .ok (.istore 5, 2) := by decide +kernel
theorem dX6_commonDivisor_23 : decode cX6_commonDivisor 23 = .ok (.iload_n 3, 1) := by decide +kernel
theorem dX6_commonDivisor_24 : decode cX6_commonDivisor 24 = .ok (.istore_n 2, 1) := by decide +kernel
theorem dX6_commonDivisor_25 : decode cX6_commonDivisor 25 = .ok (.iload 5, 2) := by decide +kernel
theorem dX6_commonDivisor_27 : decode cX6_commonDivisor 27 = .ok (.istore_n 3, 1) := by decide +kernel
theorem dX6_commonDivisor_28 : decode cX6_commonDivisor 28 = .ok (.iinc 4 1, 3) := by decide +kernel
theorem dX6_commonDivisor_31 : decode cX6_commonDivisor 31 = .ok (.goto (-24), 3) := by decide +kernel
theorem dX6_commonDivisor_34 : decode cX6_commonDivisor 34 = .ok (.iload_n 2, 1) := by decide +kernel
theorem dX6_commonDivisor_35 : decode cX6_commonDivisor 35 = .ok (.ireturn, 1) := by decide +kernel
theorem dX6_power_0 : decode cX6_power 0 = .ok (.lconst 1, 1) := by decide +kernel
theorem dX6_power_1 : decode cX6_power 1 = .ok (.lstore_n 3, 1) := by decide +kernel
theorem dX6_power_2 : decode cX6_power 2 = .ok (.iconst 0, 1) := by decide +kernel
theorem dX6_power_3 : decode cX6_power 3 = .ok (.istore 5, 2) := by decide +kernel
theorem dX6_power_5 : decode cX6_power 5 = .ok (.iload 5, 2) := by decide +kernel
theorem dX6_power_7 : decode cX6_power 7 = .ok (.iload_n 2, 1) := by decide +kernel
theorem dX6_power_8 : decode cX6_power 8 = .ok (.if_icmp .ge 13, 3) := by decide +kernel
theorem dX6_power_11 : decode cX6_power 11 = .ok (.lload_n 3, 1) := by decide +kernel
theorem dX6_power_12 : decode cX6_power 12 = .ok (.lload_n 0, 1) := by decide +kernel
theorem dX6_power_13 : decode cX6_power 13 = .ok (.lmul, 1) := by decide +kernel
theorem dX6_power_14 : decode cX6_power 14 = .ok (.lstore_n 3, 1) := by decide +kernel
theorem dX6_power_15 : decode cX6_power 15 = .ok (.iinc 5 1, 3) := by decide +kernel
theorem dX6_power_18 : decode cX6_power 18 = .ok (.goto (-13), 3) := by decide +kernel
theorem dX6_power_21 : decode cX6_power 21 = .ok (.lload_n 3, 1) := by decide +kernel
theorem dX6_power_22 : decode cX6_power 22 = .ok (.lreturn, 1) := by decide +kernel
