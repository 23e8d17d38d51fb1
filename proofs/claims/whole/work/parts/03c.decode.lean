theorem dX0_init_0 : decode cX0_init 0 = .ok (.aload_n 0, 1) := by decide +kernel
theorem dX0_init_1 : decode cX0_init 1 = .ok (.invokespecial 3, 3) := by decide +kernel
theorem dX0_init_4 : decode cX0_init 4 = .ok (.aload_n 0, 1) := by decide +kernel
theorem dX0_init_5 : decode cX0_init 5 = .ok (.bipush 12, 2) := by decide +kernel
theorem dX0_init_7 : decode cX0_init 7 = .ok (.newarray .int, 2) := by decide +kernel
theorem dX0_init_9 : decode cX0_init 9 = .ok (.putfield 9, 3) := by decide +kernel
theorem dX0_init_12 : decode cX0_init 12 = .ok (.aload_n 0, 1) := by decide +kernel
theorem dX0_init_13 : decode cX0_init 13 = .ok (.bipush 6, 2) := by decide +kernel
theorem dX0_init_15 : decode cX0_init 15 = .ok (.newarray .int, 2) := by decide +kernel
theorem dX0_init_17 : decode cX0_init 17 = .ok (.putfield 15, 3) := by decide +kernel
theorem dX0_init_20 : decode cX0_init 20 = .ok (.aload_n 0, 1) := by decide +kernel
theorem dX0_init_21 : decode cX0_init 21 = .ok (.bipush 6, 2) := by decide +kernel
theorem dX0_init_23 : decode cX0_init 23 = .ok (.newarray .int, 2) := by decide +kernel
theorem dX0_init_25 : decode cX0_init 25 = .ok (.putfield 18, 3) := by decide +kernel
theorem dX0_init_28 : decode cX0_init 28 = .ok (.aload_n 0, 1) := by decide +kernel
theorem dX0_init_29 : decode cX0_init 29 = .ok (.bipush 6, 2) := by decide +kernel
theorem dX0_init_31 : decode cX0_init 31 = .ok (.newarray .int, 2) := by decide +kernel
theorem dX0_init_33 : decode cX0_init 33 = .ok (.putfield 21, 3) := by decide +kernel
theorem dX0_init_36 : decode cX0_init 36 = .ok (.aload_n 0, 1) := by decide +kernel
theorem dX0_init_37 : decode cX0_init 37 = .ok (.bipush 6, 2) := by decide +kernel
theorem dX0_init_39 : decode cX0_init 39 = .ok (.newarray .int, 2) := by decide +kernel
theorem dX0_init_41 : decode cX0_init 41 = .ok (.putfield 24, 3) := by decide +kernel
theorem dX0_init_44 : decode cX0_init 44 = .ok (.aload_n 0, 1) := by decide +kernel
theorem dX0_init_45 : decode cX0_init 45 = .ok (.bipush 10, 2) := by decide +kernel
theorem dX0_init_47 : decode cX0_init 47 = .ok (.newarray .int, 2) := by decide +kernel
theorem dX0_init_49 : decode cX0_init 49 = .ok (.putfield 27, 3) := by decide +kernel
theorem dX0_init_52 : decode cX0_init 52 = .ok (.aload_n 0, 1) := by decide +kernel
theorem dX0_init_53 : decode cX0_init 53 = .ok (.iconst 0, 1) := by decide +kernel
theorem dX0_init_54 : decode cX0_init 54 = .ok (.putfield 30, 3) := by decide +kernel
theorem dX0_init_57 : decode cX0_init 57 = .ok (.aload_n 0, 1) := by decide +kernel
theorem dX0_init_58 : decode cX0_init 58 = .ok (.iconst 0, 1) := by decide +kernel
theorem dX0_init_59 : decode cX0_init 59 = .ok (.putfield 34, 3) := by decide +kernel
theorem dX0_init_62 : decode cX0_init 62 = .ok (.aload_n 0, 1) := by decide +kernel
theorem dX0_init_63 : decode cX0_init 63 = .ok (.iconst 0, 1) := by decide +kernel
theorem dX0_init_64 : decode cX0_init 64 = .ok (.putfield 37, 3) := by decide +kernel
theorem dX0_init_67 : decode cX0_init 67 = .ok (.aload_n 0, 1) := by decide +kernel
theorem dX0_init_68 : decode cX0_init 68 = .ok (.iconst 1, 1) := by decide +kernel
theorem dX0_init_69 : decode cX0_init 69 = .ok (.putfield 40, 3) := by decide +kernel
theorem dX0_init_72 : decode cX0_init 72 = .ok (.iconst 0, 1) := by decide +kernel
theorem dX0_init_73 : decode cX0_init 73 = .ok (.istore_n 1, 1) := by decide +kernel
theorem dX0_init_74 : decode cX0_init 74 = .ok (.iload_n 1, 1) := by decide +kernel
theorem dX0_init_75 : decode cX0_init 75 = .ok (.bipush 12, 2) := by decide +kernel
theorem dX0_init_77 : decode cX0_init 77 = .ok (.if_icmp .ge 17, 3) := by decide +kernel
theorem dX0_init_80 : decode cX0_init 80 = .ok (.aload_n 0, 1) := by decide +kernel
theorem dX0_init_81 : decode cX0_init 81 = .ok (.getfield 9, 3) := by decide +kernel
theorem dX0_init_84 : decode cX0_init 84 = .ok (.iload_n 1, 1) := by decide +kernel
theorem dX0_init_85 : decode cX0_init 85 = .ok (.bipush 50, 2) := by decide +kernel
theorem dX0_init_87 : decode cX0_init 87 = .ok (.iastore, 1) := by decide +kernel
theorem dX0_init_88 : decode cX0_init 88 = .ok (.iinc 1 1, 3) := by decide +kernel
theorem dX0_init_91 : decode cX0_init 91 = .ok (.goto (-17), 3) := by decide +kernel
theorem dX0_init_94 : decode cX0_init 94 = .ok (.iconst 0, 1) := by decide +kernel
theorem dX0_init_95 : decode cX0_init 95 = .ok (.istore_n 1, 1) := by decide +kernel
theorem dX0_init_96 : decode cX0_init 96 = .ok (.iload_n 1, 1) := by decide +kernel
theorem dX0_init_97 : decode cX0_init 97 = .ok (.bipush 10, 2) := by decide +kernel
theorem dX0_init_99 : decode cX0_init 99 = .ok (.if_icmp .ge 16, 3) := by decide +kernel
theorem dX0_init_102 : decode cX0_init 102 = .ok (.aload_n 0, 1) := by decide +kernel
theorem dX0_init_103 : decode cX0_init 103 = .ok (.getfield 27, 3) := by decide +kernel
theorem dX0_init_106 : decode cX0_init 106 = .ok (.iload_n 1, 1) := by decide +kernel
theorem dX0_init_107 : decode cX0_init 107 = .ok (.iconst (-1), 1) := by decide +kernel
theorem dX0_init_108 : decode cX0_init 108 = .ok (.iastore, 1) := by decide +kernel
theorem dX0_init_109 : decode cX0_init 109 = .ok (.iinc 1 1, 3) := by decide +kernel
theorem dX0_init_112 : decode cX0_init 112 = .ok (.goto (-16), 3) := by decide +kernel
theorem dX0_init_115 : decode cX0_init 115 = .ok (.return_, 1) := by decide +kernel
theorem dX0_become_0 : decode cX0_become 0 = .ok (.aload_n 1, 1) := by decide +kernel
theorem dX0_become_1 : decode cX0_become 1 = .ok (.getfield 9, 3) := by decide +kernel
theorem dX0_become_4 : decode cX0_become 4 = .ok (.iconst 0, 1) := by decide +kernel
theorem dX0_become_5 : decode cX0_become 5 = .ok (.aload_n 0, 1) := by decide +kernel
theorem dX0_become_6 : decode cX0_become 6 = .ok (.getfield 9, 3) := by decide +kernel
theorem dX0_become_9 : decode cX0_become 9 = .ok (.iconst 0, 1) := by decide +kernel
theorem dX0_become_10 : decode cX0_become 10 = .ok (.bipush 12, 2) := by decide +kernel
theorem dX0_become_12 : decode cX0_become 12 = .ok (.invokestatic 43, 3) := by decide +kernel
theorem dX0_become_15 : decode cX0_become 15 = .ok (.aload_n 1, 1) := by decide +kernel
theorem dX0_become_16 : decode cX0_become 16 = .ok (.getfield 15, 3) := by decide +kernel
theorem dX0_become_19 : decode cX0_become 19 = .ok (.iconst 0, 1) := by decide +kernel
theorem dX0_become_20 : decode cX0_become 20 = .ok (.aload_n 0, 1) := by decide +kernel
theorem dX0_become_21 : decode cX0_become 21 = .ok (.getfield 15, 3) := by decide +kernel
theorem dX0_become_24 : decode cX0_become 24 = .ok (.iconst 0, 1) := by decide +kernel
theorem dX0_become_25 : decode cX0_become 25 = .ok (.bipush 6, 2) := by decide +kernel
theorem dX0_become_27 : decode cX0_become 27 = .ok (.invokestatic 43, 3) := by decide +kernel
theorem dX0_become_30 : decode cX0_become 30 = .ok (.aload_n 1, 1) := by decide +kernel
theorem dX0_become_31 : decode cX0_become 31 = .ok (.getfield 18, 3) := by decide +kernel
theorem dX0_become_34 : decode cX0_become 34 = .ok (.iconst 0, 1) := by decide +kernel
theorem dX0_become_35 : decode cX0_become 35 = .ok (.aload_n 0, 1) := by decide +kernel
theorem dX0_become_36 : decode cX0_become 36 = .ok (.getfield 18, 3) := by decide +kernel
theorem dX0_become_39 : decode cX0_become 39 = .ok (.iconst 0, 1) := by decide +kernel
theorem dX0_become_40 : decode cX0_become 40 = .ok (.bipush 6, 2) := by decide +kernel
theorem dX0_become_42 : decode cX0_become 42 = .ok (.invokestatic 43, 3) := by decide +kernel
theorem dX0_become_45 : decode cX0_become 45 = .ok (.aload_n 1, 1) := by decide +kernel
theorem dX0_become_46 : decode cX0_become 46 = .ok (.getfield 21, 3) := by decide +kernel
theorem dX0_become_49 : decode cX0_become 49 = .ok (.iconst 0, 1) := by decide +kernel
theorem dX0_become_50 : decode cX0_become 50 = .ok (.aload_n 0, 1) := by decide +kernel
theorem dX0_become_51 : decode cX0_become 51 = .ok (.getfield 21, 3) := by decide +kernel
theorem dX0_become_54 : decode cX0_become 54 = .ok (.iconst 0, 1) := by decide +kernel
theorem dX0_become_55 : decode cX0_become 55 = .ok (.bipush 6, 2) := by decide +kernel
theorem dX0_become_57 : decode cX0_become 57 = .ok (.invokestatic 43, 3) := by decide +kernel
theorem dX0_become_60 : decode cX0_become 60 = .ok (.aload_n 1, 1) := by decide +kernel
theorem dX0_become_61 : decode cX0_become 61 = .ok (.getfield 24, 3) := by decide +kernel
theorem dX0_become_64 : decode cX0_become 64 = .ok (.iconst 0, 1) := by decide +kernel
theorem dX0_become_65 : decode cX0_become 65 = .ok (.aload_n 0, 1) := by decide +kernel
theorem dX0_become_66 : decode cX0_become 66 = .ok (.getfield 24, 3) := by decide +kernel
theorem dX0_become_69 : decode cX0_become 69 = .ok (.iconst 0, 1) := by decide +kernel
theorem dX0_become_70 : decode cX0_become 70 = .ok (.bipush 6, 2) := by decide +kernel
theorem dX0_become_72 : decode cX0_become 72 = .ok (.invokestatic 43, 3) := by decide +kernel
theorem dX0_become_75 : decode cX0_become 75 = .ok (.aload_n 1, 1) := by decide +kernel
theorem dX0_become_76 : decode cX0_become 76 = .ok (.getfield 27, 3) := by decide +kernel
theorem dX0_become_79 : decode cX0_become 79 = .ok (.iconst 0, 1) := by decide +kernel
theorem dX0_become_80 : decode cX0_become 80 = .ok (.aload_n 0, 1) := by decide +kernel
theorem dX0_become_81 : decode cX0_become 81 = .ok (.getfield 27, 3) := by decide +kernel
theorem dX0_become_84 : decode cX0_become 84 = .ok (.iconst 0, 1) := by decide +kernel
theorem dX0_become_85 : decode cX0_become 85 = .ok (.bipush 10, 2) := by decide +kernel
theorem dX0_become_87 : decode cX0_become 87 = .ok (.invokestatic 43, 3) := by decide +kernel
theorem dX0_become_90 : decode cX0_become 90 = .ok (.aload_n 0, 1) := by decide +kernel
theorem dX0_become_91 : decode cX0_become 91 = .ok (.aload_n 1, 1) := by decide +kernel
theorem dX0_become_92 : decode cX0_become 92 = .ok (.getfield 30, 3) := by decide +kernel
theorem dX0_become_95 : decode cX0_become 95 = .ok (.putfield 30, 3) := by decide +kernel
theorem dX0_become_98 : decode cX0_become 98 = .ok (.aload_n 0, 1) := by decide +kernel
theorem dX0_become_99 : decode cX0_become 99 = .ok (.aload_n 1, 1) := by decide +kernel
theorem dX0_become_100 : decode cX0_become 100 = .ok (.getfield 34, 3) := by decide +kernel
theorem dX0_become_103 : decode cX0_become 103 = .ok (.putfield 34, 3) := by decide +kernel
theorem dX0_become_106 : decode cX0_become 106 = .ok (.aload_n 0, 1) := by decide +kernel
theorem dX0_become_107 : decode cX0_become 107 = .ok (.aload_n 1, 1) := by decide +kernel
theorem dX0_become_108 : decode cX0_become 108 = .ok (.getfield 37, 3) := by decide +kernel
theorem dX0_become_111 : decode cX0_become 111 = .ok (.putfield 37, 3) := by decide +kernel
theorem dX0_become_114 : decode cX0_become 114 = .ok (.aload_n 0, 1) := by decide +kernel
theorem dX0_become_115 : decode cX0_become 115 = .ok (.aload_n 1, 1) := by decide +kernel
theorem dX0_become_116 : decode cX0_become 116 = .ok (.getfield 40, 3) := by decide +kernel
theorem dX0_become_119 : decode cX0_become 119 = .ok (.putfield 40, 3) := by decide +kernel
theorem dX0_become_122 : decode cX0_become 122 = .ok (.return_, 1) := by decide +kernel
theorem dX0_has_0 : decode cX0_has 0 = .ok (.iload_n 1, 1) := by decide +kernel
theorem dX0_has_1 : decode cX0_has 1 = .ok (.ifCond .lt 21, 3) := by decide +kernel
theorem dX0_has_4 : decode cX0_has 4 = .ok (.iload_n 1, 1) := by decide +kernel
theorem dX0_has_5 : decode cX0_has 5 = .ok (.aload_n 0, 1) := by decide +kernel
theorem dX0_has_6 : decode cX0_has 6 = .ok (.getfield 30, 3) := by decide +kernel
theorem dX0_has_9 : decode cX0_has 9 = .ok (.if_icmp .ge 13, 3) := by decide +kernel
theorem dX0_has_12 : decode cX0_has 12 = .ok (.iload_n 1, 1) := by decide +kernel
theorem dX0_has_13 : decode cX0_has 13 = .ok (.bipush 6, 2) := by decide +kernel
theorem dX0_has_15 : decode cX0_has 15 = .ok (.if_icmp .ge 7, 3) := by decide +kernel
theorem dX0_has_18 : decode cX0_has 18 = .ok (.iconst 1, 1) := by decide +kernel
theorem dX0_has_19 : decode cX0_has 19 = .ok (.goto 4, 3) := by decide +kernel
theorem dX0_has_22 : decode cX0_has 22 = .ok (.iconst 0, 1) := by decide +kernel
theorem dX0_has_23 : decode cX0_has 23 = .ok (.ireturn, 1) := by decide +kernel
theorem dX0_hasAll_0 : decode cX0_hasAll 0 = .ok (.iload_n 1, 1) := by decide +kernel
theorem dX0_hasAll_1 : decode cX0_hasAll 1 = .ok (.ifCond .lt 17, 3) := by decide +kernel
theorem dX0_hasAll_4 : decode cX0_hasAll 4 = .ok (.iload_n 1, 1) := by decide +kernel
theorem dX0_hasAll_5 : decode cX0_hasAll 5 = .ok (.iconst 1, 1) := by decide +kernel
theorem dX0_hasAll_6 : decode cX0_hasAll 6 = .ok (.aload_n 0, 1) := by decide +kernel
theorem dX0_hasAll_7 : decode cX0_hasAll 7 = .ok (.getfield 30, 3) := by decide +kernel
theorem dX0_hasAll_10 : decode cX0_hasAll 10 = .ok (.ishl, 1) := by decide +kernel
theorem dX0_hasAll_11 : decode cX0_hasAll 11 = .ok (.if_icmp .ge 7, 3) := by decide +kernel
theorem dX0_hasAll_14 : decode cX0_hasAll 14 = .ok (.iconst 1, 1) := by decide +kernel
theorem dX0_hasAll_15 : decode cX0_hasAll 15 = .ok (.goto 4, 3) := by decide +kernel
theorem dX0_hasAll_18 : decode cX0_hasAll 18 = .ok (.iconst 0, 1) := by decide +kernel
theorem dX0_hasAll_19 : decode cX0_hasAll 19 = .ok (.ireturn, 1) := by decide +kernel
theorem dX0_isFull_0 : decode cX0_isFull 0 = .ok (.aload_n 0, 1) := by decide +kernel
theorem dX0_isFull_1 : decode cX0_isFull 1 = .ok (.getfield 30, 3) := by decide +kernel
theorem dX0_isFull_4 : decode cX0_isFull 4 = .ok (.bipush 6, 2) := by decide +kernel
theorem dX0_isFull_6 : decode cX0_isFull 6 = .ok (.if_icmp .lt 7, 3) := by decide +kernel
theorem dX0_isFull_9 : decode cX0_isFull 9 = .ok (.iconst 1, 1) := by decide +kernel
theorem dX0_isFull_10 : decode cX0_isFull 10 = .ok (.goto 4, 3) := by decide +kernel
theorem dX0_isFull_13 : decode cX0_isFull 13 = .ok (.iconst 0, 1) := by decide +kernel
theorem dX0_isFull_14 : decode cX0_isFull 14 = .ok (.ireturn, 1) := by decide +kernel
theorem dX0_add_0 : decode cX0_add 0 = .ok (.aload_n 0, 1) := by decide +kernel
theorem dX0_add_1 : decode cX0_add 1 = .ok (.getfield 30, 3) := by decide +kernel
theorem dX0_add_4 : decode cX0_add 4 = .ok (.ifCond .lt 10, 3) := by decide +kernel
theorem dX0_add_7 : decode cX0_add 7 = .ok (.aload_n 0, 1) := by decide +kernel
theorem dX0_add_8 : decode cX0_add 8 = .ok (.invokevirtual 49, 3) := by decide +kernel
theorem dX0_add_11 : decode cX0_add 11 = .ok (.ifCond .eq 5, 3) := by decide +kernel
theorem dX0_add_14 : decode cX0_add 14 = .ok (.iconst (-1), 1) := by decide +kernel
theorem dX0_add_15 : decode cX0_add 15 = .ok (.ireturn, 1) := by decide +kernel
theorem dX0_add_16 : decode cX0_add 16 = .ok (.aload_n 0, 1) := by decide +kernel
theorem dX0_add_17 : decode cX0_add 17 = .ok (.getfield 15, 3) := by decide +kernel
theorem dX0_add_20 : decode cX0_add 20 = .ok (.aload_n 0, 1) := by decide +kernel
theorem dX0_add_21 : decode cX0_add 21 = .ok (.getfield 30, 3) := by decide +kernel
theorem dX0_add_24 : decode cX0_add 24 = .ok (.iload_n 1, 1) := by decide +kernel
theorem dX0_add_25 : decode cX0_add 25 = .ok (.iastore, 1) := by decide +kernel
theorem dX0_add_26 : decode cX0_add 26 = .ok (.aload_n 0, 1) := by decide +kernel
theorem dX0_add_27 : decode cX0_add 27 = .ok (.getfield 18, 3) := by decide +kernel
theorem dX0_add_30 : decode cX0_add 30 = .ok (.aload_n 0, 1) := by decide +kernel
theorem dX0_add_31 : decode cX0_add 31 = .ok (.getfield 30, 3) := by decide +kernel
theorem dX0_add_34 : decode cX0_add 34 = .ok (.iload_n 2, 1) := by decide +kernel
theorem dX0_add_35 : decode cX0_add 35 = .ok (.iastore, 1) := by decide +kernel
theorem dX0_add_36 : decode cX0_add 36 = .ok (.aload_n 0, 1) := by decide +kernel
theorem dX0_add_37 : decode cX0_add 37 = .ok (.getfield 21, 3) := by decide +kernel
theorem dX0_add_40 : decode cX0_add 40 = .ok (.aload_n 0, 1) := by decide +kernel
theorem dX0_add_41 : decode cX0_add 41 = .ok (.getfield 30, 3) := by decide +kernel
theorem dX0_add_44 : decode cX0_add 44 = .ok (.iload_n 3, 1) := by decide +kernel
theorem dX0_add_45 : decode cX0_add 45 = .ok (.iastore, 1) := by decide +kernel
theorem dX0_add_46 : decode cX0_add 46 = .ok (.aload_n 0, 1) := by decide +kernel
theorem dX0_add_47 : decode cX0_add 47 = .ok (.getfield 24, 3) := by decide +kernel
theorem dX0_add_50 : decode cX0_add 50 = .ok (.aload_n 0, 1) := by decide +kernel
theorem dX0_add_51 : decode cX0_add 51 = .ok (.getfield 30, 3) := by decide +kernel
theorem dX0_add_54 : decode cX0_add 54 = .ok (.iconst 0, 1) := by decide +kernel
theorem dX0_add_55 : decode cX0_add 55 = .ok (.iastore, 1) := by decide +kernel
theorem dX0_add_56 : decode cX0_add 56 = .ok (.aload_n 0, 1) := by decide +kernel
theorem dX0_add_57 : decode cX0_add 57 = .ok (.dup, 1) := by decide +kernel
theorem dX0_add_58 : decode cX0_add 58 = .ok (.getfield 30, 3) := by decide +kernel
theorem dX0_add_61 : decode cX0_add 61 = .ok (.iconst 1, 1) := by decide +kernel
theorem dX0_add_62 : decode cX0_add 62 = .ok (.iadd, 1) := by decide +kernel
theorem dX0_add_63 : decode cX0_add 63 = .ok (.putfield 30, 3) := by decide +kernel
theorem dX0_add_66 : decode cX0_add 66 = .ok (.aload_n 0, 1) := by decide +kernel
theorem dX0_add_67 : decode cX0_add 67 = .ok (.getfield 30, 3) := by decide +kernel
theorem dX0_add_70 : decode cX0_add 70 = .ok (.iconst 1, 1) := by decide +kernel
theorem dX0_add_71 : decode cX0_add 71 = .ok (.isub, 1) := by decide +kernel
theorem dX0_add_72 : decode cX0_add 72 = .ok (.ireturn, 1) := by decide +kernel
theorem dX0_bears_0 : decode cX0_bears 0 = .ok (.aload_n 0, 1) := by decide +kernel
theorem dX0_bears_1 : decode cX0_bears 1 = .ok (.iload_n 1, 1) := by decide +kernel
theorem dX0_bears_2 : decode cX0_bears 2 = .ok (.invokevirtual 53, 3) := by decide +kernel
theorem dX0_bears_5 : decode cX0_bears 5 = .ok (.ifCond .eq 25, 3) := by decide +kernel
theorem dX0_bears_8 : decode cX0_bears 8 = .ok (.aload_n 0, 1) := by decide +kernel
theorem dX0_bears_9 : decode cX0_bears 9 = .ok (.getfield 15, 3) := by decide +kernel
theorem dX0_bears_12 : decode cX0_bears 12 = .ok (.iload_n 1, 1) := by decide +kernel
theorem dX0_bears_13 : decode cX0_bears 13 = .ok (.iaload, 1) := by decide +kernel
theorem dX0_bears_14 : decode cX0_bears 14 = .ok (.aload_n 0, 1) := by decide +kernel
theorem dX0_bears_15 : decode cX0_bears 15 = .ok (.getfield 21, 3) := by decide +kernel
theorem dX0_bears_18 : decode cX0_bears 18 = .ok (.iload_n 1, 1) := by decide +kernel
theorem dX0_bears_19 : decode cX0_bears 19 = .ok (.iaload, 1) := by decide +kernel
theorem dX0_bears_20 : decode cX0_bears 20 = .ok (.aload_n 0, 1) := by decide +kernel
theorem dX0_bears_21 : decode cX0_bears 21 = .ok (.getfield 34, 3) := by decide +kernel
theorem dX0_bears_24 : decode cX0_bears 24 = .ok (.invokestatic 57, 3) := by decide +kernel
theorem dX0_bears_27 : decode cX0_bears 27 = .ok (.goto 4, 3) := by decide +kernel
theorem dX0_bears_30 : decode cX0_bears 30 = .ok (.iconst 0, 1) := by decide +kernel
theorem dX0_bears_31 : decode cX0_bears 31 = .ok (.ireturn, 1) := by decide +kernel
theorem dX0_unfit_0 : decode cX0_unfit 0 = .ok (.aload_n 0, 1) := by decide +kernel
theorem dX0_unfit_1 : decode cX0_unfit 1 = .ok (.iload_n 1, 1) := by decide +kernel
theorem dX0_unfit_2 : decode cX0_unfit 2 = .ok (.invokevirtual 53, 3) := by decide +kernel
theorem dX0_unfit_5 : decode cX0_unfit 5 = .ok (.ifCond .ne 5, 3) := by decide +kernel
theorem dX0_unfit_8 : decode cX0_unfit 8 = .ok (.iconst 0, 1) := by decide +kernel
theorem dX0_unfit_9 : decode cX0_unfit 9 = .ok (.ireturn, 1) := by decide +kernel
theorem dX0_unfit_10 : decode cX0_unfit 10 = .ok (.aload_n 0, 1) := by decide +kernel
theorem dX0_unfit_11 : decode cX0_unfit 11 = .ok (.iload_n 1, 1) := by decide +kernel
theorem dX0_unfit_12 : decode cX0_unfit 12 = .ok (.invokevirtual 63, 3) := by decide +kernel
theorem dX0_unfit_15 : decode cX0_unfit 15 = .ok (.istore_n 2, 1) := by decide +kernel
theorem dX0_unfit_16 : decode cX0_unfit 16 = .ok (.iconst 0, 1) := by decide +kernel
theorem dX0_unfit_17 : decode cX0_unfit 17 = .ok (.istore_n 3, 1) := by decide +kernel
theorem dX0_unfit_18 : decode cX0_unfit 18 = .ok (.iconst 0, 1) := by decide +kernel
theorem dX0_unfit_19 : decode cX0_unfit 19 = .ok (.istore 4, 2) := by decide +kernel
theorem dX0_unfit_21 : decode cX0_unfit 21 = .ok (.iload 4, 2) := by decide +kernel
theorem dX0_unfit_23 : decode cX0_unfit 23 = .ok (.bipush 12, 2) := by decide +kernel
theorem dX0_unfit_25 : decode cX0_unfit 25 = .ok (.if_icmp .ge 37, 3) := by decide +kernel
theorem dX0_unfit_28 : decode cX0_unfit 28 = .ok (.aload_n 0, 1) := by decide +kernel
theorem dX0_unfit_29 : decode cX0_unfit 29 = .ok (.getfield 18, 3) := by decide +kernel
theorem dX0_unfit_32 : decode cX0_unfit 32 = .ok (.iload_n 1, 1) := by decide +kernel
theorem dX0_unfit_33 : decode cX0_unfit 33 = .ok (.iaload, 1) := by decide +kernel
theorem dX0_unfit_34 : decode cX0_unfit 34 = .ok (.aload_n 0, 1) := by decide +kernel
theorem dX0_unfit_35 : decode cX0_unfit 35 = .ok (.getfield 9, 3) := by decide +kernel
theorem dX0_unfit_38 : decode cX0_unfit 38 = .ok (.iload 4, 2) := by decide +kernel
theorem dX0_unfit_40 : decode cX0_unfit 40 = .ok (.iaload, 1) := by decide +kernel
theorem dX0_unfit_41 : decode cX0_unfit 41 = .ok (.isub, 1) := by decide +kernel
theorem dX0_unfit_42 : decode cX0_unfit 42 = .ok (.invokestatic 66, 3) := by decide +kernel
theorem dX0_unfit_45 : decode cX0_unfit 45 = .ok (.iload_n 2, 1) := by decide +kernel
theorem dX0_unfit_46 : decode cX0_unfit 46 = .ok (.if_icmp .le 10, 3) := by decide +kernel
theorem dX0_unfit_49 : decode cX0_unfit 49 = .ok (.iload_n 3, 1) := by decide +kernel
theorem dX0_unfit_50 : decode cX0_unfit 50 = .ok (.iconst 1, 1) := by decide +kernel
theorem dX0_unfit_51 : decode cX0_unfit 51 = .ok (.iload 4, 2) := by decide +kernel
theorem dX0_unfit_53 : decode cX0_unfit 53 = .ok (.ishl, 1) := by decide +kernel
theorem dX0_unfit_54 : decode cX0_unfit 54 = .ok (.ior, 1) := by decide +kernel
theorem dX0_unfit_55 : decode cX0_unfit 55 = .ok (.istore_n 3, 1) := by decide +kernel
theorem dX0_unfit_56 : decode cX0_unfit 56 = .ok (.iinc 4 1, 3) := by decide +kernel
theorem dX0_unfit_59 : decode cX0_unfit 59 = .ok (.goto (-38), 3) := by decide +kernel
theorem dX0_unfit_62 : decode cX0_unfit 62 = .ok (.iload_n 3, 1) := by decide +kernel
theorem dX0_unfit_63 : decode cX0_unfit 63 = .ok (.ireturn, 1) := by decide +kernel
theorem dX0_draw_0 : decode cX0_draw 0 = .ok (.aload_n 0, 1) := by decide +kernel
theorem dX0_draw_1 : decode cX0_draw 1 = .ok (.aload_n 0, 1) := by decide +kernel
theorem dX0_draw_2 : decode cX0_draw 2 = .ok (.getfield 40, 3) := by decide +kernel
theorem dX0_draw_5 : decode cX0_draw 5 = .ok (.ldc 71, 2) := by decide +kernel
theorem dX0_draw_7 : decode cX0_draw 7 = .ok (.imul, 1) := by decide +kernel
theorem dX0_draw_8 : decode cX0_draw 8 = .ok (.sipush 12345, 3) := by decide +kernel
theorem dX0_draw_11 : decode cX0_draw 11 = .ok (.iadd, 1) := by decide +kernel
theorem dX0_draw_12 : decode cX0_draw 12 = .ok (.putfield 40, 3) := by decide +kernel
theorem dX0_draw_15 : decode cX0_draw 15 = .ok (.aload_n 0, 1) := by decide +kernel
theorem dX0_draw_16 : decode cX0_draw 16 = .ok (.getfield 40, 3) := by decide +kernel
theorem dX0_draw_19 : decode cX0_draw 19 = .ok (.bipush 8, 2) := by decide +kernel
theorem dX0_draw_21 : decode cX0_draw 21 = .ok (.iushr, 1) := by decide +kernel
theorem dX0_draw_22 : decode cX0_draw 22 = .ok (.ireturn, 1) := by decide +kernel
theorem dX0_heldSpots_0 : decode cX0_heldSpots 0 = .ok (.iconst 0, 1) := by decide +kernel
theorem dX0_heldSpots_1 : decode cX0_heldSpots 1 = .ok (.istore_n 1, 1) := by decide +kernel
theorem dX0_heldSpots_2 : decode cX0_heldSpots 2 = .ok (.iconst 0, 1) := by decide +kernel
theorem dX0_heldSpots_3 : decode cX0_heldSpots 3 = .ok (.istore_n 2, 1) := by decide +kernel
theorem dX0_heldSpots_4 : decode cX0_heldSpots 4 = .ok (.iload_n 2, 1) := by decide +kernel
theorem dX0_heldSpots_5 : decode cX0_heldSpots 5 = .ok (.bipush 10, 2) := by decide +kernel
theorem dX0_heldSpots_7 : decode cX0_heldSpots 7 = .ok (.if_icmp .ge 22, 3) := by decide +kernel
theorem dX0_heldSpots_10 : decode cX0_heldSpots 10 = .ok (.aload_n 0, 1) := by decide +kernel
theorem dX0_heldSpots_11 : decode cX0_heldSpots 11 = .ok (.getfield 27, 3) := by decide +kernel
theorem dX0_heldSpots_14 : decode cX0_heldSpots 14 = .ok (.iload_n 2, 1) := by decide +kernel
theorem dX0_heldSpots_15 : decode cX0_heldSpots 15 = .ok (.iaload, 1) := by decide +kernel
theorem dX0_heldSpots_16 : decode cX0_heldSpots 16 = .ok (.iconst (-1), 1) := by decide +kernel
theorem dX0_heldSpots_17 : decode cX0_heldSpots 17 = .ok (.if_icmp .eq 6, 3) := by decide +kernel
theorem dX0_heldSpots_20 : decode cX0_heldSpots 20 = .ok (.iinc 1 1, 3) := by decide +kernel
theorem dX0_heldSpots_23 : decode cX0_heldSpots 23 = .ok (.iinc 2 1, 3) := by decide +kernel
theorem dX0_heldSpots_26 : decode cX0_heldSpots 26 = .ok (.goto (-22), 3) := by decide +kernel
theorem dX0_heldSpots_29 : decode cX0_heldSpots 29 = .ok (.iload_n 1, 1) := by decide +kernel
theorem dX0_heldSpots_30 : decode cX0_heldSpots 30 = .ok (.ireturn, 1) := by decide +kernel
theorem dX1_bears_0 : decode cX1_bears 0 = .ok (.iload_n 0, 1) := by decide +kernel
theorem dX1_bears_1 : decode cX1_bears 1 = .ok (.tableswitch 96 1 6 #[39, 50, 59, 71, 93, 43], 39) := by decide +kernel
theorem dX1_bears_40 : decode cX1_bears 40 = .ok (.iload_n 1, 1) := by decide +kernel
theorem dX1_bears_41 : decode cX1_bears 41 = .ok (.iconst 2, 1) := by decide +kernel
theorem dX1_bears_42 : decode cX1_bears 42 = .ok (.idiv, 1) := by decide +kernel
theorem dX1_bears_43 : decode cX1_bears 43 = .ok (.ireturn, 1) := by decide +kernel
theorem dX1_bears_44 : decode cX1_bears 44 = .ok (.iload_n 1, 1) := by decide +kernel
theorem dX1_bears_45 : decode cX1_bears 45 = .ok (.iconst 2, 1) := by decide +kernel
theorem dX1_bears_46 : decode cX1_bears 46 = .ok (.idiv, 1) := by decide +kernel
theorem dX1_bears_47 : decode cX1_bears 47 = .ok (.bipush 40, 2) := by decide +kernel
theorem dX1_bears_49 : decode cX1_bears 49 = .ok (.iadd, 1) := by decide +kernel
theorem dX1_bears_50 : decode cX1_bears 50 = .ok (.ireturn, 1) := by decide +kernel
theorem dX1_bears_51 : decode cX1_bears 51 = .ok (.iconst 0, 1) := by decide +kernel
theorem dX1_bears_52 : decode cX1_bears 52 = .ok (.iload_n 1, 1) := by decide +kernel
theorem dX1_bears_53 : decode cX1_bears 53 = .ok (.bipush 10, 2) := by decide +kernel
theorem dX1_bears_55 : decode cX1_bears 55 = .ok (.isub, 1) := by decide +kernel
theorem dX1_bears_56 : decode cX1_bears 56 = .ok (.invokestatic 9, 3) := by decide +kernel
theorem dX1_bears_59 : decode cX1_bears 59 = .ok (.ireturn, 1) := by decide +kernel
theorem dX1_bears_60 : decode cX1_bears 60 = .ok (.iconst 0, 1) := by decide +kernel
theorem dX1_bears_61 : decode cX1_bears 61 = .ok (.iload_n 1, 1) := by decide +kernel
theorem dX1_bears_62 : decode cX1_bears 62 = .ok (.bipush 10, 2) := by decide +kernel
theorem dX1_bears_64 : decode cX1_bears 64 = .ok (.isub, 1) := by decide +kernel
theorem dX1_bears_65 : decode cX1_bears 65 = .ok (.invokestatic 9, 3) := by decide +kernel
theorem dX1_bears_68 : decode cX1_bears 68 = .ok (.bipush 20, 2) := by decide +kernel
theorem dX1_bears_70 : decode cX1_bears 70 = .ok (.iadd, 1) := by decide +kernel
theorem dX1_bears_71 : decode cX1_bears 71 = .ok (.ireturn, 1) := by decide +kernel
theorem dX1_bears_72 : decode cX1_bears 72 = .ok (.iload_n 2, 1) := by decide +kernel
theorem dX1_bears_73 : decode cX1_bears 73 = .ok (.iconst 1, 1) := by decide +kernel
theorem dX1_bears_74 : decode cX1_bears 74 = .ok (.if_icmp .ne 8, 3) := by decide +kernel
theorem dX1_bears_77 : decode cX1_bears 77 = .ok (.bipush 99, 2) := by decide +kernel
theorem dX1_bears_79 : decode cX1_bears 79 = .ok (.goto 14, 3) := by decide +kernel
theorem dX1_bears_82 : decode cX1_bears 82 = .ok (.iconst 0, 1) := by decide +kernel
theorem dX1_bears_83 : decode cX1_bears 83 = .ok (.iload_n 1, 1) := by decide +kernel
theorem dX1_bears_84 : decode cX1_bears 84 = .ok (.bipush 10, 2) := by decide +kernel
theorem dX1_bears_86 : decode cX1_bears 86 = .ok (.isub, 1) := by decide +kernel
theorem dX1_bears_87 : decode cX1_bears 87 = .ok (.invokestatic 9, 3) := by decide +kernel
theorem dX1_bears_90 : decode cX1_bears 90 = .ok (.bipush 20, 2) := by decide +kernel
theorem dX1_bears_92 : decode cX1_bears 92 = .ok (.iadd, 1) := by decide +kernel
theorem dX1_bears_93 : decode cX1_bears 93 = .ok (.ireturn, 1) := by decide +kernel
theorem dX1_bears_94 : decode cX1_bears 94 = .ok (.bipush 99, 2) := by decide +kernel
theorem dX1_bears_96 : decode cX1_bears 96 = .ok (.ireturn, 1) := by decide +kernel
theorem dX1_bears_97 : decode cX1_bears 97 = .ok (.iload_n 1, 1) := by decide +kernel
theorem dX1_bears_98 : decode cX1_bears 98 = .ok (.ireturn, 1) := by decide +kernel
theorem dX1_sway_0 : decode cX1_sway 0 = .ok (.iload_n 2, 1) := by decide +kernel
theorem dX1_sway_1 : decode cX1_sway 1 = .ok (.iload_n 1, 1) := by decide +kernel
theorem dX1_sway_2 : decode cX1_sway 2 = .ok (.isub, 1) := by decide +kernel
theorem dX1_sway_3 : decode cX1_sway 3 = .ok (.istore_n 3, 1) := by decide +kernel
theorem dX1_sway_4 : decode cX1_sway 4 = .ok (.iload_n 0, 1) := by decide +kernel
theorem dX1_sway_5 : decode cX1_sway 5 = .ok (.tableswitch 73 1 6 #[39, 43, 45, 52, 59, 43], 39) := by decide +kernel
theorem dX1_sway_44 : decode cX1_sway 44 = .ok (.iload_n 3, 1) := by decide +kernel
theorem dX1_sway_45 : decode cX1_sway 45 = .ok (.iconst 2, 1) := by decide +kernel
theorem dX1_sway_46 : decode cX1_sway 46 = .ok (.idiv, 1) := by decide +kernel
theorem dX1_sway_47 : decode cX1_sway 47 = .ok (.ireturn, 1) := by decide +kernel
theorem dX1_sway_48 : decode cX1_sway 48 = .ok (.iconst 0, 1) := by decide +kernel
theorem dX1_sway_49 : decode cX1_sway 49 = .ok (.ireturn, 1) := by decide +kernel
theorem dX1_sway_50 : decode cX1_sway 50 = .ok (.iload_n 3, 1) := by decide +kernel
theorem dX1_sway_51 : decode cX1_sway 51 = .ok (.bipush 10, 2) := by decide +kernel
theorem dX1_sway_53 : decode cX1_sway 53 = .ok (.idiv, 1) := by decide +kernel
theorem dX1_sway_54 : decode cX1_sway 54 = .ok (.iconst 1, 1) := by decide +kernel
theorem dX1_sway_55 : decode cX1_sway 55 = .ok (.iadd, 1) := by decide +kernel
theorem dX1_sway_56 : decode cX1_sway 56 = .ok (.ireturn, 1) := by decide +kernel
theorem dX1_sway_57 : decode cX1_sway 57 = .ok (.iload_n 3, 1) := by decide +kernel
theorem dX1_sway_58 : decode cX1_sway 58 = .ok (.bipush 10, 2) := by decide +kernel
theorem dX1_sway_60 : decode cX1_sway 60 = .ok (.idiv, 1) := by decide +kernel
theorem dX1_sway_61 : decode cX1_sway 61 = .ok (.iconst 1, 1) := by decide +kernel
theorem dX1_sway_62 : decode cX1_sway 62 = .ok (.isub, 1) := by decide +kernel
theorem dX1_sway_63 : decode cX1_sway 63 = .ok (.ireturn, 1) := by decide +kernel
theorem dX1_sway_64 : decode cX1_sway 64 = .ok (.bipush (-5), 2) := by decide +kernel
theorem dX1_sway_66 : decode cX1_sway 66 = .ok (.iconst 5, 1) := by decide +kernel
theorem dX1_sway_67 : decode cX1_sway 67 = .ok (.bipush 20, 2) := by decide +kernel
theorem dX1_sway_69 : decode cX1_sway 69 = .ok (.iload_n 1, 1) := by decide +kernel
theorem dX1_sway_70 : decode cX1_sway 70 = .ok (.isub, 1) := by decide +kernel
theorem dX1_sway_71 : decode cX1_sway 71 = .ok (.invokestatic 15, 3) := by decide +kernel
theorem dX1_sway_74 : decode cX1_sway 74 = .ok (.invokestatic 9, 3) := by decide +kernel
theorem dX1_sway_77 : decode cX1_sway 77 = .ok (.ireturn, 1) := by decide +kernel
theorem dX1_sway_78 : decode cX1_sway 78 = .ok (.iload_n 3, 1) := by decide +kernel
theorem dX1_sway_79 : decode cX1_sway 79 = .ok (.iconst 4, 1) := by decide +kernel
theorem dX1_sway_80 : decode cX1_sway 80 = .ok (.idiv, 1) := by decide +kernel
theorem dX1_sway_81 : decode cX1_sway 81 = .ok (.ireturn, 1) := by decide +kernel
theorem dX1_footprint_0 : decode cX1_footprint 0 = .ok (.iload_n 0, 1) := by decide +kernel
theorem dX1_footprint_1 : decode cX1_footprint 1 = .ok (.tableswitch 56 1 5 #[35, 39, 45, 45, 53], 35) := by decide +kernel
theorem dX1_footprint_36 : decode cX1_footprint 36 = .ok (.iload_n 1, 1) := by decide +kernel
theorem dX1_footprint_37 : decode cX1_footprint 37 = .ok (.iconst 5, 1) := by decide +kernel
theorem dX1_footprint_38 : decode cX1_footprint 38 = .ok (.iadd, 1) := by decide +kernel
theorem dX1_footprint_39 : decode cX1_footprint 39 = .ok (.ireturn, 1) := by decide +kernel
theorem dX1_footprint_40 : decode cX1_footprint 40 = .ok (.iload_n 1, 1) := by decide +kernel
theorem dX1_footprint_41 : decode cX1_footprint 41 = .ok (.iload_n 2, 1) := by decide +kernel
theorem dX1_footprint_42 : decode cX1_footprint 42 = .ok (.iadd, 1) := by decide +kernel
theorem dX1_footprint_43 : decode cX1_footprint 43 = .ok (.iconst 2, 1) := by decide +kernel
theorem dX1_footprint_44 : decode cX1_footprint 44 = .ok (.idiv, 1) := by decide +kernel
theorem dX1_footprint_45 : decode cX1_footprint 45 = .ok (.ireturn, 1) := by decide +kernel
theorem dX1_footprint_46 : decode cX1_footprint 46 = .ok (.iload_n 1, 1) := by decide +kernel
theorem dX1_footprint_47 : decode cX1_footprint 47 = .ok (.iload_n 2, 1) := by decide +kernel
theorem dX1_footprint_48 : decode cX1_footprint 48 = .ok (.iadd, 1) := by decide +kernel
theorem dX1_footprint_49 : decode cX1_footprint 49 = .ok (.iconst 2, 1) := by decide +kernel
theorem dX1_footprint_50 : decode cX1_footprint 50 = .ok (.idiv, 1) := by decide +kernel
theorem dX1_footprint_51 : decode cX1_footprint 51 = .ok (.iconst 3, 1) := by decide +kernel
theorem dX1_footprint_52 : decode cX1_footprint 52 = .ok (.iadd, 1) := by decide +kernel
theorem dX1_footprint_53 : decode cX1_footprint 53 = .ok (.ireturn, 1) := by decide +kernel
theorem dX1_footprint_54 : decode cX1_footprint 54 = .ok (.bipush 20, 2) := by decide +kernel
theorem dX1_footprint_56 : decode cX1_footprint 56 = .ok (.ireturn, 1) := by decide +kernel
theorem dX1_footprint_57 : decode cX1_footprint 57 = .ok (.iload_n 1, 1) := by decide +kernel
theorem dX1_footprint_58 : decode cX1_footprint 58 = .ok (.ireturn, 1) := by decide +kernel
theorem dX1_isUnder_0 : decode cX1_isUnder 0 = .ok (.iload_n 0, 1) := by decide +kernel
theorem dX1_isUnder_1 : decode cX1_isUnder 1 = .ok (.istore_n 2, 1) := by decide +kernel
theorem dX1_isUnder_2 : decode cX1_isUnder 2 = .ok (.iconst 0, 1) := by decide +kernel
theorem dX1_isUnder_3 : decode cX1_isUnder 3 = .ok (.istore_n 3, 1) := by decide +kernel
theorem dX1_isUnder_4 : decode cX1_isUnder 4 = .ok (.iload_n 3, 1) := by decide +kernel
theorem dX1_isUnder_5 : decode cX1_isUnder 5 = .ok (.getstatic 18, 3) := by decide +kernel
theorem dX1_isUnder_8 : decode cX1_isUnder 8 = .ok (.arraylength, 1) := by decide +kernel
theorem dX1_isUnder_9 : decode cX1_isUnder 9 = .ok (.if_icmp .ge 29, 3) := by decide +kernel
theorem dX1_isUnder_12 : decode cX1_isUnder 12 = .ok (.iload_n 2, 1) := by decide +kernel
theorem dX1_isUnder_13 : decode cX1_isUnder 13 = .ok (.invokestatic 22, 3) := by decide +kernel
theorem dX1_isUnder_16 : decode cX1_isUnder 16 = .ok (.ifCond .eq 22, 3) := by decide +kernel
theorem dX1_isUnder_19 : decode cX1_isUnder 19 = .ok (.iload_n 2, 1) := by decide +kernel
theorem dX1_isUnder_20 : decode cX1_isUnder 20 = .ok (.iload_n 1, 1) := by decide +kernel
theorem dX1_isUnder_21 : decode cX1_isUnder 21 = .ok (.if_icmp .ne 5, 3) := by decide +kernel
theorem dX1_isUnder_24 : decode cX1_isUnder 24 = .ok (.iconst 1, 1) := by decide +kernel
theorem dX1_isUnder_25 : decode cX1_isUnder 25 = .ok (.ireturn, 1) := by decide +kernel
theorem dX1_isUnder_26 : decode cX1_isUnder 26 = .ok (.getstatic 18, 3) := by decide +kernel
theorem dX1_isUnder_29 : decode cX1_isUnder 29 = .ok (.iload_n 2, 1) := by decide +kernel
theorem dX1_isUnder_30 : decode cX1_isUnder 30 = .ok (.iaload, 1) := by decide +kernel
theorem dX1_isUnder_31 : decode cX1_isUnder 31 = .ok (.istore_n 2, 1) := by decide +kernel
theorem dX1_isUnder_32 : decode cX1_isUnder 32 = .ok (.iinc 3 1, 3) := by decide +kernel
theorem dX1_isUnder_35 : decode cX1_isUnder 35 = .ok (.goto (-31), 3) := by decide +kernel
theorem dX1_isUnder_38 : decode cX1_isUnder 38 = .ok (.iconst 0, 1) := by decide +kernel
theorem dX1_isUnder_39 : decode cX1_isUnder 39 = .ok (.ireturn, 1) := by decide +kernel
theorem dX2_init_0 : decode cX2_init 0 = .ok (.aload_n 0, 1) := by decide +kernel
theorem dX2_init_1 : decode cX2_init 1 = .ok (.invokespecial 3, 3) := by decide +kernel
theorem dX2_init_4 : decode cX2_init 4 = .ok (.aload_n 0, 1) := by decide +kernel
theorem dX2_init_5 : decode cX2_init 5 = .ok (.new 9, 3) := by decide +kernel
theorem dX2_init_8 : decode cX2_init 8 = .ok (.dup, 1) := by decide +kernel
theorem dX2_init_9 : decode cX2_init 9 = .ok (.invokespecial 11, 3) := by decide +kernel
theorem dX2_init_12 : decode cX2_init 12 = .ok (.putfield 12, 3) := by decide +kernel
theorem dX2_init_15 : decode cX2_init 15 = .ok (.aload_n 0, 1) := by decide +kernel
theorem dX2_init_16 : decode cX2_init 16 = .ok (.new 18, 3) := by decide +kernel
theorem dX2_init_19 : decode cX2_init 19 = .ok (.dup, 1) := by decide +kernel
theorem dX2_init_20 : decode cX2_init 20 = .ok (.invokespecial 20, 3) := by decide +kernel
theorem dX2_init_23 : decode cX2_init 23 = .ok (.putfield 21, 3) := by decide +kernel
theorem dX2_init_26 : decode cX2_init 26 = .ok (.aload_n 0, 1) := by decide +kernel
theorem dX2_init_27 : decode cX2_init 27 = .ok (.bipush 7, 2) := by decide +kernel
theorem dX2_init_29 : decode cX2_init 29 = .ok (.bipush 12, 2) := by decide +kernel
theorem dX2_init_31 : decode cX2_init 31 = .ok (.multianewarray 25 2, 4) := by decide +kernel
theorem dX2_init_35 : decode cX2_init 35 = .ok (.putfield 27, 3) := by decide +kernel
theorem dX2_init_38 : decode cX2_init 38 = .ok (.aload_n 0, 1) := by decide +kernel
theorem dX2_init_39 : decode cX2_init 39 = .ok (.bipush 6, 2) := by decide +kernel
theorem dX2_init_41 : decode cX2_init 41 = .ok (.newarray .int, 2) := by decide +kernel
theorem dX2_init_43 : decode cX2_init 43 = .ok (.putfield 30, 3) := by decide +kernel
theorem dX2_init_46 : decode cX2_init 46 = .ok (.return_, 1) := by decide +kernel
theorem dX2_findOrder_0 : decode cX2_findOrder 0 = .ok (.aload_n 0, 1) := by decide +kernel
theorem dX2_findOrder_1 : decode cX2_findOrder 1 = .ok (.aload_n 1, 1) := by decide +kernel
theorem dX2_findOrder_2 : decode cX2_findOrder 2 = .ok (.invokevirtual 34, 3) := by decide +kernel
theorem dX2_findOrder_5 : decode cX2_findOrder 5 = .ok (.aload_n 0, 1) := by decide +kernel
theorem dX2_findOrder_6 : decode cX2_findOrder 6 = .ok (.iload_n 2, 1) := by decide +kernel
theorem dX2_findOrder_7 : decode cX2_findOrder 7 = .ok (.iconst 0, 1) := by decide +kernel
theorem dX2_findOrder_8 : decode cX2_findOrder 8 = .ok (.invokevirtual 38, 3) := by decide +kernel
theorem dX2_findOrder_11 : decode cX2_findOrder 11 = .ok (.ireturn, 1) := by decide +kernel
theorem dX2_countOrders_0 : decode cX2_countOrders 0 = .ok (.aload_n 0, 1) := by decide +kernel
theorem dX2_countOrders_1 : decode cX2_countOrders 1 = .ok (.aload_n 1, 1) := by decide +kernel
theorem dX2_countOrders_2 : decode cX2_countOrders 2 = .ok (.invokevirtual 34, 3) := by decide +kernel
theorem dX2_countOrders_5 : decode cX2_countOrders 5 = .ok (.aload_n 0, 1) := by decide +kernel
theorem dX2_countOrders_6 : decode cX2_countOrders 6 = .ok (.iload_n 2, 1) := by decide +kernel
theorem dX2_countOrders_7 : decode cX2_countOrders 7 = .ok (.iconst 0, 1) := by decide +kernel
theorem dX2_countOrders_8 : decode cX2_countOrders 8 = .ok (.invokevirtual 42, 3) := by decide +kernel
theorem dX2_countOrders_11 : decode cX2_countOrders 11 = .ok (.ireturn, 1) := by decide +kernel
theorem dX2_countFalls_0 : decode cX2_countFalls 0 = .ok (.aload_n 0, 1) := by decide +kernel
theorem dX2_countFalls_1 : decode cX2_countFalls 1 = .ok (.aload_n 1, 1) := by decide +kernel
theorem dX2_countFalls_2 : decode cX2_countFalls 2 = .ok (.invokevirtual 34, 3) := by decide +kernel
theorem dX2_countFalls_5 : decode cX2_countFalls 5 = .ok (.aload_n 0, 1) := by decide +kernel
theorem dX2_countFalls_6 : decode cX2_countFalls 6 = .ok (.iload_n 2, 1) := by decide +kernel
theorem dX2_countFalls_7 : decode cX2_countFalls 7 = .ok (.iconst 0, 1) := by decide +kernel
theorem dX2_countFalls_8 : decode cX2_countFalls 8 = .ok (.invokevirtual 46, 3) := by decide +kernel
theorem dX2_countFalls_11 : decode cX2_countFalls 11 = .ok (.ireturn, 1) := by decide +kernel
theorem dX2_findGreatest_0 : decode cX2_findGreatest 0 = .ok (.aload_n 0, 1) := by decide +kernel
theorem dX2_findGreatest_1 : decode cX2_findGreatest 1 = .ok (.aload_n 1, 1) := by decide +kernel
theorem dX2_findGreatest_2 : decode cX2_findGreatest 2 = .ok (.invokevirtual 34, 3) := by decide +kernel
theorem dX2_findGreatest_5 : decode cX2_findGreatest 5 = .ok (.aload_n 0, 1) := by decide +kernel
theorem dX2_findGreatest_6 : decode cX2_findGreatest 6 = .ok (.iconst 0, 1) := by decide +kernel
theorem dX2_findGreatest_7 : decode cX2_findGreatest 7 = .ok (.iconst 0, 1) := by decide +kernel
theorem dX2_findGreatest_8 : decode cX2_findGreatest 8 = .ok (.iconst 0, 1) := by decide +kernel
theorem dX2_findGreatest_9 : decode cX2_findGreatest 9 = .ok (.invokevirtual 49, 3) := by decide +kernel
theorem dX2_findGreatest_12 : decode cX2_findGreatest 12 = .ok (.ireturn, 1) := by decide +kernel
theorem dX2_placed_0 : decode cX2_placed 0 = .ok (.iload_n 1, 1) := by decide +kernel
theorem dX2_placed_1 : decode cX2_placed 1 = .ok (.ifCond .lt 18, 3) := by decide +kernel
theorem dX2_placed_4 : decode cX2_placed 4 = .ok (.iload_n 1, 1) := by decide +kernel
theorem dX2_placed_5 : decode cX2_placed 5 = .ok (.bipush 6, 2) := by decide +kernel
theorem dX2_placed_7 : decode cX2_placed 7 = .ok (.if_icmp .ge 12, 3) := by decide +kernel
theorem dX2_placed_10 : decode cX2_placed 10 = .ok (.aload_n 0, 1) := by decide +kernel
theorem dX2_placed_11 : decode cX2_placed 11 = .ok (.getfield 30, 3) := by decide +kernel
theorem dX2_placed_14 : decode cX2_placed 14 = .ok (.iload_n 1, 1) := by decide +kernel
theorem dX2_placed_15 : decode cX2_placed 15 = .ok (.iaload, 1) := by decide +kernel
theorem dX2_placed_16 : decode cX2_placed 16 = .ok (.goto 4, 3) := by decide +kernel
theorem dX2_placed_19 : decode cX2_placed 19 = .ok (.iconst (-1), 1) := by decide +kernel
theorem dX2_placed_20 : decode cX2_placed 20 = .ok (.ireturn, 1) := by decide +kernel
theorem dX2_begin_0 : decode cX2_begin 0 = .ok (.aload_n 0, 1) := by decide +kernel
theorem dX2_begin_1 : decode cX2_begin 1 = .ok (.getfield 12, 3) := by decide +kernel
theorem dX2_begin_4 : decode cX2_begin 4 = .ok (.aload_n 1, 1) := by decide +kernel
theorem dX2_begin_5 : decode cX2_begin 5 = .ok (.invokevirtual 53, 3) := by decide +kernel
theorem dX2_begin_8 : decode cX2_begin 8 = .ok (.aload_n 0, 1) := by decide +kernel
theorem dX2_begin_9 : decode cX2_begin 9 = .ok (.getfield 12, 3) := by decide +kernel
theorem dX2_begin_12 : decode cX2_begin 12 = .ok (.getfield 56, 3) := by decide +kernel
theorem dX2_begin_15 : decode cX2_begin 15 = .ok (.iconst 0, 1) := by decide +kernel
theorem dX2_begin_16 : decode cX2_begin 16 = .ok (.aload_n 0, 1) := by decide +kernel
theorem dX2_begin_17 : decode cX2_begin 17 = .ok (.getfield 27, 3) := by decide +kernel
theorem dX2_begin_20 : decode cX2_begin 20 = .ok (.iconst 0, 1) := by decide +kernel
theorem dX2_begin_21 : decode cX2_begin 21 = .ok (.aaload, 1) := by decide +kernel
theorem dX2_begin_22 : decode cX2_begin 22 = .ok (.iconst 0, 1) := by decide +kernel
theorem dX2_begin_23 : decode cX2_begin 23 = .ok (.bipush 12, 2) := by decide +kernel
theorem dX2_begin_25 : decode cX2_begin 25 = .ok (.invokestatic 59, 3) := by decide +kernel
theorem dX2_begin_28 : decode cX2_begin 28 = .ok (.return_, 1) := by decide +kernel
theorem dX2_crosses_0 : decode cX2_crosses 0 = .ok (.iload_n 2, 1) := by decide +kernel
theorem dX2_crosses_1 : decode cX2_crosses 1 = .ok (.ifCond .lt 9, 3) := by decide +kernel
theorem dX2_crosses_4 : decode cX2_crosses 4 = .ok (.iload_n 2, 1) := by decide +kernel
theorem dX2_crosses_5 : decode cX2_crosses 5 = .ok (.bipush 6, 2) := by decide +kernel
theorem dX2_crosses_7 : decode cX2_crosses 7 = .ok (.if_icmp .lt 5, 3) := by decide +kernel
theorem dX2_crosses_10 : decode cX2_crosses 10 = .ok (.iconst 0, 1) := by decide +kernel
theorem dX2_crosses_11 : decode cX2_crosses 11 = .ok (.ireturn, 1) := by decide +kernel
theorem dX2_crosses_12 : decode cX2_crosses 12 = .ok (.aload_n 0, 1) := by decide +kernel
theorem dX2_crosses_13 : decode cX2_crosses 13 = .ok (.getfield 27, 3) := by decide +kernel
theorem dX2_crosses_16 : decode cX2_crosses 16 = .ok (.iload_n 2, 1) := by decide +kernel
theorem dX2_crosses_17 : decode cX2_crosses 17 = .ok (.aaload, 1) := by decide +kernel
theorem dX2_crosses_18 : decode cX2_crosses 18 = .ok (.iconst 0, 1) := by decide +kernel
theorem dX2_crosses_19 : decode cX2_crosses 19 = .ok (.aload_n 0, 1) := by decide +kernel
theorem dX2_crosses_20 : decode cX2_crosses 20 = .ok (.getfield 27, 3) := by decide +kernel
theorem dX2_crosses_23 : decode cX2_crosses 23 = .ok (.iload_n 2, 1) := by decide +kernel
theorem dX2_crosses_24 : decode cX2_crosses 24 = .ok (.iconst 1, 1) := by decide +kernel
theorem dX2_crosses_25 : decode cX2_crosses 25 = .ok (.iadd, 1) := by decide +kernel
theorem dX2_crosses_26 : decode cX2_crosses 26 = .ok (.aaload, 1) := by decide +kernel
theorem dX2_crosses_27 : decode cX2_crosses 27 = .ok (.iconst 0, 1) := by decide +kernel
theorem dX2_crosses_28 : decode cX2_crosses 28 = .ok (.bipush 12, 2) := by decide +kernel
theorem dX2_crosses_30 : decode cX2_crosses 30 = .ok (.invokestatic 59, 3) := by decide +kernel
theorem dX2_crosses_33 : decode cX2_crosses 33 = .ok (.aload_n 0, 1) := by decide +kernel
theorem dX2_crosses_34 : decode cX2_crosses 34 = .ok (.getfield 21, 3) := by decide +kernel
theorem dX2_crosses_37 : decode cX2_crosses 37 = .ok (.aload_n 0, 1) := by decide +kernel
theorem dX2_crosses_38 : decode cX2_crosses 38 = .ok (.getfield 12, 3) := by decide +kernel
theorem dX2_crosses_41 : decode cX2_crosses 41 = .ok (.iload_n 1, 1) := by decide +kernel
theorem dX2_crosses_42 : decode cX2_crosses 42 = .ok (.invokevirtual 65, 3) := by decide +kernel
theorem dX2_crosses_45 : decode cX2_crosses 45 = .ok (.aload_n 0, 1) := by decide +kernel
theorem dX2_crosses_46 : decode cX2_crosses 46 = .ok (.getfield 21, 3) := by decide +kernel
theorem dX2_crosses_49 : decode cX2_crosses 49 = .ok (.aload_n 0, 1) := by decide +kernel
theorem dX2_crosses_50 : decode cX2_crosses 50 = .ok (.getfield 27, 3) := by decide +kernel
theorem dX2_crosses_53 : decode cX2_crosses 53 = .ok (.iload_n 2, 1) := by decide +kernel
theorem dX2_crosses_54 : decode cX2_crosses 54 = .ok (.iconst 1, 1) := by decide +kernel
theorem dX2_crosses_55 : decode cX2_crosses 55 = .ok (.iadd, 1) := by decide +kernel
theorem dX2_crosses_56 : decode cX2_crosses 56 = .ok (.aaload, 1) := by decide +kernel
theorem dX2_crosses_57 : decode cX2_crosses 57 = .ok (.invokevirtual 68, 3) := by decide +kernel
theorem dX2_crosses_60 : decode cX2_crosses 60 = .ok (.bipush 12, 2) := by decide +kernel
theorem dX2_crosses_62 : decode cX2_crosses 62 = .ok (.if_icmp .ne 7, 3) := by decide +kernel
theorem dX2_crosses_65 : decode cX2_crosses 65 = .ok (.iconst 1, 1) := by decide +kernel
theorem dX2_crosses_66 : decode cX2_crosses 66 = .ok (.goto 4, 3) := by decide +kernel
theorem dX2_crosses_69 : decode cX2_crosses 69 = .ok (.iconst 0, 1) := by decide +kernel
theorem dX2_crosses_70 : decode cX2_crosses 70 = .ok (.ireturn, 1) := by decide +kernel
theorem dX2_findFirst_0 : decode cX2_findFirst 0 = .ok (.iload_n 1, 1) := by decide +kernel
theorem dX2_findFirst_1 : decode cX2_findFirst 1 = .ok (.ifCond .eq 9, 3) := by decide +kernel
theorem dX2_findFirst_4 : decode cX2_findFirst 4 = .ok (.iload_n 2, 1) := by decide +kernel
theorem dX2_findFirst_5 : decode cX2_findFirst 5 = .ok (.bipush 6, 2) := by decide +kernel
theorem dX2_findFirst_7 : decode cX2_findFirst 7 = .ok (.if_icmp .lt 5, 3) := by decide +kernel
theorem dX2_findFirst_10 : decode cX2_findFirst 10 = .ok (.iconst 1, 1) := by decide +kernel
theorem dX2_findFirst_11 : decode cX2_findFirst 11 = .ok (.ireturn, 1) := by decide +kernel
theorem dX2_findFirst_12 : decode cX2_findFirst 12 = .ok (.iconst 0, 1) := by decide +kernel
theorem dX2_findFirst_13 : decode cX2_findFirst 13 = .ok (.istore_n 3, 1) := by decide +kernel
theorem dX2_findFirst_14 : decode cX2_findFirst 14 = .ok (.iload_n 3, 1) := by decide +kernel
theorem dX2_findFirst_15 : decode cX2_findFirst 15 = .ok (.bipush 6, 2) := by decide +kernel
theorem dX2_findFirst_17 : decode cX2_findFirst 17 = .ok (.if_icmp .ge 52, 3) := by decide +kernel
theorem dX2_findFirst_20 : decode cX2_findFirst 20 = .ok (.iload_n 1, 1) := by decide +kernel
theorem dX2_findFirst_21 : decode cX2_findFirst 21 = .ok (.iload_n 3, 1) := by decide +kernel
theorem dX2_findFirst_22 : decode cX2_findFirst 22 = .ok (.invokestatic 72, 3) := by decide +kernel
theorem dX2_findFirst_25 : decode cX2_findFirst 25 = .ok (.ifCond .eq 38, 3) := by decide +kernel
theorem dX2_findFirst_28 : decode cX2_findFirst 28 = .ok (.aload_n 0, 1) := by decide +kernel
theorem dX2_findFirst_29 : decode cX2_findFirst 29 = .ok (.iload_n 3, 1) := by decide +kernel
theorem dX2_findFirst_30 : decode cX2_findFirst 30 = .ok (.iload_n 2, 1) := by decide +kernel
theorem dX2_findFirst_31 : decode cX2_findFirst 31 = .ok (.invokevirtual 75, 3) := by decide +kernel
theorem dX2_findFirst_34 : decode cX2_findFirst 34 = .ok (.ifCond .eq 29, 3) := by decide +kernel
theorem dX2_findFirst_37 : decode cX2_findFirst 37 = .ok (.aload_n 0, 1) := by decide +kernel
theorem dX2_findFirst_38 : decode cX2_findFirst 38 = .ok (.getfield 30, 3) := by decide +kernel
theorem dX2_findFirst_41 : decode cX2_findFirst 41 = .ok (.iload_n 2, 1) := by decide +kernel
theorem dX2_findFirst_42 : decode cX2_findFirst 42 = .ok (.iload_n 3, 1) := by decide +kernel
theorem dX2_findFirst_43 : decode cX2_findFirst 43 = .ok (.iastore, 1) := by decide +kernel
theorem dX2_findFirst_44 : decode cX2_findFirst 44 = .ok (.aload_n 0, 1) := by decide +kernel
theorem dX2_findFirst_45 : decode cX2_findFirst 45 = .ok (.iload_n 1, 1) := by decide +kernel
theorem dX2_findFirst_46 : decode cX2_findFirst 46 = .ok (.iconst 1, 1) := by decide +kernel
theorem dX2_findFirst_47 : decode cX2_findFirst 47 = .ok (.iload_n 3, 1) := by decide +kernel
theorem dX2_findFirst_48 : decode cX2_findFirst 48 = .ok (.ishl, 1) := by decide +kernel
theorem dX2_findFirst_49 : decode cX2_findFirst 49 = .ok (.iconst (-1), 1) := by decide +kernel
theorem dX2_findFirst_50 : decode cX2_findFirst 50 = .ok (.ixor, 1) := by decide +kernel
theorem dX2_findFirst_51 : decode cX2_findFirst 51 = .ok (.iand, 1) := by decide +kernel
theorem dX2_findFirst_52 : decode cX2_findFirst 52 = .ok (.iload_n 2, 1) := by decide +kernel
theorem dX2_findFirst_53 : decode cX2_findFirst 53 = .ok (.iconst 1, 1) := by decide +kernel
theorem dX2_findFirst_54 : decode cX2_findFirst 54 = .ok (.iadd, 1) := by decide +kernel
theorem dX2_findFirst_55 : decode cX2_findFirst 55 = .ok (.invokevirtual 38, 3) := by decide +kernel
theorem dX2_findFirst_58 : decode cX2_findFirst 58 = .ok (.ifCond .eq 5, 3) := by decide +kernel
theorem dX2_findFirst_61 : decode cX2_findFirst 61 = .ok (.iconst 1, 1) := by decide +kernel
theorem dX2_findFirst_62 : decode cX2_findFirst 62 = .ok (.ireturn, 1) := by decide +kernel
theorem dX2_findFirst_63 : decode cX2_findFirst 63 = .ok (.iinc 3 1, 3) := by decide +kernel
theorem dX2_findFirst_66 : decode cX2_findFirst 66 = .ok (.goto (-52), 3) := by decide +kernel
theorem dX2_findFirst_69 : decode cX2_findFirst 69 = .ok (.iconst 0, 1) := by decide +kernel
theorem dX2_findFirst_70 : decode cX2_findFirst 70 = .ok (.ireturn, 1) := by decide +kernel
theorem dX2_countSafe_0 : decode cX2_countSafe 0 = .ok (.iload_n 1, 1) := by decide +kernel
theorem dX2_countSafe_1 : decode cX2_countSafe 1 = .ok (.ifCond .eq 9, 3) := by decide +kernel
theorem dX2_countSafe_4 : decode cX2_countSafe 4 = .ok (.iload_n 2, 1) := by decide +kernel
theorem dX2_countSafe_5 : decode cX2_countSafe 5 = .ok (.bipush 6, 2) := by decide +kernel
theorem dX2_countSafe_7 : decode cX2_countSafe 7 = .ok (.if_icmp .lt 5, 3) := by decide +kernel
theorem dX2_countSafe_10 : decode cX2_countSafe 10 = .ok (.iconst 1, 1) := by decide +kernel
theorem dX2_countSafe_11 : decode cX2_countSafe 11 = .ok (.ireturn, 1) := by decide +kernel
theorem dX2_countSafe_12 : decode cX2_countSafe 12 = .ok (.iconst 0, 1) := by decide +kernel
theorem dX2_countSafe_13 : decode cX2_countSafe 13 = .ok (.istore_n 3, 1) := by decide +kernel
theorem dX2_countSafe_14 : decode cX2_countSafe 14 = .ok (.iconst 0, 1) := by decide +kernel
theorem dX2_countSafe_15 : decode cX2_countSafe 15 = .ok (.istore 4, 2) := by decide +kernel
theorem dX2_countSafe_17 : decode cX2_countSafe 17 = .ok (.iload 4, 2) := by decide +kernel
theorem dX2_countSafe_19 : decode cX2_countSafe 19 = .ok (.bipush 6, 2) := by decide +kernel
theorem dX2_countSafe_21 : decode cX2_countSafe 21 = .ok (.if_icmp .ge 46, 3) := by decide +kernel
theorem dX2_countSafe_24 : decode cX2_countSafe 24 = .ok (.iload_n 1, 1) := by decide +kernel
theorem dX2_countSafe_25 : decode cX2_countSafe 25 = .ok (.iload 4, 2) := by decide +kernel
theorem dX2_countSafe_27 : decode cX2_countSafe 27 = .ok (.invokestatic 72, 3) := by decide +kernel
theorem dX2_countSafe_30 : decode cX2_countSafe 30 = .ok (.ifCond .eq 31, 3) := by decide +kernel
theorem dX2_countSafe_33 : decode cX2_countSafe 33 = .ok (.aload_n 0, 1) := by decide +kernel
theorem dX2_countSafe_34 : decode cX2_countSafe 34 = .ok (.iload 4, 2) := by decide +kernel
theorem dX2_countSafe_36 : decode cX2_countSafe 36 = .ok (.iload_n 2, 1) := by decide +kernel
theorem dX2_countSafe_37 : decode cX2_countSafe 37 = .ok (.invokevirtual 75, 3) := by decide +kernel
theorem dX2_countSafe_40 : decode cX2_countSafe 40 = .ok (.ifCond .eq 21, 3) := by decide +kernel
theorem dX2_countSafe_43 : decode cX2_countSafe 43 = .ok (.iload_n 3, 1) := by decide +kernel
theorem dX2_countSafe_44 : decode cX2_countSafe 44 = .ok (.aload_n 0, 1) := by decide +kernel
theorem dX2_countSafe_45 : decode cX2_countSafe 45 = .ok (.iload_n 1, 1) := by decide +kernel
theorem dX2_countSafe_46 : decode cX2_countSafe 46 = .ok (.iconst 1, 1) := by decide +kernel
theorem dX2_countSafe_47 : decode cX2_countSafe 47 = .ok (.iload 4, 2) := by decide +kernel
theorem dX2_countSafe_49 : decode cX2_countSafe 49 = .ok (.ishl, 1) := by decide +kernel
theorem dX2_countSafe_50 : decode cX2_countSafe 50 = .ok (.iconst (-1), 1) := by decide +kernel
theorem dX2_countSafe_51 : decode cX2_countSafe 51 = .ok (.ixor, 1) := by decide +kernel
theorem dX2_countSafe_52 : decode cX2_countSafe 52 = .ok (.iand, 1) := by decide +kernel
theorem dX2_countSafe_53 : decode cX2_countSafe 53 = .ok (.iload_n 2, 1) := by decide +kernel
theorem dX2_countSafe_54 : decode cX2_countSafe 54 = .ok (.iconst 1, 1) := by decide +kernel
theorem dX2_countSafe_55 : decode cX2_countSafe 55 = .ok (.iadd, 1) := by decide +kernel
theorem dX2_countSafe_56 : decode cX2_countSafe 56 = .ok (.invokevirtual 42, 3) := by decide +kernel
theorem dX2_countSafe_59 : decode cX2_countSafe 59 = .ok (.iadd, 1) := by decide +kernel
theorem dX2_countSafe_60 : decode cX2_countSafe 60 = .ok (.istore_n 3, 1) := by decide +kernel
theorem dX2_countSafe_61 : decode cX2_countSafe 61 = .ok (.iinc 4 1, 3) := by decide +kernel
theorem dX2_countSafe_64 : decode cX2_countSafe 64 = .ok (.goto (-47), 3) := by decide +kernel
theorem dX2_countSafe_67 : decode cX2_countSafe 67 = .ok (.iload_n 3, 1) := by decide +kernel
theorem dX2_countSafe_68 : decode cX2_countSafe 68 = .ok (.ireturn, 1) := by decide +kernel
theorem dX2_fewestFalls_0 : decode cX2_fewestFalls 0 = .ok (.iload_n 1, 1) := by decide +kernel
theorem dX2_fewestFalls_1 : decode cX2_fewestFalls 1 = .ok (.ifCond .eq 9, 3) := by decide +kernel
theorem dX2_fewestFalls_4 : decode cX2_fewestFalls 4 = .ok (.iload_n 2, 1) := by decide +kernel
theorem dX2_fewestFalls_5 : decode cX2_fewestFalls 5 = .ok (.bipush 6, 2) := by decide +kernel
theorem dX2_fewestFalls_7 : decode cX2_fewestFalls 7 = .ok (.if_icmp .lt 5, 3) := by decide +kernel
theorem dX2_fewestFalls_10 : decode cX2_fewestFalls 10 = .ok (.iconst 0, 1) := by decide +kernel
theorem dX2_fewestFalls_11 : decode cX2_fewestFalls 11 = .ok (.ireturn, 1) := by decide +kernel
theorem dX2_fewestFalls_12 : decode cX2_fewestFalls 12 = .ok (.bipush 6, 2) := by decide +kernel
theorem dX2_fewestFalls_14 : decode cX2_fewestFalls 14 = .ok (.istore_n 3, 1) := by decide +kernel
theorem dX2_fewestFalls_15 : decode cX2_fewestFalls 15 = .ok (.iconst 0, 1) := by decide +kernel
theorem dX2_fewestFalls_16 : decode cX2_fewestFalls 16 = .ok (.istore 4, 2) := by decide +kernel
theorem dX2_fewestFalls_18 : decode cX2_fewestFalls 18 = .ok (.iload 4, 2) := by decide +kernel
theorem dX2_fewestFalls_20 : decode cX2_fewestFalls 20 = .ok (.bipush 6, 2) := by decide +kernel
theorem dX2_fewestFalls_22 : decode cX2_fewestFalls 22 = .ok (.if_icmp .ge 62, 3) := by decide +kernel
theorem dX2_fewestFalls_25 : decode cX2_fewestFalls 25 = .ok (.iload_n 3, 1) := by decide +kernel
theorem dX2_fewestFalls_26 : decode cX2_fewestFalls 26 = .ok (.ifCond .le 58, 3) := by decide +kernel
theorem dX2_fewestFalls_29 : decode cX2_fewestFalls 29 = .ok (.iload_n 1, 1) := by decide +kernel
theorem dX2_fewestFalls_30 : decode cX2_fewestFalls 30 = .ok (.iload 4, 2) := by decide +kernel
theorem dX2_fewestFalls_32 : decode cX2_fewestFalls 32 = .ok (.invokestatic 72, 3) := by decide +kernel
theorem dX2_fewestFalls_35 : decode cX2_fewestFalls 35 = .ok (.ifCond .eq 43, 3) := by decide +kernel
theorem dX2_fewestFalls_38 : decode cX2_fewestFalls 38 = .ok (.aload_n 0, 1) := by decide +kernel
theorem dX2_fewestFalls_39 : decode cX2_fewestFalls 39 = .ok (.iload 4, 2) := by decide +kernel
theorem dX2_fewestFalls_41 : decode cX2_fewestFalls 41 = .ok (.iload_n 2, 1) := by decide +kernel
theorem dX2_fewestFalls_42 : decode cX2_fewestFalls 42 = .ok (.invokevirtual 75, 3) := by decide +kernel
theorem dX2_fewestFalls_45 : decode cX2_fewestFalls 45 = .ok (.ifCond .eq 7, 3) := by decide +kernel
theorem dX2_fewestFalls_48 : decode cX2_fewestFalls 48 = .ok (.iconst 0, 1) := by decide +kernel
theorem dX2_fewestFalls_49 : decode cX2_fewestFalls 49 = .ok (.goto 4, 3) := by decide +kernel
theorem dX2_fewestFalls_52 : decode cX2_fewestFalls 52 = .ok (.iconst 1, 1) := by decide +kernel
theorem dX2_fewestFalls_53 : decode cX2_fewestFalls 53 = .ok (.istore 5, 2) := by decide +kernel
theorem dX2_fewestFalls_55 : decode cX2_fewestFalls 55 = .ok (.iload_n 3, 1) := by decide +kernel
theorem dX2_fewestFalls_56 : decode cX2_fewestFalls 56 = .ok (.iload 5, 2) := by decide +kernel
theorem dX2_fewestFalls_58 : decode cX2_fewestFalls 58 = .ok (.aload_n 0, 1) := by decide +kernel
theorem dX2_fewestFalls_59 : decode cX2_fewestFalls 59 = .ok (.iload_n 1, 1) := by decide +kernel
theorem dX2_fewestFalls_60 : decode cX2_fewestFalls 60 = .ok (.iconst 1, 1) := by decide +kernel
theorem dX2_fewestFalls_61 : decode cX2_fewestFalls 61 = .ok (.iload 4, 2) := by decide +kernel
theorem dX2_fewestFalls_63 : decode cX2_fewestFalls 63 = .ok (.ishl, 1) := by decide +kernel
theorem dX2_fewestFalls_64 : decode cX2_fewestFalls 64 = .ok (.iconst (-1), 1) := by decide +kernel
theorem dX2_fewestFalls_65 : decode cX2_fewestFalls 65 = .ok (.ixor, 1) := by decide +kernel
theorem dX2_fewestFalls_66 : decode cX2_fewestFalls 66 = .ok (.iand, 1) := by decide +kernel
theorem dX2_fewestFalls_67 : decode cX2_fewestFalls 67 = .ok (.iload_n 2, 1) := by decide +kernel
theorem dX2_fewestFalls_68 : decode cX2_fewestFalls 68 = .ok (.iconst 1, 1) := by decide +kernel
theorem dX2_fewestFalls_69 : decode cX2_fewestFalls 69 = .ok (.iadd, 1) := by decide +kernel
theorem dX2_fewestFalls_70 : decode cX2_fewestFalls 70 = .ok (.invokevirtual 46, 3) := by decide +kernel
theorem dX2_fewestFalls_73 : decode cX2_fewestFalls 73 = .ok (.iadd, 1) := by decide +kernel
theorem dX2_fewestFalls_74 : decode cX2_fewestFalls 74 = .ok (.invokestatic 78, 3) := by decide +kernel
theorem dX2_fewestFalls_77 : decode cX2_fewestFalls 77 = .ok (.istore_n 3, 1) := by decide +kernel
theorem dX2_fewestFalls_78 : decode cX2_fewestFalls 78 = .ok (.iinc 4 1, 3) := by decide +kernel
theorem dX2_fewestFalls_81 : decode cX2_fewestFalls 81 = .ok (.goto (-63), 3) := by decide +kernel
theorem dX2_fewestFalls_84 : decode cX2_fewestFalls 84 = .ok (.iload_n 3, 1) := by decide +kernel
theorem dX2_fewestFalls_85 : decode cX2_fewestFalls 85 = .ok (.ireturn, 1) := by decide +kernel
theorem dX2_greatest_0 : decode cX2_greatest 0 = .ok (.iload_n 1, 1) := by decide +kernel
theorem dX2_greatest_1 : decode cX2_greatest 1 = .ok (.iload_n 2, 1) := by decide +kernel
theorem dX2_greatest_2 : decode cX2_greatest 2 = .ok (.invokestatic 83, 3) := by decide +kernel
theorem dX2_greatest_5 : decode cX2_greatest 5 = .ok (.istore 4, 2) := by decide +kernel
theorem dX2_greatest_7 : decode cX2_greatest 7 = .ok (.iload_n 3, 1) := by decide +kernel
theorem dX2_greatest_8 : decode cX2_greatest 8 = .ok (.bipush 6, 2) := by decide +kernel
theorem dX2_greatest_10 : decode cX2_greatest 10 = .ok (.if_icmp .lt 6, 3) := by decide +kernel
theorem dX2_greatest_13 : decode cX2_greatest 13 = .ok (.iload 4, 2) := by decide +kernel
theorem dX2_greatest_15 : decode cX2_greatest 15 = .ok (.ireturn, 1) := by decide +kernel
theorem dX2_greatest_16 : decode cX2_greatest 16 = .ok (.iconst 1, 1) := by decide +kernel
theorem dX2_greatest_17 : decode cX2_greatest 17 = .ok (.aload_n 0, 1) := by decide +kernel
theorem dX2_greatest_18 : decode cX2_greatest 18 = .ok (.getfield 12, 3) := by decide +kernel
theorem dX2_greatest_21 : decode cX2_greatest 21 = .ok (.getfield 86, 3) := by decide +kernel
theorem dX2_greatest_24 : decode cX2_greatest 24 = .ok (.ishl, 1) := by decide +kernel
theorem dX2_greatest_25 : decode cX2_greatest 25 = .ok (.iconst 1, 1) := by decide +kernel
theorem dX2_greatest_26 : decode cX2_greatest 26 = .ok (.isub, 1) := by decide +kernel
theorem dX2_greatest_27 : decode cX2_greatest 27 = .ok (.istore 5, 2) := by decide +kernel
theorem dX2_greatest_29 : decode cX2_greatest 29 = .ok (.iconst 0, 1) := by decide +kernel
theorem dX2_greatest_30 : decode cX2_greatest 30 = .ok (.istore 6, 2) := by decide +kernel
theorem dX2_greatest_32 : decode cX2_greatest 32 = .ok (.iload 6, 2) := by decide +kernel
theorem dX2_greatest_34 : decode cX2_greatest 34 = .ok (.aload_n 0, 1) := by decide +kernel
theorem dX2_greatest_35 : decode cX2_greatest 35 = .ok (.getfield 12, 3) := by decide +kernel
theorem dX2_greatest_38 : decode cX2_greatest 38 = .ok (.getfield 86, 3) := by decide +kernel
theorem dX2_greatest_41 : decode cX2_greatest 41 = .ok (.if_icmp .ge 52, 3) := by decide +kernel
theorem dX2_greatest_44 : decode cX2_greatest 44 = .ok (.iload 4, 2) := by decide +kernel
theorem dX2_greatest_46 : decode cX2_greatest 46 = .ok (.iload 5, 2) := by decide +kernel
theorem dX2_greatest_48 : decode cX2_greatest 48 = .ok (.if_icmp .eq 45, 3) := by decide +kernel
theorem dX2_greatest_51 : decode cX2_greatest 51 = .ok (.iload_n 1, 1) := by decide +kernel
theorem dX2_greatest_52 : decode cX2_greatest 52 = .ok (.iload 6, 2) := by decide +kernel
theorem dX2_greatest_54 : decode cX2_greatest 54 = .ok (.invokestatic 72, 3) := by decide +kernel
theorem dX2_greatest_57 : decode cX2_greatest 57 = .ok (.ifCond .ne 30, 3) := by decide +kernel
theorem dX2_greatest_60 : decode cX2_greatest 60 = .ok (.aload_n 0, 1) := by decide +kernel
theorem dX2_greatest_61 : decode cX2_greatest 61 = .ok (.iload 6, 2) := by decide +kernel
theorem dX2_greatest_63 : decode cX2_greatest 63 = .ok (.iload_n 3, 1) := by decide +kernel
theorem dX2_greatest_64 : decode cX2_greatest 64 = .ok (.invokevirtual 75, 3) := by decide +kernel
theorem dX2_greatest_67 : decode cX2_greatest 67 = .ok (.ifCond .eq 20, 3) := by decide +kernel
theorem dX2_greatest_70 : decode cX2_greatest 70 = .ok (.aload_n 0, 1) := by decide +kernel
theorem dX2_greatest_71 : decode cX2_greatest 71 = .ok (.iload_n 1, 1) := by decide +kernel
theorem dX2_greatest_72 : decode cX2_greatest 72 = .ok (.iconst 1, 1) := by decide +kernel
theorem dX2_greatest_73 : decode cX2_greatest 73 = .ok (.iload 6, 2) := by decide +kernel
theorem dX2_greatest_75 : decode cX2_greatest 75 = .ok (.ishl, 1) := by decide +kernel
theorem dX2_greatest_76 : decode cX2_greatest 76 = .ok (.ior, 1) := by decide +kernel
theorem dX2_greatest_77 : decode cX2_greatest 77 = .ok (.iload 4, 2) := by decide +kernel
theorem dX2_greatest_79 : decode cX2_greatest 79 = .ok (.iload_n 3, 1) := by decide +kernel
theorem dX2_greatest_80 : decode cX2_greatest 80 = .ok (.iconst 1, 1) := by decide +kernel
theorem dX2_greatest_81 : decode cX2_greatest 81 = .ok (.iadd, 1) := by decide +kernel
theorem dX2_greatest_82 : decode cX2_greatest 82 = .ok (.invokevirtual 49, 3) := by decide +kernel
theorem dX2_greatest_85 : decode cX2_greatest 85 = .ok (.istore 4, 2) := by decide +kernel
theorem dX2_greatest_87 : decode cX2_greatest 87 = .ok (.iinc 6 1, 3) := by decide +kernel
theorem dX2_greatest_90 : decode cX2_greatest 90 = .ok (.goto (-58), 3) := by decide +kernel
theorem dX2_greatest_93 : decode cX2_greatest 93 = .ok (.iload 4, 2) := by decide +kernel
theorem dX2_greatest_95 : decode cX2_greatest 95 = .ok (.ireturn, 1) := by decide +kernel
theorem dX2_greater_0 : decode cX2_greater 0 = .ok (.iload_n 0, 1) := by decide +kernel
theorem dX2_greater_1 : decode cX2_greater 1 = .ok (.invokestatic 90, 3) := by decide +kernel
theorem dX2_greater_4 : decode cX2_greater 4 = .ok (.iload_n 1, 1) := by decide +kernel
theorem dX2_greater_5 : decode cX2_greater 5 = .ok (.invokestatic 90, 3) := by decide +kernel
theorem dX2_greater_8 : decode cX2_greater 8 = .ok (.isub, 1) := by decide +kernel
theorem dX2_greater_9 : decode cX2_greater 9 = .ok (.istore_n 2, 1) := by decide +kernel
theorem dX2_greater_10 : decode cX2_greater 10 = .ok (.iload_n 2, 1) := by decide +kernel
theorem dX2_greater_11 : decode cX2_greater 11 = .ok (.ifCond .gt 12, 3) := by decide +kernel
theorem dX2_greater_14 : decode cX2_greater 14 = .ok (.iload_n 2, 1) := by decide +kernel
theorem dX2_greater_15 : decode cX2_greater 15 = .ok (.ifCond .ne 12, 3) := by decide +kernel
theorem dX2_greater_18 : decode cX2_greater 18 = .ok (.iload_n 0, 1) := by decide +kernel
theorem dX2_greater_19 : decode cX2_greater 19 = .ok (.iload_n 1, 1) := by decide +kernel
theorem dX2_greater_20 : decode cX2_greater 20 = .ok (.if_icmp .ge 7, 3) := by decide +kernel
theorem dX2_greater_23 : decode cX2_greater 23 = .ok (.iload_n 0, 1) := by decide +kernel
theorem dX2_greater_24 : decode cX2_greater 24 = .ok (.goto 4, 3) := by decide +kernel
theorem dX2_greater_27 : decode cX2_greater 27 = .ok (.iload_n 1, 1) := by decide +kernel
theorem dX2_greater_28 : decode cX2_greater 28 = .ok (.ireturn, 1) := by decide +kernel
theorem dX3_init_0 : decode cX3_init 0 = .ok (.aload_n 0, 1) := by decide +kernel
theorem dX3_init_1 : decode cX3_init 1 = .ok (.invokespecial 3, 3) := by decide +kernel
theorem dX3_init_4 : decode cX3_init 4 = .ok (.aload_n 0, 1) := by decide +kernel
theorem dX3_init_5 : decode cX3_init 5 = .ok (.bipush 120, 2) := by decide +kernel
theorem dX3_init_7 : decode cX3_init 7 = .ok (.newarray .int, 2) := by decide +kernel
theorem dX3_init_9 : decode cX3_init 9 = .ok (.putfield 9, 3) := by decide +kernel
theorem dX3_init_12 : decode cX3_init 12 = .ok (.aload_n 0, 1) := by decide +kernel
theorem dX3_init_13 : decode cX3_init 13 = .ok (.iconst 0, 1) := by decide +kernel
theorem dX3_init_14 : decode cX3_init 14 = .ok (.putfield 15, 3) := by decide +kernel
theorem dX3_init_17 : decode cX3_init 17 = .ok (.aload_n 0, 1) := by decide +kernel
theorem dX3_init_18 : decode cX3_init 18 = .ok (.bipush 121, 2) := by decide +kernel
theorem dX3_init_20 : decode cX3_init 20 = .ok (.newarray .int, 2) := by decide +kernel
theorem dX3_init_22 : decode cX3_init 22 = .ok (.putfield 19, 3) := by decide +kernel
theorem dX3_init_25 : decode cX3_init 25 = .ok (.aload_n 0, 1) := by decide +kernel
theorem dX3_init_26 : decode cX3_init 26 = .ok (.bipush 121, 2) := by decide +kernel
theorem dX3_init_28 : decode cX3_init 28 = .ok (.newarray .int, 2) := by decide +kernel
theorem dX3_init_30 : decode cX3_init 30 = .ok (.putfield 22, 3) := by decide +kernel
theorem dX3_init_33 : decode cX3_init 33 = .ok (.aload_n 0, 1) := by decide +kernel
theorem dX3_init_34 : decode cX3_init 34 = .ok (.bipush 121, 2) := by decide +kernel
theorem dX3_init_36 : decode cX3_init 36 = .ok (.newarray .int, 2) := by decide +kernel
theorem dX3_init_38 : decode cX3_init 38 = .ok (.putfield 25, 3) := by decide +kernel
theorem dX3_init_41 : decode cX3_init 41 = .ok (.aload_n 0, 1) := by decide +kernel
theorem dX3_init_42 : decode cX3_init 42 = .ok (.bipush 121, 2) := by decide +kernel
theorem dX3_init_44 : decode cX3_init 44 = .ok (.newarray .int, 2) := by decide +kernel
theorem dX3_init_46 : decode cX3_init 46 = .ok (.putfield 28, 3) := by decide +kernel
theorem dX3_init_49 : decode cX3_init 49 = .ok (.aload_n 0, 1) := by decide +kernel
theorem dX3_init_50 : decode cX3_init 50 = .ok (.iconst 0, 1) := by decide +kernel
theorem dX3_init_51 : decode cX3_init 51 = .ok (.putfield 31, 3) := by decide +kernel
theorem dX3_init_54 : decode cX3_init 54 = .ok (.aload_n 0, 1) := by decide +kernel
theorem dX3_init_55 : decode cX3_init 55 = .ok (.iconst 0, 1) := by decide +kernel
theorem dX3_init_56 : decode cX3_init 56 = .ok (.putfield 34, 3) := by decide +kernel
theorem dX3_init_59 : decode cX3_init 59 = .ok (.aload_n 0, 1) := by decide +kernel
theorem dX3_init_60 : decode cX3_init 60 = .ok (.iconst 5, 1) := by decide +kernel
theorem dX3_init_61 : decode cX3_init 61 = .ok (.putfield 37, 3) := by decide +kernel
theorem dX3_init_64 : decode cX3_init 64 = .ok (.aload_n 0, 1) := by decide +kernel
theorem dX3_init_65 : decode cX3_init 65 = .ok (.iconst 0, 1) := by decide +kernel
theorem dX3_init_66 : decode cX3_init 66 = .ok (.putfield 40, 3) := by decide +kernel
theorem dX3_init_69 : decode cX3_init 69 = .ok (.return_, 1) := by decide +kernel
theorem dX3_put_0 : decode cX3_put 0 = .ok (.aload_n 0, 1) := by decide +kernel
theorem dX3_put_1 : decode cX3_put 1 = .ok (.getfield 15, 3) := by decide +kernel
theorem dX3_put_4 : decode cX3_put 4 = .ok (.ifCond .lt 32, 3) := by decide +kernel
theorem dX3_put_7 : decode cX3_put 7 = .ok (.aload_n 0, 1) := by decide +kernel
theorem dX3_put_8 : decode cX3_put 8 = .ok (.getfield 15, 3) := by decide +kernel
theorem dX3_put_11 : decode cX3_put 11 = .ok (.bipush 120, 2) := by decide +kernel
theorem dX3_put_13 : decode cX3_put 13 = .ok (.if_icmp .ge 23, 3) := by decide +kernel
theorem dX3_put_16 : decode cX3_put 16 = .ok (.aload_n 0, 1) := by decide +kernel
theorem dX3_put_17 : decode cX3_put 17 = .ok (.getfield 9, 3) := by decide +kernel
theorem dX3_put_20 : decode cX3_put 20 = .ok (.aload_n 0, 1) := by decide +kernel
theorem dX3_put_21 : decode cX3_put 21 = .ok (.getfield 15, 3) := by decide +kernel
theorem dX3_put_24 : decode cX3_put 24 = .ok (.iload_n 1, 1) := by decide +kernel
theorem dX3_put_25 : decode cX3_put 25 = .ok (.iastore, 1) := by decide +kernel
theorem dX3_put_26 : decode cX3_put 26 = .ok (.aload_n 0, 1) := by decide +kernel
theorem dX3_put_27 : decode cX3_put 27 = .ok (.dup, 1) := by decide +kernel
theorem dX3_put_28 : decode cX3_put 28 = .ok (.getfield 15, 3) := by decide +kernel
theorem dX3_put_31 : decode cX3_put 31 = .ok (.iconst 1, 1) := by decide +kernel
theorem dX3_put_32 : decode cX3_put 32 = .ok (.iadd, 1) := by decide +kernel
theorem dX3_put_33 : decode cX3_put 33 = .ok (.putfield 15, 3) := by decide +kernel
theorem dX3_put_36 : decode cX3_put 36 = .ok (.return_, 1) := by decide +kernel
theorem dX3_read_0 : decode cX3_read 0 = .ok (.aload_n 0, 1) := by decide +kernel
theorem dX3_read_1 : decode cX3_read 1 = .ok (.invokevirtual 43, 3) := by decide +kernel
theorem dX3_read_4 : decode cX3_read 4 = .ok (.aload_n 0, 1) := by decide +kernel
theorem dX3_read_5 : decode cX3_read 5 = .ok (.invokevirtual 46, 3) := by decide +kernel
theorem dX3_read_8 : decode cX3_read 8 = .ok (.aload_n 0, 1) := by decide +kernel
theorem dX3_read_9 : decode cX3_read 9 = .ok (.iconst 0, 1) := by decide +kernel
theorem dX3_read_10 : decode cX3_read 10 = .ok (.invokevirtual 49, 3) := by decide +kernel
theorem dX3_read_13 : decode cX3_read 13 = .ok (.iconst 1, 1) := by decide +kernel
theorem dX3_read_14 : decode cX3_read 14 = .ok (.istore_n 2, 1) := by decide +kernel
theorem dX3_read_15 : decode cX3_read 15 = .ok (.iload_n 2, 1) := by decide +kernel
theorem dX3_read_16 : decode cX3_read 16 = .ok (.bipush 121, 2) := by decide +kernel
theorem dX3_read_18 : decode cX3_read 18 = .ok (.if_icmp .ge 59, 3) := by decide +kernel
theorem dX3_read_21 : decode cX3_read 21 = .ok (.aload_n 0, 1) := by decide +kernel
theorem dX3_read_22 : decode cX3_read 22 = .ok (.aload_n 1, 1) := by decide +kernel
theorem dX3_read_23 : decode cX3_read 23 = .ok (.invokevirtual 53, 3) := by decide +kernel
theorem dX3_read_26 : decode cX3_read 26 = .ok (.ifCond .ne 10, 3) := by decide +kernel
theorem dX3_read_29 : decode cX3_read 29 = .ok (.iconst (-1), 1) := by decide +kernel
theorem dX3_read_30 : decode cX3_read 30 = .ok (.aload_n 0, 1) := by decide +kernel
theorem dX3_read_31 : decode cX3_read 31 = .ok (.invokevirtual 57, 3) := by decide +kernel
theorem dX3_read_34 : decode cX3_read 34 = .ok (.isub, 1) := by decide +kernel
theorem dX3_read_35 : decode cX3_read 35 = .ok (.ireturn, 1) := by decide +kernel
theorem dX3_read_36 : decode cX3_read 36 = .ok (.aload_n 0, 1) := by decide +kernel
theorem dX3_read_37 : decode cX3_read 37 = .ok (.getfield 37, 3) := by decide +kernel
theorem dX3_read_40 : decode cX3_read 40 = .ok (.iconst 5, 1) := by decide +kernel
theorem dX3_read_41 : decode cX3_read 41 = .ok (.if_icmp .ne 5, 3) := by decide +kernel
theorem dX3_read_44 : decode cX3_read 44 = .ok (.iload_n 2, 1) := by decide +kernel
theorem dX3_read_45 : decode cX3_read 45 = .ok (.ireturn, 1) := by decide +kernel
theorem dX3_read_46 : decode cX3_read 46 = .ok (.aload_n 0, 1) := by decide +kernel
theorem dX3_read_47 : decode cX3_read 47 = .ok (.getfield 37, 3) := by decide +kernel
theorem dX3_read_50 : decode cX3_read 50 = .ok (.iconst 3, 1) := by decide +kernel
theorem dX3_read_51 : decode cX3_read 51 = .ok (.if_icmp .eq 10, 3) := by decide +kernel
theorem dX3_read_54 : decode cX3_read 54 = .ok (.iconst (-1), 1) := by decide +kernel
theorem dX3_read_55 : decode cX3_read 55 = .ok (.aload_n 0, 1) := by decide +kernel
theorem dX3_read_56 : decode cX3_read 56 = .ok (.invokevirtual 57, 3) := by decide +kernel
theorem dX3_read_59 : decode cX3_read 59 = .ok (.isub, 1) := by decide +kernel
theorem dX3_read_60 : decode cX3_read 60 = .ok (.ireturn, 1) := by decide +kernel
theorem dX3_read_61 : decode cX3_read 61 = .ok (.aload_n 0, 1) := by decide +kernel
theorem dX3_read_62 : decode cX3_read 62 = .ok (.aload_n 0, 1) := by decide +kernel
theorem dX3_read_63 : decode cX3_read 63 = .ok (.getfield 34, 3) := by decide +kernel
theorem dX3_read_66 : decode cX3_read 66 = .ok (.iconst 1, 1) := by decide +kernel
theorem dX3_read_67 : decode cX3_read 67 = .ok (.iadd, 1) := by decide +kernel
theorem dX3_read_68 : decode cX3_read 68 = .ok (.invokevirtual 49, 3) := by decide +kernel
theorem dX3_read_71 : decode cX3_read 71 = .ok (.iinc 2 1, 3) := by decide +kernel
theorem dX3_read_74 : decode cX3_read 74 = .ok (.goto (-59), 3) := by decide +kernel
theorem dX3_read_77 : decode cX3_read 77 = .ok (.iconst (-1), 1) := by decide +kernel
theorem dX3_read_78 : decode cX3_read 78 = .ok (.aload_n 0, 1) := by decide +kernel
theorem dX3_read_79 : decode cX3_read 79 = .ok (.invokevirtual 57, 3) := by decide +kernel
theorem dX3_read_82 : decode cX3_read 82 = .ok (.isub, 1) := by decide +kernel
theorem dX3_read_83 : decode cX3_read 83 = .ok (.ireturn, 1) := by decide +kernel
theorem dX3_place_0 : decode cX3_place 0 = .ok (.aload_n 0, 1) := by decide +kernel
theorem dX3_place_1 : decode cX3_place 1 = .ok (.getfield 34, 3) := by decide +kernel
theorem dX3_place_4 : decode cX3_place 4 = .ok (.ifCond .lt 26, 3) := by decide +kernel
theorem dX3_place_7 : decode cX3_place 7 = .ok (.aload_n 0, 1) := by decide +kernel
theorem dX3_place_8 : decode cX3_place 8 = .ok (.getfield 34, 3) := by decide +kernel
theorem dX3_place_11 : decode cX3_place 11 = .ok (.aload_n 0, 1) := by decide +kernel
theorem dX3_place_12 : decode cX3_place 12 = .ok (.getfield 31, 3) := by decide +kernel
theorem dX3_place_15 : decode cX3_place 15 = .ok (.if_icmp .ge 15, 3) := by decide +kernel
theorem dX3_place_18 : decode cX3_place 18 = .ok (.aload_n 0, 1) := by decide +kernel
theorem dX3_place_19 : decode cX3_place 19 = .ok (.getfield 22, 3) := by decide +kernel
theorem dX3_place_22 : decode cX3_place 22 = .ok (.aload_n 0, 1) := by decide +kernel
theorem dX3_place_23 : decode cX3_place 23 = .ok (.getfield 34, 3) := by decide +kernel
theorem dX3_place_26 : decode cX3_place 26 = .ok (.iaload, 1) := by decide +kernel
theorem dX3_place_27 : decode cX3_place 27 = .ok (.goto 7, 3) := by decide +kernel
theorem dX3_place_30 : decode cX3_place 30 = .ok (.aload_n 0, 1) := by decide +kernel
theorem dX3_place_31 : decode cX3_place 31 = .ok (.getfield 15, 3) := by decide +kernel
theorem dX3_place_34 : decode cX3_place 34 = .ok (.ireturn, 1) := by decide +kernel
theorem dX3_look_0 : decode cX3_look 0 = .ok (.aload_n 0, 1) := by decide +kernel
theorem dX3_look_1 : decode cX3_look 1 = .ok (.iload_n 1, 1) := by decide +kernel
theorem dX3_look_2 : decode cX3_look 2 = .ok (.putfield 34, 3) := by decide +kernel
theorem dX3_look_5 : decode cX3_look 5 = .ok (.iload_n 1, 1) := by decide +kernel
theorem dX3_look_6 : decode cX3_look 6 = .ok (.ifCond .lt 21, 3) := by decide +kernel
theorem dX3_look_9 : decode cX3_look 9 = .ok (.iload_n 1, 1) := by decide +kernel
theorem dX3_look_10 : decode cX3_look 10 = .ok (.aload_n 0, 1) := by decide +kernel
theorem dX3_look_11 : decode cX3_look 11 = .ok (.getfield 31, 3) := by decide +kernel
theorem dX3_look_14 : decode cX3_look 14 = .ok (.if_icmp .ge 13, 3) := by decide +kernel
theorem dX3_look_17 : decode cX3_look 17 = .ok (.iload_n 1, 1) := by decide +kernel
theorem dX3_look_18 : decode cX3_look 18 = .ok (.bipush 121, 2) := by decide +kernel
theorem dX3_look_20 : decode cX3_look 20 = .ok (.if_icmp .ge 7, 3) := by decide +kernel
theorem dX3_look_23 : decode cX3_look 23 = .ok (.iconst 1, 1) := by decide +kernel
theorem dX3_look_24 : decode cX3_look 24 = .ok (.goto 4, 3) := by decide +kernel
theorem dX3_look_27 : decode cX3_look 27 = .ok (.iconst 0, 1) := by decide +kernel
theorem dX3_look_28 : decode cX3_look 28 = .ok (.istore_n 2, 1) := by decide +kernel
theorem dX3_look_29 : decode cX3_look 29 = .ok (.aload_n 0, 1) := by decide +kernel
theorem dX3_look_30 : decode cX3_look 30 = .ok (.iload_n 2, 1) := by decide +kernel
theorem dX3_look_31 : decode cX3_look 31 = .ok (.ifCond .eq 12, 3) := by decide +kernel
theorem dX3_look_34 : decode cX3_look 34 = .ok (.aload_n 0, 1) := by decide +kernel
theorem dX3_look_35 : decode cX3_look 35 = .ok (.getfield 19, 3) := by decide +kernel
theorem dX3_look_38 : decode cX3_look 38 = .ok (.iload_n 1, 1) := by decide +kernel
theorem dX3_look_39 : decode cX3_look 39 = .ok (.iaload, 1) := by decide +kernel
theorem dX3_look_40 : decode cX3_look 40 = .ok (.goto 4, 3) := by decide +kernel
theorem dX3_look_43 : decode cX3_look 43 = .ok (.iconst 5, 1) := by decide +kernel
theorem dX3_look_44 : decode cX3_look 44 = .ok (.putfield 37, 3) := by decide +kernel
theorem dX3_look_47 : decode cX3_look 47 = .ok (.aload_n 0, 1) := by decide +kernel
theorem dX3_look_48 : decode cX3_look 48 = .ok (.iload_n 2, 1) := by decide +kernel
theorem dX3_look_49 : decode cX3_look 49 = .ok (.ifCond .eq 12, 3) := by decide +kernel
theorem dX3_look_52 : decode cX3_look 52 = .ok (.aload_n 0, 1) := by decide +kernel
theorem dX3_look_53 : decode cX3_look 53 = .ok (.getfield 28, 3) := by decide +kernel
theorem dX3_look_56 : decode cX3_look 56 = .ok (.iload_n 1, 1) := by decide +kernel
theorem dX3_look_57 : decode cX3_look 57 = .ok (.iaload, 1) := by decide +kernel
theorem dX3_look_58 : decode cX3_look 58 = .ok (.goto 4, 3) := by decide +kernel
theorem dX3_look_61 : decode cX3_look 61 = .ok (.iconst 0, 1) := by decide +kernel
theorem dX3_look_62 : decode cX3_look 62 = .ok (.putfield 40, 3) := by decide +kernel
theorem dX3_look_65 : decode cX3_look 65 = .ok (.return_, 1) := by decide +kernel
theorem dX3_readItem_0 : decode cX3_readItem 0 = .ok (.aload_n 0, 1) := by decide +kernel
theorem dX3_readItem_1 : decode cX3_readItem 1 = .ok (.getfield 37, 3) := by decide +kernel
theorem dX3_readItem_4 : decode cX3_readItem 4 = .ok (.iconst 1, 1) := by decide +kernel
theorem dX3_readItem_5 : decode cX3_readItem 5 = .ok (.if_icmp .eq 5, 3) := by decide +kernel
theorem dX3_readItem_8 : decode cX3_readItem 8 = .ok (.iconst 0, 1) := by decide +kernel
theorem dX3_readItem_9 : decode cX3_readItem 9 = .ok (.ireturn, 1) := by decide +kernel
theorem dX3_readItem_10 : decode cX3_readItem 10 = .ok (.aload_n 0, 1) := by decide +kernel
theorem dX3_readItem_11 : decode cX3_readItem 11 = .ok (.getfield 40, 3) := by decide +kernel
theorem dX3_readItem_14 : decode cX3_readItem 14 = .ok (.tableswitch 76 7 10 #[30, 36, 42, 59], 30) := by decide +kernel
theorem dX3_readItem_44 : decode cX3_readItem 44 = .ok (.aload_n 0, 1) := by decide +kernel
theorem dX3_readItem_45 : decode cX3_readItem 45 = .ok (.aload_n 1, 1) := by decide +kernel
theorem dX3_readItem_46 : decode cX3_readItem 46 = .ok (.invokevirtual 61, 3) := by decide +kernel
theorem dX3_readItem_49 : decode cX3_readItem 49 = .ok (.ireturn, 1) := by decide +kernel
theorem dX3_readItem_50 : decode cX3_readItem 50 = .ok (.aload_n 0, 1) := by decide +kernel
theorem dX3_readItem_51 : decode cX3_readItem 51 = .ok (.aload_n 1, 1) := by decide +kernel
theorem dX3_readItem_52 : decode cX3_readItem 52 = .ok (.invokevirtual 64, 3) := by decide +kernel
theorem dX3_readItem_55 : decode cX3_readItem 55 = .ok (.ireturn, 1) := by decide +kernel
theorem dX3_readItem_56 : decode cX3_readItem 56 = .ok (.aload_n 1, 1) := by decide +kernel
theorem dX3_readItem_57 : decode cX3_readItem 57 = .ok (.iconst 1, 1) := by decide +kernel
theorem dX3_readItem_58 : decode cX3_readItem 58 = .ok (.putfield 67, 3) := by decide +kernel
theorem dX3_readItem_61 : decode cX3_readItem 61 = .ok (.aload_n 0, 1) := by decide +kernel
theorem dX3_readItem_62 : decode cX3_readItem 62 = .ok (.aload_n 0, 1) := by decide +kernel
theorem dX3_readItem_63 : decode cX3_readItem 63 = .ok (.getfield 34, 3) := by decide +kernel
theorem dX3_readItem_66 : decode cX3_readItem 66 = .ok (.iconst 1, 1) := by decide +kernel
theorem dX3_readItem_67 : decode cX3_readItem 67 = .ok (.iadd, 1) := by decide +kernel
theorem dX3_readItem_68 : decode cX3_readItem 68 = .ok (.invokevirtual 49, 3) := by decide +kernel
theorem dX3_readItem_71 : decode cX3_readItem 71 = .ok (.iconst 1, 1) := by decide +kernel
theorem dX3_readItem_72 : decode cX3_readItem 72 = .ok (.ireturn, 1) := by decide +kernel
theorem dX3_readItem_73 : decode cX3_readItem 73 = .ok (.aload_n 1, 1) := by decide +kernel
theorem dX3_readItem_74 : decode cX3_readItem 74 = .ok (.iconst 0, 1) := by decide +kernel
theorem dX3_readItem_75 : decode cX3_readItem 75 = .ok (.putfield 67, 3) := by decide +kernel
theorem dX3_readItem_78 : decode cX3_readItem 78 = .ok (.aload_n 0, 1) := by decide +kernel
theorem dX3_readItem_79 : decode cX3_readItem 79 = .ok (.aload_n 0, 1) := by decide +kernel
theorem dX3_readItem_80 : decode cX3_readItem 80 = .ok (.getfield 34, 3) := by decide +kernel
theorem dX3_readItem_83 : decode cX3_readItem 83 = .ok (.iconst 1, 1) := by decide +kernel
theorem dX3_readItem_84 : decode cX3_readItem 84 = .ok (.iadd, 1) := by decide +kernel
theorem dX3_readItem_85 : decode cX3_readItem 85 = .ok (.invokevirtual 49, 3) := by decide +kernel
theorem dX3_readItem_88 : decode cX3_readItem 88 = .ok (.iconst 1, 1) := by decide +kernel
theorem dX3_readItem_89 : decode cX3_readItem 89 = .ok (.ireturn, 1) := by decide +kernel
theorem dX3_readItem_90 : decode cX3_readItem 90 = .ok (.aload_n 0, 1) := by decide +kernel
theorem dX3_readItem_91 : decode cX3_readItem 91 = .ok (.aload_n 1, 1) := by decide +kernel
theorem dX3_readItem_92 : decode cX3_readItem 92 = .ok (.invokevirtual 72, 3) := by decide +kernel
theorem dX3_readItem_95 : decode cX3_readItem 95 = .ok (.ireturn, 1) := by decide +kernel
theorem dX3_readWalker_0 : decode cX3_readWalker 0 = .ok (.aload_n 0, 1) := by decide +kernel
theorem dX3_readWalker_1 : decode cX3_readWalker 1 = .ok (.getfield 40, 3) := by decide +kernel
theorem dX3_readWalker_4 : decode cX3_readWalker 4 = .ok (.invokestatic 75, 3) := by decide +kernel
theorem dX3_readWalker_7 : decode cX3_readWalker 7 = .ok (.ifCond .eq 10, 3) := by decide +kernel
theorem dX3_readWalker_10 : decode cX3_readWalker 10 = .ok (.aload_n 1, 1) := by decide +kernel
theorem dX3_readWalker_11 : decode cX3_readWalker 11 = .ok (.invokevirtual 79, 3) := by decide +kernel
theorem dX3_readWalker_14 : decode cX3_readWalker 14 = .ok (.ifCond .eq 5, 3) := by decide +kernel
theorem dX3_readWalker_17 : decode cX3_readWalker 17 = .ok (.iconst 0, 1) := by decide +kernel
theorem dX3_readWalker_18 : decode cX3_readWalker 18 = .ok (.ireturn, 1) := by decide +kernel
theorem dX3_readWalker_19 : decode cX3_readWalker 19 = .ok (.aload_n 0, 1) := by decide +kernel
theorem dX3_readWalker_20 : decode cX3_readWalker 20 = .ok (.getfield 40, 3) := by decide +kernel
theorem dX3_readWalker_23 : decode cX3_readWalker 23 = .ok (.istore_n 2, 1) := by decide +kernel
theorem dX3_readWalker_24 : decode cX3_readWalker 24 = .ok (.bipush 50, 2) := by decide +kernel
theorem dX3_readWalker_26 : decode cX3_readWalker 26 = .ok (.istore_n 3, 1) := by decide +kernel
theorem dX3_readWalker_27 : decode cX3_readWalker 27 = .ok (.bipush 30, 2) := by decide +kernel
theorem dX3_readWalker_29 : decode cX3_readWalker 29 = .ok (.istore 4, 2) := by decide +kernel
theorem dX3_readWalker_31 : decode cX3_readWalker 31 = .ok (.aload_n 0, 1) := by decide +kernel
theorem dX3_readWalker_32 : decode cX3_readWalker 32 = .ok (.aload_n 0, 1) := by decide +kernel
theorem dX3_readWalker_33 : decode cX3_readWalker 33 = .ok (.getfield 34, 3) := by decide +kernel
theorem dX3_readWalker_36 : decode cX3_readWalker 36 = .ok (.iconst 1, 1) := by decide +kernel
theorem dX3_readWalker_37 : decode cX3_readWalker 37 = .ok (.iadd, 1) := by decide +kernel
theorem dX3_readWalker_38 : decode cX3_readWalker 38 = .ok (.invokevirtual 49, 3) := by decide +kernel
theorem dX3_readWalker_41 : decode cX3_readWalker 41 = .ok (.aload_n 0, 1) := by decide +kernel
theorem dX3_readWalker_42 : decode cX3_readWalker 42 = .ok (.bipush 11, 2) := by decide +kernel
theorem dX3_readWalker_44 : decode cX3_readWalker 44 = .ok (.invokevirtual 83, 3) := by decide +kernel
theorem dX3_readWalker_47 : decode cX3_readWalker 47 = .ok (.ifCond .eq 39, 3) := by decide +kernel
theorem dX3_readWalker_50 : decode cX3_readWalker 50 = .ok (.aload_n 0, 1) := by decide +kernel
theorem dX3_readWalker_51 : decode cX3_readWalker 51 = .ok (.aload_n 0, 1) := by decide +kernel
theorem dX3_readWalker_52 : decode cX3_readWalker 52 = .ok (.getfield 34, 3) := by decide +kernel
theorem dX3_readWalker_55 : decode cX3_readWalker 55 = .ok (.iconst 1, 1) := by decide +kernel
theorem dX3_readWalker_56 : decode cX3_readWalker 56 = .ok (.iadd, 1) := by decide +kernel
theorem dX3_readWalker_57 : decode cX3_readWalker 57 = .ok (.invokevirtual 49, 3) := by decide +kernel
theorem dX3_readWalker_60 : decode cX3_readWalker 60 = .ok (.aload_n 0, 1) := by decide +kernel
theorem dX3_readWalker_61 : decode cX3_readWalker 61 = .ok (.bipush 99, 2) := by decide +kernel
theorem dX3_readWalker_63 : decode cX3_readWalker 63 = .ok (.invokevirtual 86, 3) := by decide +kernel
theorem dX3_readWalker_66 : decode cX3_readWalker 66 = .ok (.ifCond .ne 5, 3) := by decide +kernel
theorem dX3_readWalker_69 : decode cX3_readWalker 69 = .ok (.iconst 0, 1) := by decide +kernel
theorem dX3_readWalker_70 : decode cX3_readWalker 70 = .ok (.ireturn, 1) := by decide +kernel
theorem dX3_readWalker_71 : decode cX3_readWalker 71 = .ok (.aload_n 0, 1) := by decide +kernel
theorem dX3_readWalker_72 : decode cX3_readWalker 72 = .ok (.getfield 40, 3) := by decide +kernel
theorem dX3_readWalker_75 : decode cX3_readWalker 75 = .ok (.istore_n 3, 1) := by decide +kernel
theorem dX3_readWalker_76 : decode cX3_readWalker 76 = .ok (.aload_n 0, 1) := by decide +kernel
theorem dX3_readWalker_77 : decode cX3_readWalker 77 = .ok (.aload_n 0, 1) := by decide +kernel
theorem dX3_readWalker_78 : decode cX3_readWalker 78 = .ok (.getfield 34, 3) := by decide +kernel
theorem dX3_readWalker_81 : decode cX3_readWalker 81 = .ok (.iconst 1, 1) := by decide +kernel
theorem dX3_readWalker_82 : decode cX3_readWalker 82 = .ok (.iadd, 1) := by decide +kernel
theorem dX3_readWalker_83 : decode cX3_readWalker 83 = .ok (.invokevirtual 49, 3) := by decide +kernel
theorem dX3_readWalker_86 : decode cX3_readWalker 86 = .ok (.aload_n 0, 1) := by decide +kernel
theorem dX3_readWalker_87 : decode cX3_readWalker 87 = .ok (.bipush 12, 2) := by decide +kernel
theorem dX3_readWalker_89 : decode cX3_readWalker 89 = .ok (.invokevirtual 83, 3) := by decide +kernel
theorem dX3_readWalker_92 : decode cX3_readWalker 92 = .ok (.ifCond .eq 40, 3) := by decide +kernel
theorem dX3_readWalker_95 : decode cX3_readWalker 95 = .ok (.aload_n 0, 1) := by decide +kernel
theorem dX3_readWalker_96 : decode cX3_readWalker 96 = .ok (.aload_n 0, 1) := by decide +kernel
theorem dX3_readWalker_97 : decode cX3_readWalker 97 = .ok (.getfield 34, 3) := by decide +kernel
theorem dX3_readWalker_100 : decode cX3_readWalker 100 = .ok (.iconst 1, 1) := by decide +kernel
theorem dX3_readWalker_101 : decode cX3_readWalker 101 = .ok (.iadd, 1) := by decide +kernel
theorem dX3_readWalker_102 : decode cX3_readWalker 102 = .ok (.invokevirtual 49, 3) := by decide +kernel
theorem dX3_readWalker_105 : decode cX3_readWalker 105 = .ok (.aload_n 0, 1) := by decide +kernel
theorem dX3_readWalker_106 : decode cX3_readWalker 106 = .ok (.bipush 99, 2) := by decide +kernel
theorem dX3_readWalker_108 : decode cX3_readWalker 108 = .ok (.invokevirtual 86, 3) := by decide +kernel
theorem dX3_readWalker_111 : decode cX3_readWalker 111 = .ok (.ifCond .ne 5, 3) := by decide +kernel
theorem dX3_readWalker_114 : decode cX3_readWalker 114 = .ok (.iconst 0, 1) := by decide +kernel
theorem dX3_readWalker_115 : decode cX3_readWalker 115 = .ok (.ireturn, 1) := by decide +kernel
theorem dX3_readWalker_116 : decode cX3_readWalker 116 = .ok (.aload_n 0, 1) := by decide +kernel
theorem dX3_readWalker_117 : decode cX3_readWalker 117 = .ok (.getfield 40, 3) := by decide +kernel
theorem dX3_readWalker_120 : decode cX3_readWalker 120 = .ok (.istore 4, 2) := by decide +kernel
theorem dX3_readWalker_122 : decode cX3_readWalker 122 = .ok (.aload_n 0, 1) := by decide +kernel
theorem dX3_readWalker_123 : decode cX3_readWalker 123 = .ok (.aload_n 0, 1) := by decide +kernel
theorem dX3_readWalker_124 : decode cX3_readWalker 124 = .ok (.getfield 34, 3) := by decide +kernel
theorem dX3_readWalker_127 : decode cX3_readWalker 127 = .ok (.iconst 1, 1) := by decide +kernel
theorem dX3_readWalker_128 : decode cX3_readWalker 128 = .ok (.iadd, 1) := by decide +kernel
theorem dX3_readWalker_129 : decode cX3_readWalker 129 = .ok (.invokevirtual 49, 3) := by decide +kernel
theorem dX3_readWalker_132 : decode cX3_readWalker 132 = .ok (.aload_n 1, 1) := by decide +kernel
theorem dX3_readWalker_133 : decode cX3_readWalker 133 = .ok (.iload_n 2, 1) := by decide +kernel
theorem dX3_readWalker_134 : decode cX3_readWalker 134 = .ok (.iload_n 3, 1) := by decide +kernel
theorem dX3_readWalker_135 : decode cX3_readWalker 135 = .ok (.iload 4, 2) := by decide +kernel
theorem dX3_readWalker_137 : decode cX3_readWalker 137 = .ok (.invokevirtual 89, 3) := by decide +kernel
theorem dX3_readWalker_140 : decode cX3_readWalker 140 = .ok (.pop, 1) := by decide +kernel
theorem dX3_readWalker_141 : decode cX3_readWalker 141 = .ok (.iconst 1, 1) := by decide +kernel
theorem dX3_readWalker_142 : decode cX3_readWalker 142 = .ok (.ireturn, 1) := by decide +kernel
theorem dX3_readPlank_0 : decode cX3_readPlank 0 = .ok (.aload_n 0, 1) := by decide +kernel
theorem dX3_readPlank_1 : decode cX3_readPlank 1 = .ok (.aload_n 0, 1) := by decide +kernel
theorem dX3_readPlank_2 : decode cX3_readPlank 2 = .ok (.getfield 34, 3) := by decide +kernel
theorem dX3_readPlank_5 : decode cX3_readPlank 5 = .ok (.iconst 1, 1) := by decide +kernel
theorem dX3_readPlank_6 : decode cX3_readPlank 6 = .ok (.iadd, 1) := by decide +kernel
theorem dX3_readPlank_7 : decode cX3_readPlank 7 = .ok (.invokevirtual 49, 3) := by decide +kernel
theorem dX3_readPlank_10 : decode cX3_readPlank 10 = .ok (.aload_n 0, 1) := by decide +kernel
theorem dX3_readPlank_11 : decode cX3_readPlank 11 = .ok (.bipush 11, 2) := by decide +kernel
theorem dX3_readPlank_13 : decode cX3_readPlank 13 = .ok (.invokevirtual 86, 3) := by decide +kernel
theorem dX3_readPlank_16 : decode cX3_readPlank 16 = .ok (.ifCond .ne 5, 3) := by decide +kernel
theorem dX3_readPlank_19 : decode cX3_readPlank 19 = .ok (.iconst 0, 1) := by decide +kernel
theorem dX3_readPlank_20 : decode cX3_readPlank 20 = .ok (.ireturn, 1) := by decide +kernel
theorem dX3_readPlank_21 : decode cX3_readPlank 21 = .ok (.aload_n 0, 1) := by decide +kernel
theorem dX3_readPlank_22 : decode cX3_readPlank 22 = .ok (.getfield 40, 3) := by decide +kernel
theorem dX3_readPlank_25 : decode cX3_readPlank 25 = .ok (.istore_n 2, 1) := by decide +kernel
theorem dX3_readPlank_26 : decode cX3_readPlank 26 = .ok (.aload_n 0, 1) := by decide +kernel
theorem dX3_readPlank_27 : decode cX3_readPlank 27 = .ok (.aload_n 0, 1) := by decide +kernel
theorem dX3_readPlank_28 : decode cX3_readPlank 28 = .ok (.getfield 34, 3) := by decide +kernel
theorem dX3_readPlank_31 : decode cX3_readPlank 31 = .ok (.iconst 1, 1) := by decide +kernel
theorem dX3_readPlank_32 : decode cX3_readPlank 32 = .ok (.iadd, 1) := by decide +kernel
theorem dX3_readPlank_33 : decode cX3_readPlank 33 = .ok (.invokevirtual 49, 3) := by decide +kernel
theorem dX3_readPlank_36 : decode cX3_readPlank 36 = .ok (.aload_n 0, 1) := by decide +kernel
theorem dX3_readPlank_37 : decode cX3_readPlank 37 = .ok (.bipush 99, 2) := by decide +kernel
theorem dX3_readPlank_39 : decode cX3_readPlank 39 = .ok (.invokevirtual 86, 3) := by decide +kernel
theorem dX3_readPlank_42 : decode cX3_readPlank 42 = .ok (.ifCond .ne 5, 3) := by decide +kernel
theorem dX3_readPlank_45 : decode cX3_readPlank 45 = .ok (.iconst 0, 1) := by decide +kernel
theorem dX3_readPlank_46 : decode cX3_readPlank 46 = .ok (.ireturn, 1) := by decide +kernel
theorem dX3_readPlank_47 : decode cX3_readPlank 47 = .ok (.aload_n 1, 1) := by decide +kernel
theorem dX3_readPlank_48 : decode cX3_readPlank 48 = .ok (.getfield 93, 3) := by decide +kernel
theorem dX3_readPlank_51 : decode cX3_readPlank 51 = .ok (.iload_n 2, 1) := by decide +kernel
theorem dX3_readPlank_52 : decode cX3_readPlank 52 = .ok (.aload_n 0, 1) := by decide +kernel
theorem dX3_readPlank_53 : decode cX3_readPlank 53 = .ok (.getfield 40, 3) := by decide +kernel
theorem dX3_readPlank_56 : decode cX3_readPlank 56 = .ok (.iastore, 1) := by decide +kernel
theorem dX3_readPlank_57 : decode cX3_readPlank 57 = .ok (.aload_n 0, 1) := by decide +kernel
theorem dX3_readPlank_58 : decode cX3_readPlank 58 = .ok (.aload_n 0, 1) := by decide +kernel
theorem dX3_readPlank_59 : decode cX3_readPlank 59 = .ok (.getfield 34, 3) := by decide +kernel
theorem dX3_readPlank_62 : decode cX3_readPlank 62 = .ok (.iconst 1, 1) := by decide +kernel
theorem dX3_readPlank_63 : decode cX3_readPlank 63 = .ok (.iadd, 1) := by decide +kernel
theorem dX3_readPlank_64 : decode cX3_readPlank 64 = .ok (.invokevirtual 49, 3) := by decide +kernel
theorem dX3_readPlank_67 : decode cX3_readPlank 67 = .ok (.iconst 1, 1) := by decide +kernel
theorem dX3_readPlank_68 : decode cX3_readPlank 68 = .ok (.ireturn, 1) := by decide +kernel
theorem dX3_readNew_0 : decode cX3_readNew 0 = .ok (.aload_n 0, 1) := by decide +kernel
theorem dX3_readNew_1 : decode cX3_readNew 1 = .ok (.aload_n 0, 1) := by decide +kernel
theorem dX3_readNew_2 : decode cX3_readNew 2 = .ok (.getfield 34, 3) := by decide +kernel
theorem dX3_readNew_5 : decode cX3_readNew 5 = .ok (.iconst 1, 1) := by decide +kernel
theorem dX3_readNew_6 : decode cX3_readNew 6 = .ok (.iadd, 1) := by decide +kernel
theorem dX3_readNew_7 : decode cX3_readNew 7 = .ok (.invokevirtual 49, 3) := by decide +kernel
theorem dX3_readNew_10 : decode cX3_readNew 10 = .ok (.aload_n 0, 1) := by decide +kernel
theorem dX3_readNew_11 : decode cX3_readNew 11 = .ok (.bipush 11, 2) := by decide +kernel
theorem dX3_readNew_13 : decode cX3_readNew 13 = .ok (.invokevirtual 86, 3) := by decide +kernel
theorem dX3_readNew_16 : decode cX3_readNew 16 = .ok (.ifCond .ne 5, 3) := by decide +kernel
theorem dX3_readNew_19 : decode cX3_readNew 19 = .ok (.iconst 0, 1) := by decide +kernel
theorem dX3_readNew_20 : decode cX3_readNew 20 = .ok (.ireturn, 1) := by decide +kernel
theorem dX3_readNew_21 : decode cX3_readNew 21 = .ok (.aload_n 1, 1) := by decide +kernel
theorem dX3_readNew_22 : decode cX3_readNew 22 = .ok (.getfield 93, 3) := by decide +kernel
theorem dX3_readNew_25 : decode cX3_readNew 25 = .ok (.aload_n 0, 1) := by decide +kernel
theorem dX3_readNew_26 : decode cX3_readNew 26 = .ok (.getfield 40, 3) := by decide +kernel
theorem dX3_readNew_29 : decode cX3_readNew 29 = .ok (.bipush 50, 2) := by decide +kernel
theorem dX3_readNew_31 : decode cX3_readNew 31 = .ok (.iastore, 1) := by decide +kernel
theorem dX3_readNew_32 : decode cX3_readNew 32 = .ok (.aload_n 0, 1) := by decide +kernel
theorem dX3_readNew_33 : decode cX3_readNew 33 = .ok (.aload_n 0, 1) := by decide +kernel
theorem dX3_readNew_34 : decode cX3_readNew 34 = .ok (.getfield 34, 3) := by decide +kernel
theorem dX3_readNew_37 : decode cX3_readNew 37 = .ok (.iconst 1, 1) := by decide +kernel
theorem dX3_readNew_38 : decode cX3_readNew 38 = .ok (.iadd, 1) := by decide +kernel
theorem dX3_readNew_39 : decode cX3_readNew 39 = .ok (.invokevirtual 49, 3) := by decide +kernel
theorem dX3_readNew_42 : decode cX3_readNew 42 = .ok (.iconst 1, 1) := by decide +kernel
theorem dX3_readNew_43 : decode cX3_readNew 43 = .ok (.ireturn, 1) := by decide +kernel
theorem dX3_isWord_0 : decode cX3_isWord 0 = .ok (.aload_n 0, 1) := by decide +kernel
theorem dX3_isWord_1 : decode cX3_isWord 1 = .ok (.getfield 37, 3) := by decide +kernel
theorem dX3_isWord_4 : decode cX3_isWord 4 = .ok (.iconst 1, 1) := by decide +kernel
theorem dX3_isWord_5 : decode cX3_isWord 5 = .ok (.if_icmp .ne 15, 3) := by decide +kernel
theorem dX3_isWord_8 : decode cX3_isWord 8 = .ok (.aload_n 0, 1) := by decide +kernel
theorem dX3_isWord_9 : decode cX3_isWord 9 = .ok (.getfield 40, 3) := by decide +kernel
theorem dX3_isWord_12 : decode cX3_isWord 12 = .ok (.iload_n 1, 1) := by decide +kernel
theorem dX3_isWord_13 : decode cX3_isWord 13 = .ok (.if_icmp .ne 7, 3) := by decide +kernel
theorem dX3_isWord_16 : decode cX3_isWord 16 = .ok (.iconst 1, 1) := by decide +kernel
theorem dX3_isWord_17 : decode cX3_isWord 17 = .ok (.goto 4, 3) := by decide +kernel
theorem dX3_isWord_20 : decode cX3_isWord 20 = .ok (.iconst 0, 1) := by decide +kernel
theorem dX3_isWord_21 : decode cX3_isWord 21 = .ok (.ireturn, 1) := by decide +kernel
theorem dX3_isNumber_0 : decode cX3_isNumber 0 = .ok (.aload_n 0, 1) := by decide +kernel
theorem dX3_isNumber_1 : decode cX3_isNumber 1 = .ok (.getfield 37, 3) := by decide +kernel
theorem dX3_isNumber_4 : decode cX3_isNumber 4 = .ok (.iconst 2, 1) := by decide +kernel
theorem dX3_isNumber_5 : decode cX3_isNumber 5 = .ok (.if_icmp .ne 22, 3) := by decide +kernel
theorem dX3_isNumber_8 : decode cX3_isNumber 8 = .ok (.aload_n 0, 1) := by decide +kernel
theorem dX3_isNumber_9 : decode cX3_isNumber 9 = .ok (.getfield 40, 3) := by decide +kernel
theorem dX3_isNumber_12 : decode cX3_isNumber 12 = .ok (.ifCond .lt 15, 3) := by decide +kernel
theorem dX3_isNumber_15 : decode cX3_isNumber 15 = .ok (.aload_n 0, 1) := by decide +kernel
theorem dX3_isNumber_16 : decode cX3_isNumber 16 = .ok (.getfield 40, 3) := by decide +kernel
theorem dX3_isNumber_19 : decode cX3_isNumber 19 = .ok (.iload_n 1, 1) := by decide +kernel
theorem dX3_isNumber_20 : decode cX3_isNumber 20 = .ok (.if_icmp .gt 7, 3) := by decide +kernel
theorem dX3_isNumber_23 : decode cX3_isNumber 23 = .ok (.iconst 1, 1) := by decide +kernel
theorem dX3_isNumber_24 : decode cX3_isNumber 24 = .ok (.goto 4, 3) := by decide +kernel
theorem dX3_isNumber_27 : decode cX3_isNumber 27 = .ok (.iconst 0, 1) := by decide +kernel
theorem dX3_isNumber_28 : decode cX3_isNumber 28 = .ok (.ireturn, 1) := by decide +kernel
theorem dX3_split_0 : decode cX3_split 0 = .ok (.aload_n 0, 1) := by decide +kernel
theorem dX3_split_1 : decode cX3_split 1 = .ok (.iconst 0, 1) := by decide +kernel
theorem dX3_split_2 : decode cX3_split 2 = .ok (.putfield 31, 3) := by decide +kernel
theorem dX3_split_5 : decode cX3_split 5 = .ok (.iconst 0, 1) := by decide +kernel
theorem dX3_split_6 : decode cX3_split 6 = .ok (.istore_n 1, 1) := by decide +kernel
theorem dX3_split_7 : decode cX3_split 7 = .ok (.iconst 0, 1) := by decide +kernel
theorem dX3_split_8 : decode cX3_split 8 = .ok (.istore_n 2, 1) := by decide +kernel
theorem dX3_split_9 : decode cX3_split 9 = .ok (.iload_n 2, 1) := by decide +kernel
theorem dX3_split_10 : decode cX3_split 10 = .ok (.aload_n 0, 1) := by decide +kernel
theorem dX3_split_11 : decode cX3_split 11 = .ok (.getfield 15, 3) := by decide +kernel
theorem dX3_split_14 : decode cX3_split 14 = .ok (.if_icmp .ge 78, 3) := by decide +kernel
theorem dX3_split_17 : decode cX3_split 17 = .ok (.iload_n 2, 1) := by decide +kernel
theorem dX3_split_18 : decode cX3_split 18 = .ok (.bipush 120, 2) := by decide +kernel
theorem dX3_split_20 : decode cX3_split 20 = .ok (.if_icmp .ge 72, 3) := by decide +kernel
theorem dX3_split_23 : decode cX3_split 23 = .ok (.aload_n 0, 1) := by decide +kernel
theorem dX3_split_24 : decode cX3_split 24 = .ok (.getfield 9, 3) := by decide +kernel
theorem dX3_split_27 : decode cX3_split 27 = .ok (.iload_n 2, 1) := by decide +kernel
theorem dX3_split_28 : decode cX3_split 28 = .ok (.iaload, 1) := by decide +kernel
theorem dX3_split_29 : decode cX3_split 29 = .ok (.invokestatic 96, 3) := by decide +kernel
theorem dX3_split_32 : decode cX3_split 32 = .ok (.istore_n 3, 1) := by decide +kernel
theorem dX3_split_33 : decode cX3_split 33 = .ok (.iload_n 3, 1) := by decide +kernel
theorem dX3_split_34 : decode cX3_split 34 = .ok (.iload_n 1, 1) := by decide +kernel
theorem dX3_split_35 : decode cX3_split 35 = .ok (.if_icmp .ne 17, 3) := by decide +kernel
theorem dX3_split_38 : decode cX3_split 38 = .ok (.iload_n 3, 1) := by decide +kernel
theorem dX3_split_39 : decode cX3_split 39 = .ok (.iconst 1, 1) := by decide +kernel
theorem dX3_split_40 : decode cX3_split 40 = .ok (.if_icmp .eq 8, 3) := by decide +kernel
theorem dX3_split_43 : decode cX3_split 43 = .ok (.iload_n 3, 1) := by decide +kernel
theorem dX3_split_44 : decode cX3_split 44 = .ok (.iconst 2, 1) := by decide +kernel
theorem dX3_split_45 : decode cX3_split 45 = .ok (.if_icmp .ne 7, 3) := by decide +kernel
theorem dX3_split_48 : decode cX3_split 48 = .ok (.iconst 1, 1) := by decide +kernel
theorem dX3_split_49 : decode cX3_split 49 = .ok (.goto 4, 3) := by decide +kernel
theorem dX3_split_52 : decode cX3_split 52 = .ok (.iconst 0, 1) := by decide +kernel
theorem dX3_split_53 : decode cX3_split 53 = .ok (.istore 4, 2) := by decide +kernel
theorem dX3_split_55 : decode cX3_split 55 = .ok (.iload_n 3, 1) := by decide +kernel
theorem dX3_split_56 : decode cX3_split 56 = .ok (.ifCond .eq 14, 3) := by decide +kernel
theorem dX3_split_59 : decode cX3_split 59 = .ok (.iload 4, 2) := by decide +kernel
theorem dX3_split_61 : decode cX3_split 61 = .ok (.ifCond .ne 9, 3) := by decide +kernel
theorem dX3_split_64 : decode cX3_split 64 = .ok (.aload_n 0, 1) := by decide +kernel
theorem dX3_split_65 : decode cX3_split 65 = .ok (.iload_n 3, 1) := by decide +kernel
theorem dX3_split_66 : decode cX3_split 66 = .ok (.iload_n 2, 1) := by decide +kernel
theorem dX3_split_67 : decode cX3_split 67 = .ok (.invokevirtual 100, 3) := by decide +kernel
theorem dX3_split_70 : decode cX3_split 70 = .ok (.iload_n 3, 1) := by decide +kernel
theorem dX3_split_71 : decode cX3_split 71 = .ok (.ifCond .eq 13, 3) := by decide +kernel
theorem dX3_split_74 : decode cX3_split 74 = .ok (.aload_n 0, 1) := by decide +kernel
theorem dX3_split_75 : decode cX3_split 75 = .ok (.aload_n 0, 1) := by decide +kernel
theorem dX3_split_76 : decode cX3_split 76 = .ok (.getfield 9, 3) := by decide +kernel
theorem dX3_split_79 : decode cX3_split 79 = .ok (.iload_n 2, 1) := by decide +kernel
theorem dX3_split_80 : decode cX3_split 80 = .ok (.iaload, 1) := by decide +kernel
theorem dX3_split_81 : decode cX3_split 81 = .ok (.invokevirtual 104, 3) := by decide +kernel
theorem dX3_split_84 : decode cX3_split 84 = .ok (.iload_n 3, 1) := by decide +kernel
theorem dX3_split_85 : decode cX3_split 85 = .ok (.istore_n 1, 1) := by decide +kernel
theorem dX3_split_86 : decode cX3_split 86 = .ok (.iinc 2 1, 3) := by decide +kernel
theorem dX3_split_89 : decode cX3_split 89 = .ok (.goto (-80), 3) := by decide +kernel
theorem dX3_split_92 : decode cX3_split 92 = .ok (.aload_n 0, 1) := by decide +kernel
theorem dX3_split_93 : decode cX3_split 93 = .ok (.iconst 5, 1) := by decide +kernel
theorem dX3_split_94 : decode cX3_split 94 = .ok (.aload_n 0, 1) := by decide +kernel
theorem dX3_split_95 : decode cX3_split 95 = .ok (.getfield 15, 3) := by decide +kernel
theorem dX3_split_98 : decode cX3_split 98 = .ok (.invokevirtual 100, 3) := by decide +kernel
theorem dX3_split_101 : decode cX3_split 101 = .ok (.return_, 1) := by decide +kernel
theorem dX3_sortOf_0 : decode cX3_sortOf 0 = .ok (.iload_n 0, 1) := by decide +kernel
theorem dX3_sortOf_1 : decode cX3_sortOf 1 = .ok (.bipush 97, 2) := by decide +kernel
theorem dX3_sortOf_3 : decode cX3_sortOf 3 = .ok (.if_icmp .lt 11, 3) := by decide +kernel
theorem dX3_sortOf_6 : decode cX3_sortOf 6 = .ok (.iload_n 0, 1) := by decide +kernel
theorem dX3_sortOf_7 : decode cX3_sortOf 7 = .ok (.bipush 122, 2) := by decide +kernel
theorem dX3_sortOf_9 : decode cX3_sortOf 9 = .ok (.if_icmp .gt 5, 3) := by decide +kernel
theorem dX3_sortOf_12 : decode cX3_sortOf 12 = .ok (.iconst 1, 1) := by decide +kernel
theorem dX3_sortOf_13 : decode cX3_sortOf 13 = .ok (.ireturn, 1) := by decide +kernel
theorem dX3_sortOf_14 : decode cX3_sortOf 14 = .ok (.iload_n 0, 1) := by decide +kernel
theorem dX3_sortOf_15 : decode cX3_sortOf 15 = .ok (.bipush 48, 2) := by decide +kernel
theorem dX3_sortOf_17 : decode cX3_sortOf 17 = .ok (.if_icmp .lt 11, 3) := by decide +kernel
theorem dX3_sortOf_20 : decode cX3_sortOf 20 = .ok (.iload_n 0, 1) := by decide +kernel
theorem dX3_sortOf_21 : decode cX3_sortOf 21 = .ok (.bipush 57, 2) := by decide +kernel
theorem dX3_sortOf_23 : decode cX3_sortOf 23 = .ok (.if_icmp .gt 5, 3) := by decide +kernel
theorem dX3_sortOf_26 : decode cX3_sortOf 26 = .ok (.iconst 2, 1) := by decide +kernel
theorem dX3_sortOf_27 : decode cX3_sortOf 27 = .ok (.ireturn, 1) := by decide +kernel
theorem dX3_sortOf_28 : decode cX3_sortOf 28 = .ok (.iload_n 0, 1) := by decide +kernel
theorem dX3_sortOf_29 : decode cX3_sortOf 29 = .ok (.bipush 59, 2) := by decide +kernel
theorem dX3_sortOf_31 : decode cX3_sortOf 31 = .ok (.if_icmp .ne 5, 3) := by decide +kernel
theorem dX3_sortOf_34 : decode cX3_sortOf 34 = .ok (.iconst 3, 1) := by decide +kernel
theorem dX3_sortOf_35 : decode cX3_sortOf 35 = .ok (.ireturn, 1) := by decide +kernel
theorem dX3_sortOf_36 : decode cX3_sortOf 36 = .ok (.iload_n 0, 1) := by decide +kernel
theorem dX3_sortOf_37 : decode cX3_sortOf 37 = .ok (.bipush 32, 2) := by decide +kernel
theorem dX3_sortOf_39 : decode cX3_sortOf 39 = .ok (.if_icmp .ne 7, 3) := by decide +kernel
theorem dX3_sortOf_42 : decode cX3_sortOf 42 = .ok (.iconst 0, 1) := by decide +kernel
theorem dX3_sortOf_43 : decode cX3_sortOf 43 = .ok (.goto 4, 3) := by decide +kernel
theorem dX3_sortOf_46 : decode cX3_sortOf 46 = .ok (.iconst 4, 1) := by decide +kernel
theorem dX3_sortOf_47 : decode cX3_sortOf 47 = .ok (.ireturn, 1) := by decide +kernel
theorem dX3_begin_0 : decode cX3_begin 0 = .ok (.aload_n 0, 1) := by decide +kernel
theorem dX3_begin_1 : decode cX3_begin 1 = .ok (.getfield 31, 3) := by decide +kernel
theorem dX3_begin_4 : decode cX3_begin 4 = .ok (.ifCond .lt 62, 3) := by decide +kernel
theorem dX3_begin_7 : decode cX3_begin 7 = .ok (.aload_n 0, 1) := by decide +kernel
theorem dX3_begin_8 : decode cX3_begin 8 = .ok (.getfield 31, 3) := by decide +kernel
theorem dX3_begin_11 : decode cX3_begin 11 = .ok (.bipush 121, 2) := by decide +kernel
theorem dX3_begin_13 : decode cX3_begin 13 = .ok (.if_icmp .ge 53, 3) := by decide +kernel
theorem dX3_begin_16 : decode cX3_begin 16 = .ok (.aload_n 0, 1) := by decide +kernel
theorem dX3_begin_17 : decode cX3_begin 17 = .ok (.getfield 19, 3) := by decide +kernel
theorem dX3_begin_20 : decode cX3_begin 20 = .ok (.aload_n 0, 1) := by decide +kernel
theorem dX3_begin_21 : decode cX3_begin 21 = .ok (.getfield 31, 3) := by decide +kernel
theorem dX3_begin_24 : decode cX3_begin 24 = .ok (.iload_n 1, 1) := by decide +kernel
theorem dX3_begin_25 : decode cX3_begin 25 = .ok (.iastore, 1) := by decide +kernel
theorem dX3_begin_26 : decode cX3_begin 26 = .ok (.aload_n 0, 1) := by decide +kernel
theorem dX3_begin_27 : decode cX3_begin 27 = .ok (.getfield 22, 3) := by decide +kernel
theorem dX3_begin_30 : decode cX3_begin 30 = .ok (.aload_n 0, 1) := by decide +kernel
theorem dX3_begin_31 : decode cX3_begin 31 = .ok (.getfield 31, 3) := by decide +kernel
theorem dX3_begin_34 : decode cX3_begin 34 = .ok (.iload_n 2, 1) := by decide +kernel
theorem dX3_begin_35 : decode cX3_begin 35 = .ok (.iastore, 1) := by decide +kernel
theorem dX3_begin_36 : decode cX3_begin 36 = .ok (.aload_n 0, 1) := by decide +kernel
theorem dX3_begin_37 : decode cX3_begin 37 = .ok (.getfield 25, 3) := by decide +kernel
theorem dX3_begin_40 : decode cX3_begin 40 = .ok (.aload_n 0, 1) := by decide +kernel
theorem dX3_begin_41 : decode cX3_begin 41 = .ok (.getfield 31, 3) := by decide +kernel
theorem dX3_begin_44 : decode cX3_begin 44 = .ok (.iload_n 2, 1) := by decide +kernel
theorem dX3_begin_45 : decode cX3_begin 45 = .ok (.iastore, 1) := by decide +kernel
theorem dX3_begin_46 : decode cX3_begin 46 = .ok (.aload_n 0, 1) := by decide +kernel
theorem dX3_begin_47 : decode cX3_begin 47 = .ok (.getfield 28, 3) := by decide +kernel
theorem dX3_begin_50 : decode cX3_begin 50 = .ok (.aload_n 0, 1) := by decide +kernel
theorem dX3_begin_51 : decode cX3_begin 51 = .ok (.getfield 31, 3) := by decide +kernel
theorem dX3_begin_54 : decode cX3_begin 54 = .ok (.iconst 0, 1) := by decide +kernel
theorem dX3_begin_55 : decode cX3_begin 55 = .ok (.iastore, 1) := by decide +kernel
theorem dX3_begin_56 : decode cX3_begin 56 = .ok (.aload_n 0, 1) := by decide +kernel
theorem dX3_begin_57 : decode cX3_begin 57 = .ok (.dup, 1) := by decide +kernel
theorem dX3_begin_58 : decode cX3_begin 58 = .ok (.getfield 31, 3) := by decide +kernel
theorem dX3_begin_61 : decode cX3_begin 61 = .ok (.iconst 1, 1) := by decide +kernel
theorem dX3_begin_62 : decode cX3_begin 62 = .ok (.iadd, 1) := by decide +kernel
theorem dX3_begin_63 : decode cX3_begin 63 = .ok (.putfield 31, 3) := by decide +kernel
theorem dX3_begin_66 : decode cX3_begin 66 = .ok (.return_, 1) := by decide +kernel
theorem dX3_grow_0 : decode cX3_grow 0 = .ok (.aload_n 0, 1) := by decide +kernel
theorem dX3_grow_1 : decode cX3_grow 1 = .ok (.getfield 31, 3) := by decide +kernel
theorem dX3_grow_4 : decode cX3_grow 4 = .ok (.iconst 1, 1) := by decide +kernel
theorem dX3_grow_5 : decode cX3_grow 5 = .ok (.isub, 1) := by decide +kernel
theorem dX3_grow_6 : decode cX3_grow 6 = .ok (.istore_n 2, 1) := by decide +kernel
theorem dX3_grow_7 : decode cX3_grow 7 = .ok (.iload_n 2, 1) := by decide +kernel
theorem dX3_grow_8 : decode cX3_grow 8 = .ok (.ifCond .lt 55, 3) := by decide +kernel
theorem dX3_grow_11 : decode cX3_grow 11 = .ok (.iload_n 2, 1) := by decide +kernel
theorem dX3_grow_12 : decode cX3_grow 12 = .ok (.bipush 121, 2) := by decide +kernel
theorem dX3_grow_14 : decode cX3_grow 14 = .ok (.if_icmp .ge 49, 3) := by decide +kernel
theorem dX3_grow_17 : decode cX3_grow 17 = .ok (.aload_n 0, 1) := by decide +kernel
theorem dX3_grow_18 : decode cX3_grow 18 = .ok (.getfield 25, 3) := by decide +kernel
theorem dX3_grow_21 : decode cX3_grow 21 = .ok (.iload_n 2, 1) := by decide +kernel
theorem dX3_grow_22 : decode cX3_grow 22 = .ok (.dup2, 1) := by decide +kernel
theorem dX3_grow_23 : decode cX3_grow 23 = .ok (.iaload, 1) := by decide +kernel
theorem dX3_grow_24 : decode cX3_grow 24 = .ok (.iconst 1, 1) := by decide +kernel
theorem dX3_grow_25 : decode cX3_grow 25 = .ok (.iadd, 1) := by decide +kernel
theorem dX3_grow_26 : decode cX3_grow 26 = .ok (.iastore, 1) := by decide +kernel
theorem dX3_grow_27 : decode cX3_grow 27 = .ok (.aload_n 0, 1) := by decide +kernel
theorem dX3_grow_28 : decode cX3_grow 28 = .ok (.getfield 19, 3) := by decide +kernel
theorem dX3_grow_31 : decode cX3_grow 31 = .ok (.iload_n 2, 1) := by decide +kernel
theorem dX3_grow_32 : decode cX3_grow 32 = .ok (.iaload, 1) := by decide +kernel
theorem dX3_grow_33 : decode cX3_grow 33 = .ok (.iconst 2, 1) := by decide +kernel
theorem dX3_grow_34 : decode cX3_grow 34 = .ok (.if_icmp .ne 29, 3) := by decide +kernel
theorem dX3_grow_37 : decode cX3_grow 37 = .ok (.aload_n 0, 1) := by decide +kernel
theorem dX3_grow_38 : decode cX3_grow 38 = .ok (.getfield 28, 3) := by decide +kernel
theorem dX3_grow_41 : decode cX3_grow 41 = .ok (.iload_n 2, 1) := by decide +kernel
theorem dX3_grow_42 : decode cX3_grow 42 = .ok (.sipush 1000, 3) := by decide +kernel
theorem dX3_grow_45 : decode cX3_grow 45 = .ok (.aload_n 0, 1) := by decide +kernel
theorem dX3_grow_46 : decode cX3_grow 46 = .ok (.getfield 28, 3) := by decide +kernel
theorem dX3_grow_49 : decode cX3_grow 49 = .ok (.iload_n 2, 1) := by decide +kernel
theorem dX3_grow_50 : decode cX3_grow 50 = .ok (.iaload, 1) := by decide +kernel
theorem dX3_grow_51 : decode cX3_grow 51 = .ok (.bipush 10, 2) := by decide +kernel
theorem dX3_grow_53 : decode cX3_grow 53 = .ok (.imul, 1) := by decide +kernel
theorem dX3_grow_54 : decode cX3_grow 54 = .ok (.iload_n 1, 1) := by decide +kernel
theorem dX3_grow_55 : decode cX3_grow 55 = .ok (.iadd, 1) := by decide +kernel
theorem dX3_grow_56 : decode cX3_grow 56 = .ok (.bipush 48, 2) := by decide +kernel
theorem dX3_grow_58 : decode cX3_grow 58 = .ok (.isub, 1) := by decide +kernel
theorem dX3_grow_59 : decode cX3_grow 59 = .ok (.invokestatic 107, 3) := by decide +kernel
theorem dX3_grow_62 : decode cX3_grow 62 = .ok (.iastore, 1) := by decide +kernel
theorem dX3_grow_63 : decode cX3_grow 63 = .ok (.return_, 1) := by decide +kernel
theorem dX3_nameWords_0 : decode cX3_nameWords 0 = .ok (.iconst 0, 1) := by decide +kernel
theorem dX3_nameWords_1 : decode cX3_nameWords 1 = .ok (.istore_n 1, 1) := by decide +kernel
theorem dX3_nameWords_2 : decode cX3_nameWords 2 = .ok (.iload_n 1, 1) := by decide +kernel
theorem dX3_nameWords_3 : decode cX3_nameWords 3 = .ok (.aload_n 0, 1) := by decide +kernel
theorem dX3_nameWords_4 : decode cX3_nameWords 4 = .ok (.getfield 31, 3) := by decide +kernel
theorem dX3_nameWords_7 : decode cX3_nameWords 7 = .ok (.if_icmp .ge 47, 3) := by decide +kernel
theorem dX3_nameWords_10 : decode cX3_nameWords 10 = .ok (.iload_n 1, 1) := by decide +kernel
theorem dX3_nameWords_11 : decode cX3_nameWords 11 = .ok (.bipush 121, 2) := by decide +kernel
theorem dX3_nameWords_13 : decode cX3_nameWords 13 = .ok (.if_icmp .ge 41, 3) := by decide +kernel
theorem dX3_nameWords_16 : decode cX3_nameWords 16 = .ok (.aload_n 0, 1) := by decide +kernel
theorem dX3_nameWords_17 : decode cX3_nameWords 17 = .ok (.getfield 19, 3) := by decide +kernel
theorem dX3_nameWords_20 : decode cX3_nameWords 20 = .ok (.iload_n 1, 1) := by decide +kernel
theorem dX3_nameWords_21 : decode cX3_nameWords 21 = .ok (.iaload, 1) := by decide +kernel
theorem dX3_nameWords_22 : decode cX3_nameWords 22 = .ok (.iconst 1, 1) := by decide +kernel
theorem dX3_nameWords_23 : decode cX3_nameWords 23 = .ok (.if_icmp .ne 25, 3) := by decide +kernel
theorem dX3_nameWords_26 : decode cX3_nameWords 26 = .ok (.aload_n 0, 1) := by decide +kernel
theorem dX3_nameWords_27 : decode cX3_nameWords 27 = .ok (.getfield 28, 3) := by decide +kernel
theorem dX3_nameWords_30 : decode cX3_nameWords 30 = .ok (.iload_n 1, 1) := by decide +kernel
theorem dX3_nameWords_31 : decode cX3_nameWords 31 = .ok (.aload_n 0, 1) := by decide +kernel
theorem dX3_nameWords_32 : decode cX3_nameWords 32 = .ok (.aload_n 0, 1) := by decide +kernel
theorem dX3_nameWords_33 : decode cX3_nameWords 33 = .ok (.getfield 22, 3) := by decide +kernel
theorem dX3_nameWords_36 : decode cX3_nameWords 36 = .ok (.iload_n 1, 1) := by decide +kernel
theorem dX3_nameWords_37 : decode cX3_nameWords 37 = .ok (.iaload, 1) := by decide +kernel
theorem dX3_nameWords_38 : decode cX3_nameWords 38 = .ok (.aload_n 0, 1) := by decide +kernel
theorem dX3_nameWords_39 : decode cX3_nameWords 39 = .ok (.getfield 25, 3) := by decide +kernel
theorem dX3_nameWords_42 : decode cX3_nameWords 42 = .ok (.iload_n 1, 1) := by decide +kernel
theorem dX3_nameWords_43 : decode cX3_nameWords 43 = .ok (.iaload, 1) := by decide +kernel
theorem dX3_nameWords_44 : decode cX3_nameWords 44 = .ok (.invokevirtual 113, 3) := by decide +kernel
theorem dX3_nameWords_47 : decode cX3_nameWords 47 = .ok (.iastore, 1) := by decide +kernel
theorem dX3_nameWords_48 : decode cX3_nameWords 48 = .ok (.iinc 1 1, 3) := by decide +kernel
theorem dX3_nameWords_51 : decode cX3_nameWords 51 = .ok (.goto (-49), 3) := by decide +kernel
theorem dX3_nameWords_54 : decode cX3_nameWords 54 = .ok (.return_, 1) := by decide +kernel
theorem dX3_wordNumber_0 : decode cX3_wordNumber 0 = .ok (.aload_n 0, 1) := by decide +kernel
theorem dX3_wordNumber_1 : decode cX3_wordNumber 1 = .ok (.iload_n 1, 1) := by decide +kernel
theorem dX3_wordNumber_2 : decode cX3_wordNumber 2 = .ok (.iload_n 2, 1) := by decide +kernel
theorem dX3_wordNumber_3 : decode cX3_wordNumber 3 = .ok (.ldc 116, 2) := by decide +kernel
theorem dX3_wordNumber_5 : decode cX3_wordNumber 5 = .ok (.invokevirtual 118, 3) := by decide +kernel
theorem dX3_wordNumber_8 : decode cX3_wordNumber 8 = .ok (.ifCond .eq 5, 3) := by decide +kernel
theorem dX3_wordNumber_11 : decode cX3_wordNumber 11 = .ok (.iconst 0, 1) := by decide +kernel
theorem dX3_wordNumber_12 : decode cX3_wordNumber 12 = .ok (.ireturn, 1) := by decide +kernel
theorem dX3_wordNumber_13 : decode cX3_wordNumber 13 = .ok (.aload_n 0, 1) := by decide +kernel
theorem dX3_wordNumber_14 : decode cX3_wordNumber 14 = .ok (.iload_n 1, 1) := by decide +kernel
theorem dX3_wordNumber_15 : decode cX3_wordNumber 15 = .ok (.iload_n 2, 1) := by decide +kernel
theorem dX3_wordNumber_16 : decode cX3_wordNumber 16 = .ok (.ldc 122, 2) := by decide +kernel
theorem dX3_wordNumber_18 : decode cX3_wordNumber 18 = .ok (.invokevirtual 118, 3) := by decide +kernel
theorem dX3_wordNumber_21 : decode cX3_wordNumber 21 = .ok (.ifCond .eq 5, 3) := by decide +kernel
theorem dX3_wordNumber_24 : decode cX3_wordNumber 24 = .ok (.iconst 1, 1) := by decide +kernel
theorem dX3_wordNumber_25 : decode cX3_wordNumber 25 = .ok (.ireturn, 1) := by decide +kernel
theorem dX3_wordNumber_26 : decode cX3_wordNumber 26 = .ok (.aload_n 0, 1) := by decide +kernel
theorem dX3_wordNumber_27 : decode cX3_wordNumber 27 = .ok (.iload_n 1, 1) := by decide +kernel
theorem dX3_wordNumber_28 : decode cX3_wordNumber 28 = .ok (.iload_n 2, 1) := by decide +kernel
theorem dX3_wordNumber_29 : decode cX3_wordNumber 29 = .ok (.ldc 124, 2) := by decide +kernel
theorem dX3_wordNumber_31 : decode cX3_wordNumber 31 = .ok (.invokevirtual 118, 3) := by decide +kernel
theorem dX3_wordNumber_34 : decode cX3_wordNumber 34 = .ok (.ifCond .eq 5, 3) := by decide +kernel
theorem dX3_wordNumber_37 : decode cX3_wordNumber 37 = .ok (.iconst 2, 1) := by decide +kernel
theorem dX3_wordNumber_38 : decode cX3_wordNumber 38 = .ok (.ireturn, 1) := by decide +kernel
theorem dX3_wordNumber_39 : decode cX3_wordNumber 39 = .ok (.aload_n 0, 1) := by decide +kernel
theorem dX3_wordNumber_40 : decode cX3_wordNumber 40 = .ok (.iload_n 1, 1) := by decide +kernel
theorem dX3_wordNumber_41 : decode cX3_wordNumber 41 = .ok (.iload_n 2, 1) := by decide +kernel
theorem dX3_wordNumber_42 : decode cX3_wordNumber 42 = .ok (.ldc 126, 2) := by decide +kernel
theorem dX3_wordNumber_44 : decode cX3_wordNumber 44 = .ok (.invokevirtual 118, 3) := by decide +kernel
theorem dX3_wordNumber_47 : decode cX3_wordNumber 47 = .ok (.ifCond .eq 5, 3) := by decide +kernel
theorem dX3_wordNumber_50 : decode cX3_wordNumber 50 = .ok (.iconst 3, 1) := by decide +kernel
theorem dX3_wordNumber_51 : decode cX3_wordNumber 51 = .ok (.ireturn, 1) := by decide +kernel
theorem dX3_wordNumber_52 : decode cX3_wordNumber 52 = .ok (.aload_n 0, 1) := by decide +kernel
theorem dX3_wordNumber_53 : decode cX3_wordNumber 53 = .ok (.iload_n 1, 1) := by decide +kernel
theorem dX3_wordNumber_54 : decode cX3_wordNumber 54 = .ok (.iload_n 2, 1) := by decide +kernel
theorem dX3_wordNumber_55 : decode cX3_wordNumber 55 = .ok (.ldc 128, 2) := by decide +kernel
theorem dX3_wordNumber_57 : decode cX3_wordNumber 57 = .ok (.invokevirtual 118, 3) := by decide +kernel
theorem dX3_wordNumber_60 : decode cX3_wordNumber 60 = .ok (.ifCond .eq 5, 3) := by decide +kernel
theorem dX3_wordNumber_63 : decode cX3_wordNumber 63 = .ok (.iconst 4, 1) := by decide +kernel
theorem dX3_wordNumber_64 : decode cX3_wordNumber 64 = .ok (.ireturn, 1) := by decide +kernel
theorem dX3_wordNumber_65 : decode cX3_wordNumber 65 = .ok (.aload_n 0, 1) := by decide +kernel
theorem dX3_wordNumber_66 : decode cX3_wordNumber 66 = .ok (.iload_n 1, 1) := by decide +kernel
theorem dX3_wordNumber_67 : decode cX3_wordNumber 67 = .ok (.iload_n 2, 1) := by decide +kernel
theorem dX3_wordNumber_68 : decode cX3_wordNumber 68 = .ok (.ldc 130, 2) := by decide +kernel
theorem dX3_wordNumber_70 : decode cX3_wordNumber 70 = .ok (.invokevirtual 118, 3) := by decide +kernel
theorem dX3_wordNumber_73 : decode cX3_wordNumber 73 = .ok (.ifCond .eq 5, 3) := by decide +kernel
theorem dX3_wordNumber_76 : decode cX3_wordNumber 76 = .ok (.iconst 5, 1) := by decide +kernel
theorem dX3_wordNumber_77 : decode cX3_wordNumber 77 = .ok (.ireturn, 1) := by decide +kernel
theorem dX3_wordNumber_78 : decode cX3_wordNumber 78 = .ok (.aload_n 0, 1) := by decide +kernel
theorem dX3_wordNumber_79 : decode cX3_wordNumber 79 = .ok (.iload_n 1, 1) := by decide +kernel
theorem dX3_wordNumber_80 : decode cX3_wordNumber 80 = .ok (.iload_n 2, 1) := by decide +kernel
theorem dX3_wordNumber_81 : decode cX3_wordNumber 81 = .ok (.ldc 132, 2) := by decide +kernel
theorem dX3_wordNumber_83 : decode cX3_wordNumber 83 = .ok (.invokevirtual 118, 3) := by decide +kernel
theorem dX3_wordNumber_86 : decode cX3_wordNumber 86 = .ok (.ifCond .eq 6, 3) := by decide +kernel
theorem dX3_wordNumber_89 : decode cX3_wordNumber 89 = .ok (.bipush 6, 2) := by decide +kernel
theorem dX3_wordNumber_91 : decode cX3_wordNumber 91 = .ok (.ireturn, 1) := by decide +kernel
theorem dX3_wordNumber_92 : decode cX3_wordNumber 92 = .ok (.aload_n 0, 1) := by decide +kernel
theorem dX3_wordNumber_93 : decode cX3_wordNumber 93 = .ok (.iload_n 1, 1) := by decide +kernel
theorem dX3_wordNumber_94 : decode cX3_wordNumber 94 = .ok (.iload_n 2, 1) := by decide +kernel
theorem dX3_wordNumber_95 : decode cX3_wordNumber 95 = .ok (.ldc 134, 2) := by decide +kernel
theorem dX3_wordNumber_97 : decode cX3_wordNumber 97 = .ok (.invokevirtual 118, 3) := by decide +kernel
theorem dX3_wordNumber_100 : decode cX3_wordNumber 100 = .ok (.ifCond .eq 6, 3) := by decide +kernel
theorem dX3_wordNumber_103 : decode cX3_wordNumber 103 = .ok (.bipush 7, 2) := by decide +kernel
theorem dX3_wordNumber_105 : decode cX3_wordNumber 105 = .ok (.ireturn, 1) := by decide +kernel
theorem dX3_wordNumber_106 : decode cX3_wordNumber 106 = .ok (.aload_n 0, 1) := by decide +kernel
theorem dX3_wordNumber_107 : decode cX3_wordNumber 107 = .ok (.iload_n 1, 1) := by decide +kernel
theorem dX3_wordNumber_108 : decode cX3_wordNumber 108 = .ok (.iload_n 2, 1) := by decide +kernel
theorem dX3_wordNumber_109 : decode cX3_wordNumber 109 = .ok (.ldc 136, 2) := by decide +kernel
theorem dX3_wordNumber_111 : decode cX3_wordNumber 111 = .ok (.invokevirtual 118, 3) := by decide +kernel
theorem dX3_wordNumber_114 : decode cX3_wordNumber 114 = .ok (.ifCond .eq 6, 3) := by decide +kernel
theorem dX3_wordNumber_117 : decode cX3_wordNumber 117 = .ok (.bipush 8, 2) := by decide +kernel
theorem dX3_wordNumber_119 : decode cX3_wordNumber 119 = .ok (.ireturn, 1) := by decide +kernel
theorem dX3_wordNumber_120 : decode cX3_wordNumber 120 = .ok (.aload_n 0, 1) := by decide +kernel
theorem dX3_wordNumber_121 : decode cX3_wordNumber 121 = .ok (.iload_n 1, 1) := by decide +kernel
theorem dX3_wordNumber_122 : decode cX3_wordNumber 122 = .ok (.iload_n 2, 1) := by decide +kernel
theorem dX3_wordNumber_123 : decode cX3_wordNumber 123 = .ok (.ldc 138, 2) := by decide +kernel
theorem dX3_wordNumber_125 : decode cX3_wordNumber 125 = .ok (.invokevirtual 118, 3) := by decide +kernel
theorem dX3_wordNumber_128 : decode cX3_wordNumber 128 = .ok (.ifCond .eq 6, 3) := by decide +kernel
theorem dX3_wordNumber_131 : decode cX3_wordNumber 131 = .ok (.bipush 9, 2) := by decide +kernel
theorem dX3_wordNumber_133 : decode cX3_wordNumber 133 = .ok (.ireturn, 1) := by decide +kernel
theorem dX3_wordNumber_134 : decode cX3_wordNumber 134 = .ok (.aload_n 0, 1) := by decide +kernel
theorem dX3_wordNumber_135 : decode cX3_wordNumber 135 = .ok (.iload_n 1, 1) := by decide +kernel
theorem dX3_wordNumber_136 : decode cX3_wordNumber 136 = .ok (.iload_n 2, 1) := by decide +kernel
theorem dX3_wordNumber_137 : decode cX3_wordNumber 137 = .ok (.ldc 139, 2) := by decide +kernel
theorem dX3_wordNumber_139 : decode cX3_wordNumber 139 = .ok (.invokevirtual 118, 3) := by decide +kernel
theorem dX3_wordNumber_142 : decode cX3_wordNumber 142 = .ok (.ifCond .eq 6, 3) := by decide +kernel
theorem dX3_wordNumber_145 : decode cX3_wordNumber 145 = .ok (.bipush 10, 2) := by decide +kernel
theorem dX3_wordNumber_147 : decode cX3_wordNumber 147 = .ok (.ireturn, 1) := by decide +kernel
theorem dX3_wordNumber_148 : decode cX3_wordNumber 148 = .ok (.aload_n 0, 1) := by decide +kernel
theorem dX3_wordNumber_149 : decode cX3_wordNumber 149 = .ok (.iload_n 1, 1) := by decide +kernel
theorem dX3_wordNumber_150 : decode cX3_wordNumber 150 = .ok (.iload_n 2, 1) := by decide +kernel
theorem dX3_wordNumber_151 : decode cX3_wordNumber 151 = .ok (.ldc 141, 2) := by decide +kernel
theorem dX3_wordNumber_153 : decode cX3_wordNumber 153 = .ok (.invokevirtual 118, 3) := by decide +kernel
theorem dX3_wordNumber_156 : decode cX3_wordNumber 156 = .ok (.ifCond .eq 6, 3) := by decide +kernel
theorem dX3_wordNumber_159 : decode cX3_wordNumber 159 = .ok (.bipush 11, 2) := by decide +kernel
theorem dX3_wordNumber_161 : decode cX3_wordNumber 161 = .ok (.ireturn, 1) := by decide +kernel
theorem dX3_wordNumber_162 : decode cX3_wordNumber 162 = .ok (.aload_n 0, 1) := by decide +kernel
theorem dX3_wordNumber_163 : decode cX3_wordNumber 163 = .ok (.iload_n 1, 1) := by decide +kernel
theorem dX3_wordNumber_164 : decode cX3_wordNumber 164 = .ok (.iload_n 2, 1) := by decide +kernel
theorem dX3_wordNumber_165 : decode cX3_wordNumber 165 = .ok (.ldc 143, 2) := by decide +kernel
theorem dX3_wordNumber_167 : decode cX3_wordNumber 167 = .ok (.invokevirtual 118, 3) := by decide +kernel
theorem dX3_wordNumber_170 : decode cX3_wordNumber 170 = .ok (.ifCond .eq 8, 3) := by decide +kernel
theorem dX3_wordNumber_173 : decode cX3_wordNumber 173 = .ok (.bipush 12, 2) := by decide +kernel
theorem dX3_wordNumber_175 : decode cX3_wordNumber 175 = .ok (.goto 5, 3) := by decide +kernel
theorem dX3_wordNumber_178 : decode cX3_wordNumber 178 = .ok (.bipush 13, 2) := by decide +kernel
theorem dX3_wordNumber_180 : decode cX3_wordNumber 180 = .ok (.ireturn, 1) := by decide +kernel
theorem dX3_spells_0 : decode cX3_spells 0 = .ok (.iload_n 1, 1) := by decide +kernel
theorem dX3_spells_1 : decode cX3_spells 1 = .ok (.ifCond .lt 19, 3) := by decide +kernel
theorem dX3_spells_4 : decode cX3_spells 4 = .ok (.iload_n 2, 1) := by decide +kernel
theorem dX3_spells_5 : decode cX3_spells 5 = .ok (.bipush 120, 2) := by decide +kernel
theorem dX3_spells_7 : decode cX3_spells 7 = .ok (.if_icmp .gt 13, 3) := by decide +kernel
theorem dX3_spells_10 : decode cX3_spells 10 = .ok (.iload_n 2, 1) := by decide +kernel
theorem dX3_spells_11 : decode cX3_spells 11 = .ok (.iload_n 1, 1) := by decide +kernel
theorem dX3_spells_12 : decode cX3_spells 12 = .ok (.isub, 1) := by decide +kernel
theorem dX3_spells_13 : decode cX3_spells 13 = .ok (.aload_n 3, 1) := by decide +kernel
theorem dX3_spells_14 : decode cX3_spells 14 = .ok (.invokevirtual 145, 3) := by decide +kernel
theorem dX3_spells_17 : decode cX3_spells 17 = .ok (.if_icmp .eq 5, 3) := by decide +kernel
theorem dX3_spells_20 : decode cX3_spells 20 = .ok (.iconst 0, 1) := by decide +kernel
theorem dX3_spells_21 : decode cX3_spells 21 = .ok (.ireturn, 1) := by decide +kernel
theorem dX3_spells_22 : decode cX3_spells 22 = .ok (.iconst 0, 1) := by decide +kernel
theorem dX3_spells_23 : decode cX3_spells 23 = .ok (.istore 4, 2) := by decide +kernel
theorem dX3_spells_25 : decode cX3_spells 25 = .ok (.iload 4, 2) := by decide +kernel
theorem dX3_spells_27 : decode cX3_spells 27 = .ok (.aload_n 3, 1) := by decide +kernel
theorem dX3_spells_28 : decode cX3_spells 28 = .ok (.invokevirtual 145, 3) := by decide +kernel
theorem dX3_spells_31 : decode cX3_spells 31 = .ok (.if_icmp .ge 29, 3) := by decide +kernel
theorem dX3_spells_34 : decode cX3_spells 34 = .ok (.aload_n 0, 1) := by decide +kernel
theorem dX3_spells_35 : decode cX3_spells 35 = .ok (.getfield 9, 3) := by decide +kernel
theorem dX3_spells_38 : decode cX3_spells 38 = .ok (.iload_n 1, 1) := by decide +kernel
theorem dX3_spells_39 : decode cX3_spells 39 = .ok (.iload 4, 2) := by decide +kernel
theorem dX3_spells_41 : decode cX3_spells 41 = .ok (.iadd, 1) := by decide +kernel
theorem dX3_spells_42 : decode cX3_spells 42 = .ok (.iaload, 1) := by decide +kernel
theorem dX3_spells_43 : decode cX3_spells 43 = .ok (.aload_n 3, 1) := by decide +kernel
theorem dX3_spells_44 : decode cX3_spells 44 = .ok (.iload 4, 2) := by decide +kernel
theorem dX3_spells_46 : decode cX3_spells 46 = .ok (.invokevirtual 150, 3) := by decide +kernel
theorem dX3_spells_49 : decode cX3_spells 49 = .ok (.if_icmp .eq 5, 3) := by decide +kernel
theorem dX3_spells_52 : decode cX3_spells 52 = .ok (.iconst 0, 1) := by decide +kernel
theorem dX3_spells_53 : decode cX3_spells 53 = .ok (.ireturn, 1) := by decide +kernel
theorem dX3_spells_54 : decode cX3_spells 54 = .ok (.iinc 4 1, 3) := by decide +kernel
theorem dX3_spells_57 : decode cX3_spells 57 = .ok (.goto (-32), 3) := by decide +kernel
theorem dX3_spells_60 : decode cX3_spells 60 = .ok (.iconst 1, 1) := by decide +kernel
theorem dX3_spells_61 : decode cX3_spells 61 = .ok (.ireturn, 1) := by decide +kernel
theorem dX4_init_0 : decode cX4_init 0 = .ok (.aload_n 0, 1) := by decide +kernel
theorem dX4_init_1 : decode cX4_init 1 = .ok (.invokespecial 3, 3) := by decide +kernel
theorem dX4_init_4 : decode cX4_init 4 = .ok (.aload_n 0, 1) := by decide +kernel
theorem dX4_init_5 : decode cX4_init 5 = .ok (.iconst 4, 1) := by decide +kernel
theorem dX4_init_6 : decode cX4_init 6 = .ok (.bipush 40, 2) := by decide +kernel
theorem dX4_init_8 : decode cX4_init 8 = .ok (.multianewarray 9 2, 4) := by decide +kernel
theorem dX4_init_12 : decode cX4_init 12 = .ok (.putfield 11, 3) := by decide +kernel
theorem dX4_init_15 : decode cX4_init 15 = .ok (.aload_n 0, 1) := by decide +kernel
theorem dX4_init_16 : decode cX4_init 16 = .ok (.iconst 4, 1) := by decide +kernel
theorem dX4_init_17 : decode cX4_init 17 = .ok (.newarray .int, 2) := by decide +kernel
theorem dX4_init_19 : decode cX4_init 19 = .ok (.putfield 16, 3) := by decide +kernel
theorem dX4_init_22 : decode cX4_init 22 = .ok (.aload_n 0, 1) := by decide +kernel
theorem dX4_init_23 : decode cX4_init 23 = .ok (.iconst 4, 1) := by decide +kernel
theorem dX4_init_24 : decode cX4_init 24 = .ok (.newarray .int, 2) := by decide +kernel
theorem dX4_init_26 : decode cX4_init 26 = .ok (.putfield 20, 3) := by decide +kernel
theorem dX4_init_29 : decode cX4_init 29 = .ok (.return_, 1) := by decide +kernel
theorem dX4_finding_0 : decode cX4_finding 0 = .ok (.iload_n 1, 1) := by decide +kernel
theorem dX4_finding_1 : decode cX4_finding 1 = .ok (.invokestatic 23, 3) := by decide +kernel
theorem dX4_finding_4 : decode cX4_finding 4 = .ok (.ifCond .ne 6, 3) := by decide +kernel
theorem dX4_finding_7 : decode cX4_finding 7 = .ok (.ldc 27, 2) := by decide +kernel
theorem dX4_finding_9 : decode cX4_finding 9 = .ok (.ireturn, 1) := by decide +kernel
theorem dX4_finding_10 : decode cX4_finding 10 = .ok (.aload_n 0, 1) := by decide +kernel
theorem dX4_finding_11 : decode cX4_finding 11 = .ok (.getfield 16, 3) := by decide +kernel
theorem dX4_finding_14 : decode cX4_finding 14 = .ok (.iload_n 1, 1) := by decide +kernel
theorem dX4_finding_15 : decode cX4_finding 15 = .ok (.iaload, 1) := by decide +kernel
theorem dX4_finding_16 : decode cX4_finding 16 = .ok (.ifCond .ne 8, 3) := by decide +kernel
theorem dX4_finding_19 : decode cX4_finding 19 = .ok (.ldc 28, 2) := by decide +kernel
theorem dX4_finding_21 : decode cX4_finding 21 = .ok (.goto 4, 3) := by decide +kernel
theorem dX4_finding_24 : decode cX4_finding 24 = .ok (.iconst 0, 1) := by decide +kernel
theorem dX4_finding_25 : decode cX4_finding 25 = .ok (.ireturn, 1) := by decide +kernel
theorem dX4_renew_0 : decode cX4_renew 0 = .ok (.iload_n 1, 1) := by decide +kernel
theorem dX4_renew_1 : decode cX4_renew 1 = .ok (.invokestatic 23, 3) := by decide +kernel
theorem dX4_renew_4 : decode cX4_renew 4 = .ok (.ifCond .eq 53, 3) := by decide +kernel
theorem dX4_renew_7 : decode cX4_renew 7 = .ok (.iload_n 3, 1) := by decide +kernel
theorem dX4_renew_8 : decode cX4_renew 8 = .ok (.ifCond .lt 49, 3) := by decide +kernel
theorem dX4_renew_11 : decode cX4_renew 11 = .ok (.iload_n 3, 1) := by decide +kernel
theorem dX4_renew_12 : decode cX4_renew 12 = .ok (.bipush 40, 2) := by decide +kernel
theorem dX4_renew_14 : decode cX4_renew 14 = .ok (.if_icmp .gt 43, 3) := by decide +kernel
theorem dX4_renew_17 : decode cX4_renew 17 = .ok (.aload_n 0, 1) := by decide +kernel
theorem dX4_renew_18 : decode cX4_renew 18 = .ok (.getfield 16, 3) := by decide +kernel
theorem dX4_renew_21 : decode cX4_renew 21 = .ok (.iload_n 1, 1) := by decide +kernel
theorem dX4_renew_22 : decode cX4_renew 22 = .ok (.iload_n 2, 1) := by decide +kernel
theorem dX4_renew_23 : decode cX4_renew 23 = .ok (.iastore, 1) := by decide +kernel
theorem dX4_renew_24 : decode cX4_renew 24 = .ok (.aload_n 0, 1) := by decide +kernel
theorem dX4_renew_25 : decode cX4_renew 25 = .ok (.getfield 20, 3) := by decide +kernel
theorem dX4_renew_28 : decode cX4_renew 28 = .ok (.iload_n 1, 1) := by decide +kernel
theorem dX4_renew_29 : decode cX4_renew 29 = .ok (.iload_n 3, 1) := by decide +kernel
theorem dX4_renew_30 : decode cX4_renew 30 = .ok (.iastore, 1) := by decide +kernel
theorem dX4_renew_31 : decode cX4_renew 31 = .ok (.iconst 0, 1) := by decide +kernel
theorem dX4_renew_32 : decode cX4_renew 32 = .ok (.istore 4, 2) := by decide +kernel
theorem dX4_renew_34 : decode cX4_renew 34 = .ok (.iload 4, 2) := by decide +kernel
theorem dX4_renew_36 : decode cX4_renew 36 = .ok (.bipush 40, 2) := by decide +kernel
theorem dX4_renew_38 : decode cX4_renew 38 = .ok (.if_icmp .ge 19, 3) := by decide +kernel
theorem dX4_renew_41 : decode cX4_renew 41 = .ok (.aload_n 0, 1) := by decide +kernel
theorem dX4_renew_42 : decode cX4_renew 42 = .ok (.getfield 11, 3) := by decide +kernel
theorem dX4_renew_45 : decode cX4_renew 45 = .ok (.iload_n 1, 1) := by decide +kernel
theorem dX4_renew_46 : decode cX4_renew 46 = .ok (.aaload, 1) := by decide +kernel
theorem dX4_renew_47 : decode cX4_renew 47 = .ok (.iload 4, 2) := by decide +kernel
theorem dX4_renew_49 : decode cX4_renew 49 = .ok (.iconst 0, 1) := by decide +kernel
theorem dX4_renew_50 : decode cX4_renew 50 = .ok (.iastore, 1) := by decide +kernel
theorem dX4_renew_51 : decode cX4_renew 51 = .ok (.iinc 4 1, 3) := by decide +kernel
theorem dX4_renew_54 : decode cX4_renew 54 = .ok (.goto (-20), 3) := by decide +kernel
theorem dX4_renew_57 : decode cX4_renew 57 = .ok (.return_, 1) := by decide +kernel
theorem dX4_put_0 : decode cX4_put 0 = .ok (.iload_n 1, 1) := by decide +kernel
theorem dX4_put_1 : decode cX4_put 1 = .ok (.invokestatic 23, 3) := by decide +kernel
theorem dX4_put_4 : decode cX4_put 4 = .ok (.ifCond .eq 54, 3) := by decide +kernel
theorem dX4_put_7 : decode cX4_put 7 = .ok (.iload_n 2, 1) := by decide +kernel
theorem dX4_put_8 : decode cX4_put 8 = .ok (.ifCond .lt 50, 3) := by decide +kernel
theorem dX4_put_11 : decode cX4_put 11 = .ok (.iload_n 2, 1) := by decide +kernel
theorem dX4_put_12 : decode cX4_put 12 = .ok (.bipush 40, 2) := by decide +kernel
theorem dX4_put_14 : decode cX4_put 14 = .ok (.if_icmp .ge 44, 3) := by decide +kernel
theorem dX4_put_17 : decode cX4_put 17 = .ok (.aload_n 0, 1) := by decide +kernel
theorem dX4_put_18 : decode cX4_put 18 = .ok (.getfield 11, 3) := by decide +kernel
theorem dX4_put_21 : decode cX4_put 21 = .ok (.iload_n 1, 1) := by decide +kernel
theorem dX4_put_22 : decode cX4_put 22 = .ok (.aaload, 1) := by decide +kernel
theorem dX4_put_23 : decode cX4_put 23 = .ok (.iload_n 2, 1) := by decide +kernel
theorem dX4_put_24 : decode cX4_put 24 = .ok (.aload_n 0, 1) := by decide +kernel
theorem dX4_put_25 : decode cX4_put 25 = .ok (.getfield 16, 3) := by decide +kernel
theorem dX4_put_28 : decode cX4_put 28 = .ok (.iload_n 1, 1) := by decide +kernel
theorem dX4_put_29 : decode cX4_put 29 = .ok (.iaload, 1) := by decide +kernel
theorem dX4_put_30 : decode cX4_put 30 = .ok (.bipush 8, 2) := by decide +kernel
theorem dX4_put_32 : decode cX4_put 32 = .ok (.if_icmp .ne 8, 3) := by decide +kernel
theorem dX4_put_35 : decode cX4_put 35 = .ok (.iload_n 3, 1) := by decide +kernel
theorem dX4_put_36 : decode cX4_put 36 = .ok (.i2b, 1) := by decide +kernel
theorem dX4_put_37 : decode cX4_put 37 = .ok (.goto 20, 3) := by decide +kernel
theorem dX4_put_40 : decode cX4_put 40 = .ok (.aload_n 0, 1) := by decide +kernel
theorem dX4_put_41 : decode cX4_put 41 = .ok (.getfield 16, 3) := by decide +kernel
theorem dX4_put_44 : decode cX4_put 44 = .ok (.iload_n 1, 1) := by decide +kernel
theorem dX4_put_45 : decode cX4_put 45 = .ok (.iaload, 1) := by decide +kernel
theorem dX4_put_46 : decode cX4_put 46 = .ok (.bipush 16, 2) := by decide +kernel
theorem dX4_put_48 : decode cX4_put 48 = .ok (.if_icmp .ne 8, 3) := by decide +kernel
theorem dX4_put_51 : decode cX4_put 51 = .ok (.iload_n 3, 1) := by decide +kernel
theorem dX4_put_52 : decode cX4_put 52 = .ok (.i2s, 1) := by decide +kernel
theorem dX4_put_53 : decode cX4_put 53 = .ok (.goto 4, 3) := by decide +kernel
theorem dX4_put_56 : decode cX4_put 56 = .ok (.iload_n 3, 1) := by decide +kernel
theorem dX4_put_57 : decode cX4_put 57 = .ok (.iastore, 1) := by decide +kernel
theorem dX4_put_58 : decode cX4_put 58 = .ok (.return_, 1) := by decide +kernel
theorem dX4_hasPart_0 : decode cX4_hasPart 0 = .ok (.iload_n 1, 1) := by decide +kernel
theorem dX4_hasPart_1 : decode cX4_hasPart 1 = .ok (.invokestatic 23, 3) := by decide +kernel
theorem dX4_hasPart_4 : decode cX4_hasPart 4 = .ok (.ifCond .eq 37, 3) := by decide +kernel
theorem dX4_hasPart_7 : decode cX4_hasPart 7 = .ok (.iload_n 2, 1) := by decide +kernel
theorem dX4_hasPart_8 : decode cX4_hasPart 8 = .ok (.ifCond .lt 33, 3) := by decide +kernel
theorem dX4_hasPart_11 : decode cX4_hasPart 11 = .ok (.iload_n 3, 1) := by decide +kernel
theorem dX4_hasPart_12 : decode cX4_hasPart 12 = .ok (.ifCond .lt 29, 3) := by decide +kernel
theorem dX4_hasPart_15 : decode cX4_hasPart 15 = .ok (.iload_n 3, 1) := by decide +kernel
theorem dX4_hasPart_16 : decode cX4_hasPart 16 = .ok (.aload_n 0, 1) := by decide +kernel
theorem dX4_hasPart_17 : decode cX4_hasPart 17 = .ok (.getfield 20, 3) := by decide +kernel
theorem dX4_hasPart_20 : decode cX4_hasPart 20 = .ok (.iload_n 1, 1) := by decide +kernel
theorem dX4_hasPart_21 : decode cX4_hasPart 21 = .ok (.iaload, 1) := by decide +kernel
theorem dX4_hasPart_22 : decode cX4_hasPart 22 = .ok (.if_icmp .gt 19, 3) := by decide +kernel
theorem dX4_hasPart_25 : decode cX4_hasPart 25 = .ok (.iload_n 2, 1) := by decide +kernel
theorem dX4_hasPart_26 : decode cX4_hasPart 26 = .ok (.aload_n 0, 1) := by decide +kernel
theorem dX4_hasPart_27 : decode cX4_hasPart 27 = .ok (.getfield 20, 3) := by decide +kernel
theorem dX4_hasPart_30 : decode cX4_hasPart 30 = .ok (.iload_n 1, 1) := by decide +kernel
theorem dX4_hasPart_31 : decode cX4_hasPart 31 = .ok (.iaload, 1) := by decide +kernel
theorem dX4_hasPart_32 : decode cX4_hasPart 32 = .ok (.iload_n 3, 1) := by decide +kernel
theorem dX4_hasPart_33 : decode cX4_hasPart 33 = .ok (.isub, 1) := by decide +kernel
theorem dX4_hasPart_34 : decode cX4_hasPart 34 = .ok (.if_icmp .gt 7, 3) := by decide +kernel
theorem dX4_hasPart_37 : decode cX4_hasPart 37 = .ok (.iconst 1, 1) := by decide +kernel
theorem dX4_hasPart_38 : decode cX4_hasPart 38 = .ok (.goto 4, 3) := by decide +kernel
theorem dX4_hasPart_41 : decode cX4_hasPart 41 = .ok (.iconst 0, 1) := by decide +kernel
theorem dX4_hasPart_42 : decode cX4_hasPart 42 = .ok (.ireturn, 1) := by decide +kernel
theorem dX4_tells_0 : decode cX4_tells 0 = .ok (.iload_n 1, 1) := by decide +kernel
theorem dX4_tells_1 : decode cX4_tells 1 = .ok (.invokestatic 23, 3) := by decide +kernel
theorem dX4_tells_4 : decode cX4_tells 4 = .ok (.ifCond .eq 14, 3) := by decide +kernel
theorem dX4_tells_7 : decode cX4_tells 7 = .ok (.aload_n 0, 1) := by decide +kernel
theorem dX4_tells_8 : decode cX4_tells 8 = .ok (.getfield 20, 3) := by decide +kernel
theorem dX4_tells_11 : decode cX4_tells 11 = .ok (.iload_n 1, 1) := by decide +kernel
theorem dX4_tells_12 : decode cX4_tells 12 = .ok (.iaload, 1) := by decide +kernel
theorem dX4_tells_13 : decode cX4_tells 13 = .ok (.aload_n 2, 1) := by decide +kernel
theorem dX4_tells_14 : decode cX4_tells 14 = .ok (.arraylength, 1) := by decide +kernel
theorem dX4_tells_15 : decode cX4_tells 15 = .ok (.if_icmp .le 5, 3) := by decide +kernel
theorem dX4_tells_18 : decode cX4_tells 18 = .ok (.iconst 0, 1) := by decide +kernel
theorem dX4_tells_19 : decode cX4_tells 19 = .ok (.ireturn, 1) := by decide +kernel
theorem dX4_tells_20 : decode cX4_tells 20 = .ok (.iconst 0, 1) := by decide +kernel
theorem dX4_tells_21 : decode cX4_tells 21 = .ok (.istore_n 3, 1) := by decide +kernel
theorem dX4_tells_22 : decode cX4_tells 22 = .ok (.iload_n 3, 1) := by decide +kernel
theorem dX4_tells_23 : decode cX4_tells 23 = .ok (.aload_n 0, 1) := by decide +kernel
theorem dX4_tells_24 : decode cX4_tells 24 = .ok (.getfield 20, 3) := by decide +kernel
theorem dX4_tells_27 : decode cX4_tells 27 = .ok (.iload_n 1, 1) := by decide +kernel
theorem dX4_tells_28 : decode cX4_tells 28 = .ok (.iaload, 1) := by decide +kernel
theorem dX4_tells_29 : decode cX4_tells 29 = .ok (.if_icmp .ge 37, 3) := by decide +kernel
theorem dX4_tells_32 : decode cX4_tells 32 = .ok (.aload_n 0, 1) := by decide +kernel
theorem dX4_tells_33 : decode cX4_tells 33 = .ok (.getfield 11, 3) := by decide +kernel
theorem dX4_tells_36 : decode cX4_tells 36 = .ok (.iload_n 1, 1) := by decide +kernel
theorem dX4_tells_37 : decode cX4_tells 37 = .ok (.aaload, 1) := by decide +kernel
theorem dX4_tells_38 : decode cX4_tells 38 = .ok (.iload_n 3, 1) := by decide +kernel
theorem dX4_tells_39 : decode cX4_tells 39 = .ok (.iaload, 1) := by decide +kernel
theorem dX4_tells_40 : decode cX4_tells 40 = .ok (.iconst (-1), 1) := by decide +kernel
theorem dX4_tells_41 : decode cX4_tells 41 = .ok (.if_icmp .eq 19, 3) := by decide +kernel
theorem dX4_tells_44 : decode cX4_tells 44 = .ok (.aload_n 0, 1) := by decide +kernel
theorem dX4_tells_45 : decode cX4_tells 45 = .ok (.getfield 11, 3) := by decide +kernel
theorem dX4_tells_48 : decode cX4_tells 48 = .ok (.iload_n 1, 1) := by decide +kernel
theorem dX4_tells_49 : decode cX4_tells 49 = .ok (.aaload, 1) := by decide +kernel
theorem dX4_tells_50 : decode cX4_tells 50 = .ok (.iload_n 3, 1) := by decide +kernel
theorem dX4_tells_51 : decode cX4_tells 51 = .ok (.iaload, 1) := by decide +kernel
theorem dX4_tells_52 : decode cX4_tells 52 = .ok (.aload_n 2, 1) := by decide +kernel
theorem dX4_tells_53 : decode cX4_tells 53 = .ok (.iload_n 3, 1) := by decide +kernel
theorem dX4_tells_54 : decode cX4_tells 54 = .ok (.iaload, 1) := by decide +kernel
theorem dX4_tells_55 : decode cX4_tells 55 = .ok (.if_icmp .eq 5, 3) := by decide +kernel
theorem dX4_tells_58 : decode cX4_tells 58 = .ok (.iconst 0, 1) := by decide +kernel
theorem dX4_tells_59 : decode cX4_tells 59 = .ok (.ireturn, 1) := by decide +kernel
theorem dX4_tells_60 : decode cX4_tells 60 = .ok (.iinc 3 1, 3) := by decide +kernel
theorem dX4_tells_63 : decode cX4_tells 63 = .ok (.goto (-41), 3) := by decide +kernel
theorem dX4_tells_66 : decode cX4_tells 66 = .ok (.iconst 1, 1) := by decide +kernel
theorem dX4_tells_67 : decode cX4_tells 67 = .ok (.ireturn, 1) := by decide +kernel
theorem dX5_init_0 : decode cX5_init 0 = .ok (.aload_n 0, 1) := by decide +kernel
theorem dX5_init_1 : decode cX5_init 1 = .ok (.invokespecial 3, 3) := by decide +kernel
theorem dX5_init_4 : decode cX5_init 4 = .ok (.aload_n 0, 1) := by decide +kernel
theorem dX5_init_5 : decode cX5_init 5 = .ok (.bipush 12, 2) := by decide +kernel
theorem dX5_init_7 : decode cX5_init 7 = .ok (.newarray .int, 2) := by decide +kernel
theorem dX5_init_9 : decode cX5_init 9 = .ok (.putfield 9, 3) := by decide +kernel
theorem dX5_init_12 : decode cX5_init 12 = .ok (.aload_n 0, 1) := by decide +kernel
theorem dX5_init_13 : decode cX5_init 13 = .ok (.iconst 0, 1) := by decide +kernel
theorem dX5_init_14 : decode cX5_init 14 = .ok (.putfield 15, 3) := by decide +kernel
theorem dX5_init_17 : decode cX5_init 17 = .ok (.aload_n 0, 1) := by decide +kernel
theorem dX5_init_18 : decode cX5_init 18 = .ok (.bipush 50, 2) := by decide +kernel
theorem dX5_init_20 : decode cX5_init 20 = .ok (.putfield 19, 3) := by decide +kernel
theorem dX5_init_23 : decode cX5_init 23 = .ok (.aload_n 0, 1) := by decide +kernel
theorem dX5_init_24 : decode cX5_init 24 = .ok (.bipush 30, 2) := by decide +kernel
theorem dX5_init_26 : decode cX5_init 26 = .ok (.putfield 22, 3) := by decide +kernel
theorem dX5_init_29 : decode cX5_init 29 = .ok (.aload_n 0, 1) := by decide +kernel
theorem dX5_init_30 : decode cX5_init 30 = .ok (.iconst 0, 1) := by decide +kernel
theorem dX5_init_31 : decode cX5_init 31 = .ok (.putfield 25, 3) := by decide +kernel
theorem dX5_init_34 : decode cX5_init 34 = .ok (.return_, 1) := by decide +kernel
theorem dX5_become_0 : decode cX5_become 0 = .ok (.aload_n 1, 1) := by decide +kernel
theorem dX5_become_1 : decode cX5_become 1 = .ok (.iload_n 2, 1) := by decide +kernel
theorem dX5_become_2 : decode cX5_become 2 = .ok (.invokevirtual 28, 3) := by decide +kernel
theorem dX5_become_5 : decode cX5_become 5 = .ok (.ifCond .eq 41, 3) := by decide +kernel
theorem dX5_become_8 : decode cX5_become 8 = .ok (.aload_n 0, 1) := by decide +kernel
theorem dX5_become_9 : decode cX5_become 9 = .ok (.aload_n 1, 1) := by decide +kernel
theorem dX5_become_10 : decode cX5_become 10 = .ok (.getfield 34, 3) := by decide +kernel
theorem dX5_become_13 : decode cX5_become 13 = .ok (.iload_n 2, 1) := by decide +kernel
theorem dX5_become_14 : decode cX5_become 14 = .ok (.iaload, 1) := by decide +kernel
theorem dX5_become_15 : decode cX5_become 15 = .ok (.putfield 15, 3) := by decide +kernel
theorem dX5_become_18 : decode cX5_become 18 = .ok (.aload_n 0, 1) := by decide +kernel
theorem dX5_become_19 : decode cX5_become 19 = .ok (.aload_n 1, 1) := by decide +kernel
theorem dX5_become_20 : decode cX5_become 20 = .ok (.getfield 37, 3) := by decide +kernel
theorem dX5_become_23 : decode cX5_become 23 = .ok (.iload_n 2, 1) := by decide +kernel
theorem dX5_become_24 : decode cX5_become 24 = .ok (.iaload, 1) := by decide +kernel
theorem dX5_become_25 : decode cX5_become 25 = .ok (.putfield 19, 3) := by decide +kernel
theorem dX5_become_28 : decode cX5_become 28 = .ok (.aload_n 0, 1) := by decide +kernel
theorem dX5_become_29 : decode cX5_become 29 = .ok (.aload_n 1, 1) := by decide +kernel
theorem dX5_become_30 : decode cX5_become 30 = .ok (.getfield 40, 3) := by decide +kernel
theorem dX5_become_33 : decode cX5_become 33 = .ok (.iload_n 2, 1) := by decide +kernel
theorem dX5_become_34 : decode cX5_become 34 = .ok (.iaload, 1) := by decide +kernel
theorem dX5_become_35 : decode cX5_become 35 = .ok (.putfield 22, 3) := by decide +kernel
theorem dX5_become_38 : decode cX5_become 38 = .ok (.aload_n 0, 1) := by decide +kernel
theorem dX5_become_39 : decode cX5_become 39 = .ok (.aload_n 1, 1) := by decide +kernel
theorem dX5_become_40 : decode cX5_become 40 = .ok (.getfield 43, 3) := by decide +kernel
theorem dX5_become_43 : decode cX5_become 43 = .ok (.putfield 25, 3) := by decide +kernel
theorem dX5_become_46 : decode cX5_become 46 = .ok (.return_, 1) := by decide +kernel
theorem dX5_layRow_0 : decode cX5_layRow 0 = .ok (.iconst 0, 1) := by decide +kernel
theorem dX5_layRow_1 : decode cX5_layRow 1 = .ok (.istore_n 2, 1) := by decide +kernel
theorem dX5_layRow_2 : decode cX5_layRow 2 = .ok (.iload_n 2, 1) := by decide +kernel
theorem dX5_layRow_3 : decode cX5_layRow 3 = .ok (.bipush 12, 2) := by decide +kernel
theorem dX5_layRow_5 : decode cX5_layRow 5 = .ok (.if_icmp .ge 24, 3) := by decide +kernel
theorem dX5_layRow_8 : decode cX5_layRow 8 = .ok (.iload_n 2, 1) := by decide +kernel
theorem dX5_layRow_9 : decode cX5_layRow 9 = .ok (.aload_n 1, 1) := by decide +kernel
theorem dX5_layRow_10 : decode cX5_layRow 10 = .ok (.arraylength, 1) := by decide +kernel
theorem dX5_layRow_11 : decode cX5_layRow 11 = .ok (.if_icmp .ge 18, 3) := by decide +kernel
theorem dX5_layRow_14 : decode cX5_layRow 14 = .ok (.aload_n 0, 1) := by decide +kernel
theorem dX5_layRow_15 : decode cX5_layRow 15 = .ok (.getfield 9, 3) := by decide +kernel
theorem dX5_layRow_18 : decode cX5_layRow 18 = .ok (.iload_n 2, 1) := by decide +kernel
theorem dX5_layRow_19 : decode cX5_layRow 19 = .ok (.aload_n 1, 1) := by decide +kernel
theorem dX5_layRow_20 : decode cX5_layRow 20 = .ok (.iload_n 2, 1) := by decide +kernel
theorem dX5_layRow_21 : decode cX5_layRow 21 = .ok (.iaload, 1) := by decide +kernel
theorem dX5_layRow_22 : decode cX5_layRow 22 = .ok (.iastore, 1) := by decide +kernel
theorem dX5_layRow_23 : decode cX5_layRow 23 = .ok (.iinc 2 1, 3) := by decide +kernel
theorem dX5_layRow_26 : decode cX5_layRow 26 = .ok (.goto (-24), 3) := by decide +kernel
theorem dX5_layRow_29 : decode cX5_layRow 29 = .ok (.return_, 1) := by decide +kernel
theorem dX5_go_0 : decode cX5_go 0 = .ok (.aload_n 0, 1) := by decide +kernel
theorem dX5_go_1 : decode cX5_go 1 = .ok (.getfield 19, 3) := by decide +kernel
theorem dX5_go_4 : decode cX5_go 4 = .ok (.istore_n 2, 1) := by decide +kernel
theorem dX5_go_5 : decode cX5_go 5 = .ok (.aload_n 0, 1) := by decide +kernel
theorem dX5_go_6 : decode cX5_go 6 = .ok (.getfield 15, 3) := by decide +kernel
theorem dX5_go_9 : decode cX5_go 9 = .ok (.aload_n 0, 1) := by decide +kernel
theorem dX5_go_10 : decode cX5_go 10 = .ok (.getfield 22, 3) := by decide +kernel
theorem dX5_go_13 : decode cX5_go 13 = .ok (.aload_n 0, 1) := by decide +kernel
theorem dX5_go_14 : decode cX5_go 14 = .ok (.getfield 25, 3) := by decide +kernel
theorem dX5_go_17 : decode cX5_go 17 = .ok (.invokestatic 44, 3) := by decide +kernel
theorem dX5_go_20 : decode cX5_go 20 = .ok (.istore_n 3, 1) := by decide +kernel
theorem dX5_go_21 : decode cX5_go 21 = .ok (.iconst 0, 1) := by decide +kernel
theorem dX5_go_22 : decode cX5_go 22 = .ok (.istore 4, 2) := by decide +kernel
theorem dX5_go_24 : decode cX5_go 24 = .ok (.iload 4, 2) := by decide +kernel
theorem dX5_go_26 : decode cX5_go 26 = .ok (.bipush 12, 2) := by decide +kernel
theorem dX5_go_28 : decode cX5_go 28 = .ok (.if_icmp .ge 89, 3) := by decide +kernel
theorem dX5_go_31 : decode cX5_go 31 = .ok (.iload 4, 2) := by decide +kernel
theorem dX5_go_33 : decode cX5_go 33 = .ok (.aload_n 1, 1) := by decide +kernel
theorem dX5_go_34 : decode cX5_go 34 = .ok (.arraylength, 1) := by decide +kernel
theorem dX5_go_35 : decode cX5_go 35 = .ok (.if_icmp .ge 82, 3) := by decide +kernel
theorem dX5_go_38 : decode cX5_go 38 = .ok (.aload_n 1, 1) := by decide +kernel
theorem dX5_go_39 : decode cX5_go 39 = .ok (.iload 4, 2) := by decide +kernel
theorem dX5_go_41 : decode cX5_go 41 = .ok (.iaload, 1) := by decide +kernel
theorem dX5_go_42 : decode cX5_go 42 = .ok (.istore 5, 2) := by decide +kernel
theorem dX5_go_44 : decode cX5_go 44 = .ok (.aload_n 0, 1) := by decide +kernel
theorem dX5_go_45 : decode cX5_go 45 = .ok (.getfield 19, 3) := by decide +kernel
theorem dX5_go_48 : decode cX5_go 48 = .ok (.iload 5, 2) := by decide +kernel
theorem dX5_go_50 : decode cX5_go 50 = .ok (.isub, 1) := by decide +kernel
theorem dX5_go_51 : decode cX5_go 51 = .ok (.invokestatic 50, 3) := by decide +kernel
theorem dX5_go_54 : decode cX5_go 54 = .ok (.iload_n 3, 1) := by decide +kernel
theorem dX5_go_55 : decode cX5_go 55 = .ok (.if_icmp .le 11, 3) := by decide +kernel
theorem dX5_go_58 : decode cX5_go 58 = .ok (.aload_n 0, 1) := by decide +kernel
theorem dX5_go_59 : decode cX5_go 59 = .ok (.iload_n 2, 1) := by decide +kernel
theorem dX5_go_60 : decode cX5_go 60 = .ok (.putfield 19, 3) := by decide +kernel
theorem dX5_go_63 : decode cX5_go 63 = .ok (.iload 4, 2) := by decide +kernel
theorem dX5_go_65 : decode cX5_go 65 = .ok (.ireturn, 1) := by decide +kernel
theorem dX5_go_66 : decode cX5_go 66 = .ok (.aload_n 1, 1) := by decide +kernel
theorem dX5_go_67 : decode cX5_go 67 = .ok (.iload 4, 2) := by decide +kernel
theorem dX5_go_69 : decode cX5_go 69 = .ok (.aload_n 0, 1) := by decide +kernel
theorem dX5_go_70 : decode cX5_go 70 = .ok (.getfield 15, 3) := by decide +kernel
theorem dX5_go_73 : decode cX5_go 73 = .ok (.aload_n 0, 1) := by decide +kernel
theorem dX5_go_74 : decode cX5_go 74 = .ok (.getfield 19, 3) := by decide +kernel
theorem dX5_go_77 : decode cX5_go 77 = .ok (.iload 5, 2) := by decide +kernel
theorem dX5_go_79 : decode cX5_go 79 = .ok (.invokestatic 56, 3) := by decide +kernel
theorem dX5_go_82 : decode cX5_go 82 = .ok (.invokestatic 59, 3) := by decide +kernel
theorem dX5_go_85 : decode cX5_go 85 = .ok (.iastore, 1) := by decide +kernel
theorem dX5_go_86 : decode cX5_go 86 = .ok (.aload_n 0, 1) := by decide +kernel
theorem dX5_go_87 : decode cX5_go 87 = .ok (.aload_n 0, 1) := by decide +kernel
theorem dX5_go_88 : decode cX5_go 88 = .ok (.getfield 19, 3) := by decide +kernel
theorem dX5_go_91 : decode cX5_go 91 = .ok (.aload_n 0, 1) := by decide +kernel
theorem dX5_go_92 : decode cX5_go 92 = .ok (.getfield 15, 3) := by decide +kernel
theorem dX5_go_95 : decode cX5_go 95 = .ok (.aload_n 0, 1) := by decide +kernel
theorem dX5_go_96 : decode cX5_go 96 = .ok (.getfield 19, 3) := by decide +kernel
theorem dX5_go_99 : decode cX5_go 99 = .ok (.iload 5, 2) := by decide +kernel
theorem dX5_go_101 : decode cX5_go 101 = .ok (.invokestatic 62, 3) := by decide +kernel
theorem dX5_go_104 : decode cX5_go 104 = .ok (.iadd, 1) := by decide +kernel
theorem dX5_go_105 : decode cX5_go 105 = .ok (.invokestatic 59, 3) := by decide +kernel
theorem dX5_go_108 : decode cX5_go 108 = .ok (.putfield 19, 3) := by decide +kernel
theorem dX5_go_111 : decode cX5_go 111 = .ok (.iinc 4 1, 3) := by decide +kernel
theorem dX5_go_114 : decode cX5_go 114 = .ok (.goto (-90), 3) := by decide +kernel
theorem dX5_go_117 : decode cX5_go 117 = .ok (.bipush 12, 2) := by decide +kernel
theorem dX5_go_119 : decode cX5_go 119 = .ok (.ireturn, 1) := by decide +kernel
theorem dJ6_bitCount_0f7a4_0 : decode cJ6_bitCount_0f7a4 0 = .ok (.iload_n 0, 1) := by decide +kernel
theorem dJ6_bitCount_0f7a4_1 : decode cJ6_bitCount_0f7a4 1 = .ok (.iload_n 0, 1) := by decide +kernel
theorem dJ6_bitCount_0f7a4_2 : decode cJ6_bitCount_0f7a4 2 = .ok (.iconst 1, 1) := by decide +kernel
theorem dJ6_bitCount_0f7a4_3 : decode cJ6_bitCount_0f7a4 3 = .ok (.iushr, 1) := by decide +kernel
theorem dJ6_bitCount_0f7a4_4 : decode cJ6_bitCount_0f7a4 4 = .ok (.ldc_w 265, 3) := by decide +kernel
theorem dJ6_bitCount_0f7a4_7 : decode cJ6_bitCount_0f7a4 7 = .ok (.iand, 1) := by decide +kernel
theorem dJ6_bitCount_0f7a4_8 : decode cJ6_bitCount_0f7a4 8 = .ok (.isub, 1) := by decide +kernel
theorem dJ6_bitCount_0f7a4_9 : decode cJ6_bitCount_0f7a4 9 = .ok (.istore_n 0, 1) := by decide +kernel
theorem dJ6_bitCount_0f7a4_10 : decode cJ6_bitCount_0f7a4 10 = .ok (.iload_n 0, 1) := by decide +kernel
theorem dJ6_bitCount_0f7a4_11 : decode cJ6_bitCount_0f7a4 11 = .ok (.ldc_w 266, 3) := by decide +kernel
theorem dJ6_bitCount_0f7a4_14 : decode cJ6_bitCount_0f7a4 14 = .ok (.iand, 1) := by decide +kernel
theorem dJ6_bitCount_0f7a4_15 : decode cJ6_bitCount_0f7a4 15 = .ok (.iload_n 0, 1) := by decide +kernel
theorem dJ6_bitCount_0f7a4_16 : decode cJ6_bitCount_0f7a4 16 = .ok (.iconst 2, 1) := by decide +kernel
theorem dJ6_bitCount_0f7a4_17 : decode cJ6_bitCount_0f7a4 17 = .ok (.iushr, 1) := by decide +kernel
theorem dJ6_bitCount_0f7a4_18 : decode cJ6_bitCount_0f7a4 18 = .ok (.ldc_w 266, 3) := by decide +kernel
theorem dJ6_bitCount_0f7a4_21 : decode cJ6_bitCount_0f7a4 21 = .ok (.iand, 1) := by decide +kernel
theorem dJ6_bitCount_0f7a4_22 : decode cJ6_bitCount_0f7a4 22 = .ok (.iadd, 1) := by decide +kernel
theorem dJ6_bitCount_0f7a4_23 : decode cJ6_bitCount_0f7a4 23 = .ok (.istore_n 0, 1) := by decide +kernel
theorem dJ6_bitCount_0f7a4_24 : decode cJ6_bitCount_0f7a4 24 = .ok (.iload_n 0, 1) := by decide +kernel
theorem dJ6_bitCount_0f7a4_25 : decode cJ6_bitCount_0f7a4 25 = .ok (.iload_n 0, 1) := by decide +kernel
theorem dJ6_bitCount_0f7a4_26 : decode cJ6_bitCount_0f7a4 26 = .ok (.iconst 4, 1) := by decide +kernel
theorem dJ6_bitCount_0f7a4_27 : decode cJ6_bitCount_0f7a4 27 = .ok (.iushr, 1) := by decide +kernel
theorem dJ6_bitCount_0f7a4_28 : decode cJ6_bitCount_0f7a4 28 = .ok (.iadd, 1) := by decide +kernel
theorem dJ6_bitCount_0f7a4_29 : decode cJ6_bitCount_0f7a4 29 = .ok (.ldc_w 267, 3) := by decide +kernel
theorem dJ6_bitCount_0f7a4_32 : decode cJ6_bitCount_0f7a4 32 = .ok (.iand, 1) := by decide +kernel
theorem dJ6_bitCount_0f7a4_33 : decode cJ6_bitCount_0f7a4 33 = .ok (.istore_n 0, 1) := by decide +kernel
theorem dJ6_bitCount_0f7a4_34 : decode cJ6_bitCount_0f7a4 34 = .ok (.iload_n 0, 1) := by decide +kernel
theorem dJ6_bitCount_0f7a4_35 : decode cJ6_bitCount_0f7a4 35 = .ok (.iload_n 0, 1) := by decide +kernel
theorem dJ6_bitCount_0f7a4_36 : decode cJ6_bitCount_0f7a4 36 = .ok (.bipush 8, 2) := by decide +kernel
theorem dJ6_bitCount_0f7a4_38 : decode cJ6_bitCount_0f7a4 38 = .ok (.iushr, 1) := by decide +kernel
theorem dJ6_bitCount_0f7a4_39 : decode cJ6_bitCount_0f7a4 39 = .ok (.iadd, 1) := by decide +kernel
theorem dJ6_bitCount_0f7a4_40 : decode cJ6_bitCount_0f7a4 40 = .ok (.istore_n 0, 1) := by decide +kernel
theorem dJ6_bitCount_0f7a4_41 : decode cJ6_bitCount_0f7a4 41 = .ok (.iload_n 0, 1) := by decide +kernel
theorem dJ6_bitCount_0f7a4_42 : decode cJ6_bitCount_0f7a4 42 = .ok (.iload_n 0, 1) := by decide +kernel
theorem dJ6_bitCount_0f7a4_43 : decode cJ6_bitCount_0f7a4 43 = .ok (.bipush 16, 2) := by decide +kernel
theorem dJ6_bitCount_0f7a4_45 : decode cJ6_bitCount_0f7a4 45 = .ok (.iushr, 1) := by decide +kernel
theorem dJ6_bitCount_0f7a4_46 : decode cJ6_bitCount_0f7a4 46 = .ok (.iadd, 1) := by decide +kernel
theorem dJ6_bitCount_0f7a4_47 : decode cJ6_bitCount_0f7a4 47 = .ok (.istore_n 0, 1) := by decide +kernel
theorem dJ6_bitCount_0f7a4_48 : decode cJ6_bitCount_0f7a4 48 = .ok (.iload_n 0, 1) := by decide +kernel
theorem dJ6_bitCount_0f7a4_49 : decode cJ6_bitCount_0f7a4 49 = .ok (.bipush 63, 2) := by decide +kernel
theorem dJ6_bitCount_0f7a4_51 : decode cJ6_bitCount_0f7a4 51 = .ok (.iand, 1) := by decide +kernel
theorem dJ6_bitCount_0f7a4_52 : decode cJ6_bitCount_0f7a4 52 = .ok (.ireturn, 1) := by decide +kernel
theorem dJ9_abs_0f7a4_0 : decode cJ9_abs_0f7a4 0 = .ok (.iload_n 0, 1) := by decide +kernel
theorem dJ9_abs_0f7a4_1 : decode cJ9_abs_0f7a4 1 = .ok (.ifCond .ge 8, 3) := by decide +kernel
theorem dJ9_abs_0f7a4_4 : decode cJ9_abs_0f7a4 4 = .ok (.iload_n 0, 1) := by decide +kernel
theorem dJ9_abs_0f7a4_5 : decode cJ9_abs_0f7a4 5 = .ok (.ineg, 1) := by decide +kernel
theorem dJ9_abs_0f7a4_6 : decode cJ9_abs_0f7a4 6 = .ok (.goto 4, 3) := by decide +kernel
theorem dJ9_abs_0f7a4_9 : decode cJ9_abs_0f7a4 9 = .ok (.iload_n 0, 1) := by decide +kernel
theorem dJ9_abs_0f7a4_10 : decode cJ9_abs_0f7a4 10 = .ok (.ireturn, 1) := by decide +kernel
theorem dJ9_max_7cf53_0 : decode cJ9_max_7cf53 0 = .ok (.iload_n 0, 1) := by decide +kernel
theorem dJ9_max_7cf53_1 : decode cJ9_max_7cf53 1 = .ok (.iload_n 1, 1) := by decide +kernel
theorem dJ9_max_7cf53_2 : decode cJ9_max_7cf53 2 = .ok (.if_icmp .lt 7, 3) := by decide +kernel
theorem dJ9_max_7cf53_5 : decode cJ9_max_7cf53 5 = .ok (.iload_n 0, 1) := by decide +kernel
theorem dJ9_max_7cf53_6 : decode cJ9_max_7cf53 6 = .ok (.goto 4, 3) := by decide +kernel
theorem dJ9_max_7cf53_9 : decode cJ9_max_7cf53 9 = .ok (.iload_n 1, 1) := by decide +kernel
theorem dJ9_max_7cf53_10 : decode cJ9_max_7cf53 10 = .ok (.ireturn, 1) := by decide +kernel
theorem dJ9_min_7cf53_0 : decode cJ9_min_7cf53 0 = .ok (.iload_n 0, 1) := by decide +kernel
theorem dJ9_min_7cf53_1 : decode cJ9_min_7cf53 1 = .ok (.iload_n 1, 1) := by decide +kernel
theorem dJ9_min_7cf53_2 : decode cJ9_min_7cf53 2 = .ok (.if_icmp .gt 7, 3) := by decide +kernel
theorem dJ9_min_7cf53_5 : decode cJ9_min_7cf53 5 = .ok (.iload_n 0, 1) := by decide +kernel
theorem dJ9_min_7cf53_6 : decode cJ9_min_7cf53 6 = .ok (.goto 4, 3) := by decide +kernel
theorem dJ9_min_7cf53_9 : decode cJ9_min_7cf53 9 = .ok (.iload_n 1, 1) := by decide +kernel
theorem dJ9_min_7cf53_10 : decode cJ9_min_7cf53 10 = .ok (.ireturn, 1) := by decide +kernel
theorem dJ0_length_8abf5_0 : decode cJ0_length_8abf5 0 = .ok (.aload_n 0, 1) := by decide +kernel
theorem dJ0_length_8abf5_1 : decode cJ0_length_8abf5 1 = .ok (.getfield 9, 3) := by decide +kernel
theorem dJ0_length_8abf5_4 : decode cJ0_length_8abf5 4 = .ok (.arraylength, 1) := by decide +kernel
theorem dJ0_length_8abf5_5 : decode cJ0_length_8abf5 5 = .ok (.aload_n 0, 1) := by decide +kernel
theorem dJ0_length_8abf5_6 : decode cJ0_length_8abf5 6 = .ok (.invokevirtual 335, 3) := by decide +kernel
theorem dJ0_length_8abf5_9 : decode cJ0_length_8abf5 9 = .ok (.ishr, 1) := by decide +kernel
theorem dJ0_length_8abf5_10 : decode cJ0_length_8abf5 10 = .ok (.ireturn, 1) := by decide +kernel
theorem dJ0_charAt_5068e_0 : decode cJ0_charAt_5068e 0 = .ok (.aload_n 0, 1) := by decide +kernel
theorem dJ0_charAt_5068e_1 : decode cJ0_charAt_5068e 1 = .ok (.invokevirtual 492, 3) := by decide +kernel
theorem dJ0_charAt_5068e_4 : decode cJ0_charAt_5068e 4 = .ok (.ifCond .eq 12, 3) := by decide +kernel
theorem dJ0_charAt_5068e_7 : decode cJ0_charAt_5068e 7 = .ok (.aload_n 0, 1) := by decide +kernel
theorem dJ0_charAt_5068e_8 : decode cJ0_charAt_5068e 8 = .ok (.getfield 9, 3) := by decide +kernel
theorem dJ0_charAt_5068e_11 : decode cJ0_charAt_5068e 11 = .ok (.iload_n 1, 1) := by decide +kernel
theorem dJ0_charAt_5068e_12 : decode cJ0_charAt_5068e 12 = .ok (.invokestatic 495, 3) := by decide +kernel
theorem dJ0_charAt_5068e_15 : decode cJ0_charAt_5068e 15 = .ok (.ireturn, 1) := by decide +kernel
theorem dJ0_charAt_5068e_16 : decode cJ0_charAt_5068e 16 = .ok (.aload_n 0, 1) := by decide +kernel
theorem dJ0_charAt_5068e_17 : decode cJ0_charAt_5068e 17 = .ok (.getfield 9, 3) := by decide +kernel
theorem dJ0_charAt_5068e_20 : decode cJ0_charAt_5068e 20 = .ok (.iload_n 1, 1) := by decide +kernel
theorem dJ0_charAt_5068e_21 : decode cJ0_charAt_5068e 21 = .ok (.invokestatic 498, 3) := by decide +kernel
theorem dJ0_charAt_5068e_24 : decode cJ0_charAt_5068e 24 = .ok (.ireturn, 1) := by decide +kernel
theorem dJ0_coder_7d493_0 : decode cJ0_coder_7d493 0 = .ok (.getstatic 38, 3) := by decide +kernel
theorem dJ0_coder_7d493_3 : decode cJ0_coder_7d493 3 = .ok (.ifCond .eq 10, 3) := by decide +kernel
theorem dJ0_coder_7d493_6 : decode cJ0_coder_7d493 6 = .ok (.aload_n 0, 1) := by decide +kernel
theorem dJ0_coder_7d493_7 : decode cJ0_coder_7d493 7 = .ok (.getfield 15, 3) := by decide +kernel
theorem dJ0_coder_7d493_10 : decode cJ0_coder_7d493 10 = .ok (.goto 4, 3) := by decide +kernel
theorem dJ0_coder_7d493_13 : decode cJ0_coder_7d493 13 = .ok (.iconst 1, 1) := by decide +kernel
theorem dJ0_coder_7d493_14 : decode cJ0_coder_7d493 14 = .ok (.ireturn, 1) := by decide +kernel
theorem dJ0_isLatin1_aae02_0 : decode cJ0_isLatin1_aae02 0 = .ok (.getstatic 38, 3) := by decide +kernel
theorem dJ0_isLatin1_aae02_3 : decode cJ0_isLatin1_aae02 3 = .ok (.ifCond .eq 14, 3) := by decide +kernel
theorem dJ0_isLatin1_aae02_6 : decode cJ0_isLatin1_aae02 6 = .ok (.aload_n 0, 1) := by decide +kernel
theorem dJ0_isLatin1_aae02_7 : decode cJ0_isLatin1_aae02 7 = .ok (.getfield 15, 3) := by decide +kernel
theorem dJ0_isLatin1_aae02_10 : decode cJ0_isLatin1_aae02 10 = .ok (.ifCond .ne 7, 3) := by decide +kernel
theorem dJ0_isLatin1_aae02_13 : decode cJ0_isLatin1_aae02 13 = .ok (.iconst 1, 1) := by decide +kernel
theorem dJ0_isLatin1_aae02_14 : decode cJ0_isLatin1_aae02 14 = .ok (.goto 4, 3) := by decide +kernel
theorem dJ0_isLatin1_aae02_17 : decode cJ0_isLatin1_aae02 17 = .ok (.iconst 0, 1) := by decide +kernel
theorem dJ0_isLatin1_aae02_18 : decode cJ0_isLatin1_aae02 18 = .ok (.ireturn, 1) := by decide +kernel
theorem dJ0_checkIndex_df160_0 : decode cJ0_checkIndex_df160 0 = .ok (.iload_n 0, 1) := by decide +kernel
theorem dJ0_checkIndex_df160_1 : decode cJ0_checkIndex_df160 1 = .ok (.iload_n 1, 1) := by decide +kernel
theorem dJ0_checkIndex_df160_2 : decode cJ0_checkIndex_df160 2 = .ok (.getstatic 1053, 3) := by decide +kernel
theorem dJ0_checkIndex_df160_5 : decode cJ0_checkIndex_df160 5 = .ok (.invokestatic 1059, 3) := by decide +kernel
theorem dJ0_checkIndex_df160_8 : decode cJ0_checkIndex_df160 8 = .ok (.pop, 1) := by decide +kernel
theorem dJ0_checkIndex_df160_9 : decode cJ0_checkIndex_df160 9 = .ok (.return_, 1) := by decide +kernel
theorem dJ1_charAt_3b067_0 : decode cJ1_charAt_3b067 0 = .ok (.iload_n 1, 1) := by decide +kernel
theorem dJ1_charAt_3b067_1 : decode cJ1_charAt_3b067 1 = .ok (.aload_n 0, 1) := by decide +kernel
theorem dJ1_charAt_3b067_2 : decode cJ1_charAt_3b067 2 = .ok (.arraylength, 1) := by decide +kernel
theorem dJ1_charAt_3b067_3 : decode cJ1_charAt_3b067 3 = .ok (.invokestatic 9, 3) := by decide +kernel
theorem dJ1_charAt_3b067_6 : decode cJ1_charAt_3b067 6 = .ok (.aload_n 0, 1) := by decide +kernel
theorem dJ1_charAt_3b067_7 : decode cJ1_charAt_3b067 7 = .ok (.iload_n 1, 1) := by decide +kernel
theorem dJ1_charAt_3b067_8 : decode cJ1_charAt_3b067 8 = .ok (.baload, 1) := by decide +kernel
theorem dJ1_charAt_3b067_9 : decode cJ1_charAt_3b067 9 = .ok (.sipush 255, 3) := by decide +kernel
theorem dJ1_charAt_3b067_12 : decode cJ1_charAt_3b067 12 = .ok (.iand, 1) := by decide +kernel
theorem dJ1_charAt_3b067_13 : decode cJ1_charAt_3b067 13 = .ok (.i2c, 1) := by decide +kernel
theorem dJ1_charAt_3b067_14 : decode cJ1_charAt_3b067 14 = .ok (.ireturn, 1) := by decide +kernel
theorem dJ2_getChar_3b067_0 : decode cJ2_getChar_3b067 0 = .ok (.getstatic 44, 3) := by decide +kernel
theorem dJ2_getChar_3b067_3 : decode cJ2_getChar_3b067 3 = .ok (.ifCond .ne 25, 3) := by decide +kernel
theorem dJ2_getChar_3b067_6 : decode cJ2_getChar_3b067 6 = .ok (.iload_n 1, 1) := by decide +kernel
theorem dJ2_getChar_3b067_7 : decode cJ2_getChar_3b067 7 = .ok (.ifCond .lt 11, 3) := by decide +kernel
theorem dJ2_getChar_3b067_10 : decode cJ2_getChar_3b067 10 = .ok (.iload_n 1, 1) := by decide +kernel
theorem dJ2_getChar_3b067_11 : decode cJ2_getChar_3b067 11 = .ok (.aload_n 0, 1) := by decide +kernel
theorem dJ2_getChar_3b067_12 : decode cJ2_getChar_3b067 12 = .ok (.invokestatic 48, 3) := by decide +kernel
theorem dJ2_getChar_3b067_15 : decode cJ2_getChar_3b067 15 = .ok (.if_icmp .lt 13, 3) := by decide +kernel
theorem dJ2_getChar_3b067_18 : decode cJ2_getChar_3b067 18 = .ok (.new 52, 3) := by decide +kernel
theorem dJ2_getChar_3b067_21 : decode cJ2_getChar_3b067 21 = .ok (.dup, 1) := by decide +kernel
theorem dJ2_getChar_3b067_22 : decode cJ2_getChar_3b067 22 = .ok (.ldc 54, 2) := by decide +kernel
theorem dJ2_getChar_3b067_24 : decode cJ2_getChar_3b067 24 = .ok (.invokespecial 56, 3) := by decide +kernel
theorem dJ2_getChar_3b067_27 : decode cJ2_getChar_3b067 27 = .ok (.athrow, 1) := by decide +kernel
theorem dJ2_getChar_3b067_28 : decode cJ2_getChar_3b067 28 = .ok (.iload_n 1, 1) := by decide +kernel
theorem dJ2_getChar_3b067_29 : decode cJ2_getChar_3b067 29 = .ok (.iconst 1, 1) := by decide +kernel
theorem dJ2_getChar_3b067_30 : decode cJ2_getChar_3b067 30 = .ok (.ishl, 1) := by decide +kernel
theorem dJ2_getChar_3b067_31 : decode cJ2_getChar_3b067 31 = .ok (.istore_n 1, 1) := by decide +kernel
theorem dJ2_getChar_3b067_32 : decode cJ2_getChar_3b067 32 = .ok (.aload_n 0, 1) := by decide +kernel
theorem dJ2_getChar_3b067_33 : decode cJ2_getChar_3b067 33 = .ok (.iload_n 1, 1) := by decide +kernel
theorem dJ2_getChar_3b067_34 : decode cJ2_getChar_3b067 34 = .ok (.iinc 1 1, 3) := by decide +kernel
theorem dJ2_getChar_3b067_37 : decode cJ2_getChar_3b067 37 = .ok (.baload, 1) := by decide +kernel
theorem dJ2_getChar_3b067_38 : decode cJ2_getChar_3b067 38 = .ok (.sipush 255, 3) := by decide +kernel
theorem dJ2_getChar_3b067_41 : decode cJ2_getChar_3b067 41 = .ok (.iand, 1) := by decide +kernel
theorem dJ2_getChar_3b067_42 : decode cJ2_getChar_3b067 42 = .ok (.getstatic 59, 3) := by decide +kernel
theorem dJ2_getChar_3b067_45 : decode cJ2_getChar_3b067 45 = .ok (.ishl, 1) := by decide +kernel
theorem dJ2_getChar_3b067_46 : decode cJ2_getChar_3b067 46 = .ok (.aload_n 0, 1) := by decide +kernel
theorem dJ2_getChar_3b067_47 : decode cJ2_getChar_3b067 47 = .ok (.iload_n 1, 1) := by decide +kernel
theorem dJ2_getChar_3b067_48 : decode cJ2_getChar_3b067 48 = .ok (.baload, 1) := by decide +kernel
theorem dJ2_getChar_3b067_49 : decode cJ2_getChar_3b067 49 = .ok (.sipush 255, 3) := by decide +kernel
theorem dJ2_getChar_3b067_52 : decode cJ2_getChar_3b067 52 = .ok (.iand, 1) := by decide +kernel
theorem dJ2_getChar_3b067_53 : decode cJ2_getChar_3b067 53 = .ok (.getstatic 63, 3) := by decide +kernel
theorem dJ2_getChar_3b067_56 : decode cJ2_getChar_3b067 56 = .ok (.ishl, 1) := by decide +kernel
theorem dJ2_getChar_3b067_57 : decode cJ2_getChar_3b067 57 = .ok (.ior, 1) := by decide +kernel
theorem dJ2_getChar_3b067_58 : decode cJ2_getChar_3b067 58 = .ok (.i2c, 1) := by decide +kernel
theorem dJ2_getChar_3b067_59 : decode cJ2_getChar_3b067 59 = .ok (.ireturn, 1) := by decide +kernel
theorem dJ2_length_9d52b_0 : decode cJ2_length_9d52b 0 = .ok (.aload_n 0, 1) := by decide +kernel
theorem dJ2_length_9d52b_1 : decode cJ2_length_9d52b 1 = .ok (.arraylength, 1) := by decide +kernel
theorem dJ2_length_9d52b_2 : decode cJ2_length_9d52b 2 = .ok (.iconst 1, 1) := by decide +kernel
theorem dJ2_length_9d52b_3 : decode cJ2_length_9d52b 3 = .ok (.ishr, 1) := by decide +kernel
theorem dJ2_length_9d52b_4 : decode cJ2_length_9d52b 4 = .ok (.ireturn, 1) := by decide +kernel
theorem dJ2_charAt_3b067_0 : decode cJ2_charAt_3b067 0 = .ok (.iload_n 1, 1) := by decide +kernel
theorem dJ2_charAt_3b067_1 : decode cJ2_charAt_3b067 1 = .ok (.aload_n 0, 1) := by decide +kernel
theorem dJ2_charAt_3b067_2 : decode cJ2_charAt_3b067 2 = .ok (.invokestatic 67, 3) := by decide +kernel
theorem dJ2_charAt_3b067_5 : decode cJ2_charAt_3b067 5 = .ok (.aload_n 0, 1) := by decide +kernel
theorem dJ2_charAt_3b067_6 : decode cJ2_charAt_3b067 6 = .ok (.iload_n 1, 1) := by decide +kernel
theorem dJ2_charAt_3b067_7 : decode cJ2_charAt_3b067 7 = .ok (.invokestatic 71, 3) := by decide +kernel
theorem dJ2_charAt_3b067_10 : decode cJ2_charAt_3b067 10 = .ok (.ireturn, 1) := by decide +kernel
theorem dJ2_checkIndex_2214a_0 : decode cJ2_checkIndex_2214a 0 = .ok (.iload_n 0, 1) := by decide +kernel
theorem dJ2_checkIndex_2214a_1 : decode cJ2_checkIndex_2214a 1 = .ok (.aload_n 1, 1) := by decide +kernel
theorem dJ2_checkIndex_2214a_2 : decode cJ2_checkIndex_2214a 2 = .ok (.invokestatic 48, 3) := by decide +kernel
theorem dJ2_checkIndex_2214a_5 : decode cJ2_checkIndex_2214a 5 = .ok (.invokestatic 414, 3) := by decide +kernel
theorem dJ2_checkIndex_2214a_8 : decode cJ2_checkIndex_2214a 8 = .ok (.return_, 1) := by decide +kernel
theorem dJ3_checkIndex_8e157_0 : decode cJ3_checkIndex_8e157 0 = .ok (.iload_n 0, 1) := by decide +kernel
theorem dJ3_checkIndex_8e157_1 : decode cJ3_checkIndex_8e157 1 = .ok (.ifCond .lt 8, 3) := by decide +kernel
theorem dJ3_checkIndex_8e157_4 : decode cJ3_checkIndex_8e157 4 = .ok (.iload_n 0, 1) := by decide +kernel
theorem dJ3_checkIndex_8e157_5 : decode cJ3_checkIndex_8e157 5 = .ok (.iload_n 1, 1) := by decide +kernel
theorem dJ3_checkIndex_8e157_6 : decode cJ3_checkIndex_8e157 6 = .ok (.if_icmp .lt 10, 3) := by decide +kernel
theorem dJ3_checkIndex_8e157_9 : decode cJ3_checkIndex_8e157 9 = .ok (.aload_n 2, 1) := by decide +kernel
theorem dJ3_checkIndex_8e157_10 : decode cJ3_checkIndex_8e157 10 = .ok (.iload_n 0, 1) := by decide +kernel
theorem dJ3_checkIndex_8e157_11 : decode cJ3_checkIndex_8e157 11 = .ok (.iload_n 1, 1) := by decide +kernel
theorem dJ3_checkIndex_8e157_12 : decode cJ3_checkIndex_8e157 12 = .ok (.invokestatic 95, 3) := by decide +kernel
theorem dJ3_checkIndex_8e157_15 : decode cJ3_checkIndex_8e157 15 = .ok (.athrow, 1) := by decide +kernel
theorem dJ3_checkIndex_8e157_16 : decode cJ3_checkIndex_8e157 16 = .ok (.iload_n 0, 1) := by decide +kernel
theorem dJ3_checkIndex_8e157_17 : decode cJ3_checkIndex_8e157 17 = .ok (.ireturn, 1) := by decide +kernel
