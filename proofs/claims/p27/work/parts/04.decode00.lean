theorem dX0_init_0 : decode cX0_init 0 = .ok (.aload_n 0, 1) := by decide +kernel
theorem dX0_init_1 : decode cX0_init 1 = .ok (.invokespecial 3, 3) := by decide +kernel
theorem dX0_init_4 : decode cX0_init 4 = .ok (.aload_n 0, 1) := by decide +kernel
theorem dX0_init_5 : decode cX0_init 5 = .ok (.iconst 5, 1) := by decide +kernel
theorem dX0_init_6 : decode cX0_init 6 = .ok (.newarray .int, 2) := by decide +kernel
theorem dX0_init_8 : decode cX0_init 8 = .ok (.putfield 9, 3) := by decide +kernel
theorem dX0_init_11 : decode cX0_init 11 = .ok (.aload_n 0, 1) := by decide +kernel
theorem dX0_init_12 : decode cX0_init 12 = .ok (.iconst 5, 1) := by decide +kernel
theorem dX0_init_13 : decode cX0_init 13 = .ok (.newarray .int, 2) := by decide +kernel
theorem dX0_init_15 : decode cX0_init 15 = .ok (.putfield 15, 3) := by decide +kernel
theorem dX0_init_18 : decode cX0_init 18 = .ok (.aload_n 0, 1) := by decide +kernel
theorem dX0_init_19 : decode cX0_init 19 = .ok (.iconst 5, 1) := by decide +kernel
theorem dX0_init_20 : decode cX0_init 20 = .ok (.newarray .int, 2) := by decide +kernel
theorem dX0_init_22 : decode cX0_init 22 = .ok (.putfield 18, 3) := by decide +kernel
theorem dX0_init_25 : decode cX0_init 25 = .ok (.return_, 1) := by decide +kernel
theorem dX0_findBest_0 : decode cX0_findBest 0 = .ok (.aload_n 0, 1) := by decide +kernel
theorem dX0_findBest_1 : decode cX0_findBest 1 = .ok (.iload_n 2, 1) := by decide +kernel
theorem dX0_findBest_2 : decode cX0_findBest 2 = .ok (.iconst 5, 1) := by decide +kernel
theorem dX0_findBest_3 : decode cX0_findBest 3 = .ok (.invokestatic 21, 3) := by decide +kernel
theorem dX0_findBest_6 : decode cX0_findBest 6 = .ok (.putfield 27, 3) := by decide +kernel
theorem dX0_findBest_9 : decode cX0_findBest 9 = .ok (.iconst 0, 1) := by decide +kernel
theorem dX0_findBest_10 : decode cX0_findBest 10 = .ok (.istore_n 3, 1) := by decide +kernel
theorem dX0_findBest_11 : decode cX0_findBest 11 = .ok (.iload_n 3, 1) := by decide +kernel
theorem dX0_findBest_12 : decode cX0_findBest 12 = .ok (.aload_n 0, 1) := by decide +kernel
theorem dX0_findBest_13 : decode cX0_findBest 13 = .ok (.getfield 27, 3) := by decide +kernel
theorem dX0_findBest_16 : decode cX0_findBest 16 = .ok (.if_icmp .ge 24, 3) := by decide +kernel
theorem dX0_findBest_19 : decode cX0_findBest 19 = .ok (.iload_n 3, 1) := by decide +kernel
theorem dX0_findBest_20 : decode cX0_findBest 20 = .ok (.aload_n 1, 1) := by decide +kernel
theorem dX0_findBest_21 : decode cX0_findBest 21 = .ok (.arraylength, 1) := by decide +kernel
theorem dX0_findBest_22 : decode cX0_findBest 22 = .ok (.if_icmp .ge 18, 3) := by decide +kernel
theorem dX0_findBest_25 : decode cX0_findBest 25 = .ok (.aload_n 0, 1) := by decide +kernel
theorem dX0_findBest_26 : decode cX0_findBest 26 = .ok (.getfield 9, 3) := by decide +kernel
theorem dX0_findBest_29 : decode cX0_findBest 29 = .ok (.iload_n 3, 1) := by decide +kernel
theorem dX0_findBest_30 : decode cX0_findBest 30 = .ok (.aload_n 1, 1) := by decide +kernel
theorem dX0_findBest_31 : decode cX0_findBest 31 = .ok (.iload_n 3, 1) := by decide +kernel
theorem dX0_findBest_32 : decode cX0_findBest 32 = .ok (.iaload, 1) := by decide +kernel
theorem dX0_findBest_33 : decode cX0_findBest 33 = .ok (.iastore, 1) := by decide +kernel
theorem dX0_findBest_34 : decode cX0_findBest 34 = .ok (.iinc 3 1, 3) := by decide +kernel
theorem dX0_findBest_37 : decode cX0_findBest 37 = .ok (.goto (-26), 3) := by decide +kernel
theorem dX0_findBest_40 : decode cX0_findBest 40 = .ok (.aload_n 0, 1) := by decide +kernel
theorem dX0_findBest_41 : decode cX0_findBest 41 = .ok (.bipush 101, 2) := by decide +kernel
theorem dX0_findBest_43 : decode cX0_findBest 43 = .ok (.putfield 31, 3) := by decide +kernel
theorem dX0_findBest_46 : decode cX0_findBest 46 = .ok (.aload_n 0, 1) := by decide +kernel
theorem dX0_findBest_47 : decode cX0_findBest 47 = .ok (.iconst 0, 1) := by decide +kernel
theorem dX0_findBest_48 : decode cX0_findBest 48 = .ok (.iconst 0, 1) := by decide +kernel
theorem dX0_findBest_49 : decode cX0_findBest 49 = .ok (.iconst 0, 1) := by decide +kernel
theorem dX0_findBest_50 : decode cX0_findBest 50 = .ok (.iconst 0, 1) := by decide +kernel
theorem dX0_findBest_51 : decode cX0_findBest 51 = .ok (.invokevirtual 34, 3) := by decide +kernel
theorem dX0_findBest_54 : decode cX0_findBest 54 = .ok (.return_, 1) := by decide +kernel
theorem dX0_ringFrom_0 : decode cX0_ringFrom 0 = .ok (.iload 4, 2) := by decide +kernel
theorem dX0_ringFrom_2 : decode cX0_ringFrom 2 = .ok (.aload_n 0, 1) := by decide +kernel
theorem dX0_ringFrom_3 : decode cX0_ringFrom 3 = .ok (.getfield 31, 3) := by decide +kernel
theorem dX0_ringFrom_6 : decode cX0_ringFrom 6 = .ok (.if_icmp .lt 4, 3) := by decide +kernel
theorem dX0_ringFrom_9 : decode cX0_ringFrom 9 = .ok (.return_, 1) := by decide +kernel
theorem dX0_ringFrom_10 : decode cX0_ringFrom 10 = .ok (.iload_n 1, 1) := by decide +kernel
theorem dX0_ringFrom_11 : decode cX0_ringFrom 11 = .ok (.aload_n 0, 1) := by decide +kernel
theorem dX0_ringFrom_12 : decode cX0_ringFrom 12 = .ok (.getfield 27, 3) := by decide +kernel
theorem dX0_ringFrom_15 : decode cX0_ringFrom 15 = .ok (.if_icmp .lt 27, 3) := by decide +kernel
theorem dX0_ringFrom_18 : decode cX0_ringFrom 18 = .ok (.aload_n 0, 1) := by decide +kernel
theorem dX0_ringFrom_19 : decode cX0_ringFrom 19 = .ok (.iload 4, 2) := by decide +kernel
theorem dX0_ringFrom_21 : decode cX0_ringFrom 21 = .ok (.putfield 31, 3) := by decide +kernel
theorem dX0_ringFrom_24 : decode cX0_ringFrom 24 = .ok (.aload_n 0, 1) := by decide +kernel
theorem dX0_ringFrom_25 : decode cX0_ringFrom 25 = .ok (.getfield 15, 3) := by decide +kernel
theorem dX0_ringFrom_28 : decode cX0_ringFrom 28 = .ok (.iconst 0, 1) := by decide +kernel
theorem dX0_ringFrom_29 : decode cX0_ringFrom 29 = .ok (.aload_n 0, 1) := by decide +kernel
theorem dX0_ringFrom_30 : decode cX0_ringFrom 30 = .ok (.getfield 18, 3) := by decide +kernel
theorem dX0_ringFrom_33 : decode cX0_ringFrom 33 = .ok (.iconst 0, 1) := by decide +kernel
theorem dX0_ringFrom_34 : decode cX0_ringFrom 34 = .ok (.aload_n 0, 1) := by decide +kernel
theorem dX0_ringFrom_35 : decode cX0_ringFrom 35 = .ok (.getfield 27, 3) := by decide +kernel
theorem dX0_ringFrom_38 : decode cX0_ringFrom 38 = .ok (.invokestatic 38, 3) := by decide +kernel
theorem dX0_ringFrom_41 : decode cX0_ringFrom 41 = .ok (.return_, 1) := by decide +kernel
theorem dX0_ringFrom_42 : decode cX0_ringFrom 42 = .ok (.iconst 0, 1) := by decide +kernel
theorem dX0_ringFrom_43 : decode cX0_ringFrom 43 = .ok (.istore 5, 2) := by decide +kernel
theorem dX0_ringFrom_45 : decode cX0_ringFrom 45 = .ok (.iload 5, 2) := by decide +kernel
theorem dX0_ringFrom_47 : decode cX0_ringFrom 47 = .ok (.aload_n 0, 1) := by decide +kernel
theorem dX0_ringFrom_48 : decode cX0_ringFrom 48 = .ok (.getfield 27, 3) := by decide +kernel
theorem dX0_ringFrom_51 : decode cX0_ringFrom 51 = .ok (.if_icmp .ge 84, 3) := by decide +kernel
theorem dX0_ringFrom_54 : decode cX0_ringFrom 54 = .ok (.iload_n 2, 1) := by decide +kernel
theorem dX0_ringFrom_55 : decode cX0_ringFrom 55 = .ok (.iload 5, 2) := by decide +kernel
theorem dX0_ringFrom_57 : decode cX0_ringFrom 57 = .ok (.ishr, 1) := by decide +kernel
theorem dX0_ringFrom_58 : decode cX0_ringFrom 58 = .ok (.iconst 1, 1) := by decide +kernel
theorem dX0_ringFrom_59 : decode cX0_ringFrom 59 = .ok (.iand, 1) := by decide +kernel
theorem dX0_ringFrom_60 : decode cX0_ringFrom 60 = .ok (.ifCond .ne 69, 3) := by decide +kernel
theorem dX0_ringFrom_63 : decode cX0_ringFrom 63 = .ok (.aload_n 0, 1) := by decide +kernel
theorem dX0_ringFrom_64 : decode cX0_ringFrom 64 = .ok (.getfield 15, 3) := by decide +kernel
theorem dX0_ringFrom_67 : decode cX0_ringFrom 67 = .ok (.iload_n 1, 1) := by decide +kernel
theorem dX0_ringFrom_68 : decode cX0_ringFrom 68 = .ok (.iload 5, 2) := by decide +kernel
theorem dX0_ringFrom_70 : decode cX0_ringFrom 70 = .ok (.iastore, 1) := by decide +kernel
theorem dX0_ringFrom_71 : decode cX0_ringFrom 71 = .ok (.iload_n 1, 1) := by decide +kernel
theorem dX0_ringFrom_72 : decode cX0_ringFrom 72 = .ok (.iconst 2, 1) := by decide +kernel
theorem dX0_ringFrom_73 : decode cX0_ringFrom 73 = .ok (.irem, 1) := by decide +kernel
theorem dX0_ringFrom_74 : decode cX0_ringFrom 74 = .ok (.ifCond .ne 15, 3) := by decide +kernel
theorem dX0_ringFrom_77 : decode cX0_ringFrom 77 = .ok (.iload_n 3, 1) := by decide +kernel
theorem dX0_ringFrom_78 : decode cX0_ringFrom 78 = .ok (.aload_n 0, 1) := by decide +kernel
theorem dX0_ringFrom_79 : decode cX0_ringFrom 79 = .ok (.getfield 9, 3) := by decide +kernel
theorem dX0_ringFrom_82 : decode cX0_ringFrom 82 = .ok (.iload 5, 2) := by decide +kernel
theorem dX0_ringFrom_84 : decode cX0_ringFrom 84 = .ok (.iaload, 1) := by decide +kernel
theorem dX0_ringFrom_85 : decode cX0_ringFrom 85 = .ok (.iadd, 1) := by decide +kernel
theorem dX0_ringFrom_86 : decode cX0_ringFrom 86 = .ok (.goto 12, 3) := by decide +kernel
theorem dX0_ringFrom_89 : decode cX0_ringFrom 89 = .ok (.iload_n 3, 1) := by decide +kernel
theorem dX0_ringFrom_90 : decode cX0_ringFrom 90 = .ok (.aload_n 0, 1) := by decide +kernel
theorem dX0_ringFrom_91 : decode cX0_ringFrom 91 = .ok (.getfield 9, 3) := by decide +kernel
theorem dX0_ringFrom_94 : decode cX0_ringFrom 94 = .ok (.iload 5, 2) := by decide +kernel
theorem dX0_ringFrom_96 : decode cX0_ringFrom 96 = .ok (.iaload, 1) := by decide +kernel
theorem dX0_ringFrom_97 : decode cX0_ringFrom 97 = .ok (.isub, 1) := by decide +kernel
theorem dX0_ringFrom_98 : decode cX0_ringFrom 98 = .ok (.istore 6, 2) := by decide +kernel
theorem dX0_ringFrom_100 : decode cX0_ringFrom 100 = .ok (.iload 4, 2) := by decide +kernel
theorem dX0_ringFrom_102 : decode cX0_ringFrom 102 = .ok (.iload 6, 2) := by decide +kernel
theorem dX0_ringFrom_104 : decode cX0_ringFrom 104 = .ok (.invokestatic 44, 3) := by decide +kernel
theorem dX0_ringFrom_107 : decode cX0_ringFrom 107 = .ok (.invokestatic 48, 3) := by decide +kernel
theorem dX0_ringFrom_110 : decode cX0_ringFrom 110 = .ok (.istore 7, 2) := by decide +kernel
theorem dX0_ringFrom_112 : decode cX0_ringFrom 112 = .ok (.aload_n 0, 1) := by decide +kernel
theorem dX0_ringFrom_113 : decode cX0_ringFrom 113 = .ok (.iload_n 1, 1) := by decide +kernel
theorem dX0_ringFrom_114 : decode cX0_ringFrom 114 = .ok (.iconst 1, 1) := by decide +kernel
theorem dX0_ringFrom_115 : decode cX0_ringFrom 115 = .ok (.iadd, 1) := by decide +kernel
theorem dX0_ringFrom_116 : decode cX0_ringFrom 116 = .ok (.iload_n 2, 1) := by decide +kernel
theorem dX0_ringFrom_117 : decode cX0_ringFrom 117 = .ok (.iconst 1, 1) := by decide +kernel
theorem dX0_ringFrom_118 : decode cX0_ringFrom 118 = .ok (.iload 5, 2) := by decide +kernel
theorem dX0_ringFrom_120 : decode cX0_ringFrom 120 = .ok (.ishl, 1) := by decide +kernel
theorem dX0_ringFrom_121 : decode cX0_ringFrom 121 = .ok (.ior, 1) := by decide +kernel
theorem dX0_ringFrom_122 : decode cX0_ringFrom 122 = .ok (.iload 6, 2) := by decide +kernel
theorem dX0_ringFrom_124 : decode cX0_ringFrom 124 = .ok (.iload 7, 2) := by decide +kernel
theorem dX0_ringFrom_126 : decode cX0_ringFrom 126 = .ok (.invokevirtual 34, 3) := by decide +kernel
theorem dX0_ringFrom_129 : decode cX0_ringFrom 129 = .ok (.iinc 5 1, 3) := by decide +kernel
theorem dX0_ringFrom_132 : decode cX0_ringFrom 132 = .ok (.goto (-87), 3) := by decide +kernel
theorem dX0_ringFrom_135 : decode cX0_ringFrom 135 = .ok (.return_, 1) := by decide +kernel
theorem dX1_init_0 : decode cX1_init 0 = .ok (.aload_n 0, 1) := by decide +kernel
theorem dX1_init_1 : decode cX1_init 1 = .ok (.iload_n 1, 1) := by decide +kernel
theorem dX1_init_2 : decode cX1_init 2 = .ok (.iload_n 2, 1) := by decide +kernel
theorem dX1_init_3 : decode cX1_init 3 = .ok (.iconst 5, 1) := by decide +kernel
theorem dX1_init_4 : decode cX1_init 4 = .ok (.iadd, 1) := by decide +kernel
theorem dX1_init_5 : decode cX1_init 5 = .ok (.iload_n 3, 1) := by decide +kernel
theorem dX1_init_6 : decode cX1_init 6 = .ok (.invokespecial 3, 3) := by decide +kernel
theorem dX1_init_9 : decode cX1_init 9 = .ok (.return_, 1) := by decide +kernel
theorem dX1_ownKind_0 : decode cX1_ownKind 0 = .ok (.iconst 5, 1) := by decide +kernel
theorem dX1_ownKind_1 : decode cX1_ownKind 1 = .ok (.ireturn, 1) := by decide +kernel
theorem dX1_stride_0 : decode cX1_stride 0 = .ok (.iconst 1, 1) := by decide +kernel
theorem dX1_stride_1 : decode cX1_stride 1 = .ok (.ireturn, 1) := by decide +kernel
theorem dX1_size_0 : decode cX1_size 0 = .ok (.aload_n 1, 1) := by decide +kernel
theorem dX1_size_1 : decode cX1_size 1 = .ok (.bipush 14, 2) := by decide +kernel
theorem dX1_size_3 : decode cX1_size 3 = .ok (.invokevirtual 9, 3) := by decide +kernel
theorem dX1_size_6 : decode cX1_size 6 = .ok (.iconst 2, 1) := by decide +kernel
theorem dX1_size_7 : decode cX1_size 7 = .ok (.aload_n 0, 1) := by decide +kernel
theorem dX1_size_8 : decode cX1_size 8 = .ok (.aload_n 1, 1) := by decide +kernel
theorem dX1_size_9 : decode cX1_size 9 = .ok (.invokespecial 15, 3) := by decide +kernel
theorem dX1_size_12 : decode cX1_size 12 = .ok (.imul, 1) := by decide +kernel
theorem dX1_size_13 : decode cX1_size 13 = .ok (.ireturn, 1) := by decide +kernel
theorem dX2_init_0 : decode cX2_init 0 = .ok (.aload_n 0, 1) := by decide +kernel
theorem dX2_init_1 : decode cX2_init 1 = .ok (.iload_n 1, 1) := by decide +kernel
theorem dX2_init_2 : decode cX2_init 2 = .ok (.iload_n 2, 1) := by decide +kernel
theorem dX2_init_3 : decode cX2_init 3 = .ok (.iconst 2, 1) := by decide +kernel
theorem dX2_init_4 : decode cX2_init 4 = .ok (.idiv, 1) := by decide +kernel
theorem dX2_init_5 : decode cX2_init 5 = .ok (.iload_n 3, 1) := by decide +kernel
theorem dX2_init_6 : decode cX2_init 6 = .ok (.invokespecial 3, 3) := by decide +kernel
theorem dX2_init_9 : decode cX2_init 9 = .ok (.return_, 1) := by decide +kernel
theorem dX2_ownKind_0 : decode cX2_ownKind 0 = .ok (.iconst 3, 1) := by decide +kernel
theorem dX2_ownKind_1 : decode cX2_ownKind 1 = .ok (.ireturn, 1) := by decide +kernel
theorem dX2_size_0 : decode cX2_size 0 = .ok (.aload_n 1, 1) := by decide +kernel
theorem dX2_size_1 : decode cX2_size 1 = .ok (.bipush 12, 2) := by decide +kernel
theorem dX2_size_3 : decode cX2_size 3 = .ok (.invokevirtual 9, 3) := by decide +kernel
theorem dX2_size_6 : decode cX2_size 6 = .ok (.aload_n 0, 1) := by decide +kernel
theorem dX2_size_7 : decode cX2_size 7 = .ok (.aload_n 1, 1) := by decide +kernel
theorem dX2_size_8 : decode cX2_size 8 = .ok (.invokespecial 15, 3) := by decide +kernel
theorem dX2_size_11 : decode cX2_size 11 = .ok (.ineg, 1) := by decide +kernel
theorem dX2_size_12 : decode cX2_size 12 = .ok (.ireturn, 1) := by decide +kernel
theorem dX2_mark_0 : decode cX2_mark 0 = .ok (.aload_n 1, 1) := by decide +kernel
theorem dX2_mark_1 : decode cX2_mark 1 = .ok (.bipush 24, 2) := by decide +kernel
theorem dX2_mark_3 : decode cX2_mark 3 = .ok (.invokevirtual 9, 3) := by decide +kernel
theorem dX2_mark_6 : decode cX2_mark 6 = .ok (.iconst 2, 1) := by decide +kernel
theorem dX2_mark_7 : decode cX2_mark 7 = .ok (.aload_n 0, 1) := by decide +kernel
theorem dX2_mark_8 : decode cX2_mark 8 = .ok (.aload_n 1, 1) := by decide +kernel
theorem dX2_mark_9 : decode cX2_mark 9 = .ok (.invokespecial 19, 3) := by decide +kernel
theorem dX2_mark_12 : decode cX2_mark 12 = .ok (.imul, 1) := by decide +kernel
theorem dX2_mark_13 : decode cX2_mark 13 = .ok (.ireturn, 1) := by decide +kernel
theorem dX3_init_0 : decode cX3_init 0 = .ok (.aload_n 0, 1) := by decide +kernel
theorem dX3_init_1 : decode cX3_init 1 = .ok (.iload_n 1, 1) := by decide +kernel
theorem dX3_init_2 : decode cX3_init 2 = .ok (.iload_n 2, 1) := by decide +kernel
theorem dX3_init_3 : decode cX3_init 3 = .ok (.iload_n 3, 1) := by decide +kernel
theorem dX3_init_4 : decode cX3_init 4 = .ok (.invokespecial 3, 3) := by decide +kernel
theorem dX3_init_7 : decode cX3_init 7 = .ok (.return_, 1) := by decide +kernel
theorem dX3_ownKind_0 : decode cX3_ownKind 0 = .ok (.iconst 4, 1) := by decide +kernel
theorem dX3_ownKind_1 : decode cX3_ownKind 1 = .ok (.ireturn, 1) := by decide +kernel
theorem dX3_stride_0 : decode cX3_stride 0 = .ok (.iconst 2, 1) := by decide +kernel
theorem dX3_stride_1 : decode cX3_stride 1 = .ok (.ireturn, 1) := by decide +kernel
theorem dX3_size_0 : decode cX3_size 0 = .ok (.aload_n 1, 1) := by decide +kernel
theorem dX3_size_1 : decode cX3_size 1 = .ok (.bipush 13, 2) := by decide +kernel
theorem dX3_size_3 : decode cX3_size 3 = .ok (.invokevirtual 9, 3) := by decide +kernel
theorem dX3_size_6 : decode cX3_size 6 = .ok (.aload_n 0, 1) := by decide +kernel
theorem dX3_size_7 : decode cX3_size 7 = .ok (.aload_n 1, 1) := by decide +kernel
theorem dX3_size_8 : decode cX3_size 8 = .ok (.invokespecial 15, 3) := by decide +kernel
theorem dX3_size_11 : decode cX3_size 11 = .ok (.bipush 100, 2) := by decide +kernel
theorem dX3_size_13 : decode cX3_size 13 = .ok (.isub, 1) := by decide +kernel
theorem dX3_size_14 : decode cX3_size 14 = .ok (.ireturn, 1) := by decide +kernel
theorem dX3_mark_0 : decode cX3_mark 0 = .ok (.aload_n 1, 1) := by decide +kernel
theorem dX3_mark_1 : decode cX3_mark 1 = .ok (.bipush 23, 2) := by decide +kernel
theorem dX3_mark_3 : decode cX3_mark 3 = .ok (.invokevirtual 9, 3) := by decide +kernel
theorem dX3_mark_6 : decode cX3_mark 6 = .ok (.aload_n 0, 1) := by decide +kernel
theorem dX3_mark_7 : decode cX3_mark 7 = .ok (.aload_n 1, 1) := by decide +kernel
theorem dX3_mark_8 : decode cX3_mark 8 = .ok (.invokespecial 19, 3) := by decide +kernel
theorem dX3_mark_11 : decode cX3_mark 11 = .ok (.istore_n 2, 1) := by decide +kernel
theorem dX3_mark_12 : decode cX3_mark 12 = .ok (.iload_n 2, 1) := by decide +kernel
theorem dX3_mark_13 : decode cX3_mark 13 = .ok (.aload_n 0, 1) := by decide +kernel
theorem dX3_mark_14 : decode cX3_mark 14 = .ok (.aload_n 1, 1) := by decide +kernel
theorem dX3_mark_15 : decode cX3_mark 15 = .ok (.invokevirtual 22, 3) := by decide +kernel
theorem dX3_mark_18 : decode cX3_mark 18 = .ok (.isub, 1) := by decide +kernel
theorem dX3_mark_19 : decode cX3_mark 19 = .ok (.ireturn, 1) := by decide +kernel
theorem dX4_init_0 : decode cX4_init 0 = .ok (.aload_n 0, 1) := by decide +kernel
theorem dX4_init_1 : decode cX4_init 1 = .ok (.invokespecial 1, 3) := by decide +kernel
theorem dX4_init_4 : decode cX4_init 4 = .ok (.aload_n 0, 1) := by decide +kernel
theorem dX4_init_5 : decode cX4_init 5 = .ok (.iload_n 1, 1) := by decide +kernel
theorem dX4_init_6 : decode cX4_init 6 = .ok (.putfield 7, 3) := by decide +kernel
theorem dX4_init_9 : decode cX4_init 9 = .ok (.aload_n 0, 1) := by decide +kernel
theorem dX4_init_10 : decode cX4_init 10 = .ok (.iload_n 2, 1) := by decide +kernel
theorem dX4_init_11 : decode cX4_init 11 = .ok (.putfield 13, 3) := by decide +kernel
theorem dX4_init_14 : decode cX4_init 14 = .ok (.aload_n 0, 1) := by decide +kernel
theorem dX4_init_15 : decode cX4_init 15 = .ok (.iload_n 3, 1) := by decide +kernel
theorem dX4_init_16 : decode cX4_init 16 = .ok (.putfield 16, 3) := by decide +kernel
theorem dX4_init_19 : decode cX4_init 19 = .ok (.return_, 1) := by decide +kernel
theorem dX4_stride_0 : decode cX4_stride 0 = .ok (.iconst 1, 1) := by decide +kernel
theorem dX4_stride_1 : decode cX4_stride 1 = .ok (.ireturn, 1) := by decide +kernel
theorem dX4_size_0 : decode cX4_size 0 = .ok (.aload_n 1, 1) := by decide +kernel
theorem dX4_size_1 : decode cX4_size 1 = .ok (.bipush 10, 2) := by decide +kernel
theorem dX4_size_3 : decode cX4_size 3 = .ok (.invokevirtual 19, 3) := by decide +kernel
theorem dX4_size_6 : decode cX4_size 6 = .ok (.aload_n 0, 1) := by decide +kernel
theorem dX4_size_7 : decode cX4_size 7 = .ok (.getfield 13, 3) := by decide +kernel
theorem dX4_size_10 : decode cX4_size 10 = .ok (.ireturn, 1) := by decide +kernel
theorem dX4_mark_0 : decode cX4_mark 0 = .ok (.aload_n 1, 1) := by decide +kernel
theorem dX4_mark_1 : decode cX4_mark 1 = .ok (.bipush 20, 2) := by decide +kernel
theorem dX4_mark_3 : decode cX4_mark 3 = .ok (.invokevirtual 19, 3) := by decide +kernel
theorem dX4_mark_6 : decode cX4_mark 6 = .ok (.aload_n 0, 1) := by decide +kernel
theorem dX4_mark_7 : decode cX4_mark 7 = .ok (.getfield 7, 3) := by decide +kernel
theorem dX4_mark_10 : decode cX4_mark 10 = .ok (.ireturn, 1) := by decide +kernel
theorem dX5_init_0 : decode cX5_init 0 = .ok (.aload_n 0, 1) := by decide +kernel
theorem dX5_init_1 : decode cX5_init 1 = .ok (.iload_n 1, 1) := by decide +kernel
theorem dX5_init_2 : decode cX5_init 2 = .ok (.iload_n 2, 1) := by decide +kernel
theorem dX5_init_3 : decode cX5_init 3 = .ok (.iload_n 3, 1) := by decide +kernel
theorem dX5_init_4 : decode cX5_init 4 = .ok (.invokespecial 3, 3) := by decide +kernel
theorem dX5_init_7 : decode cX5_init 7 = .ok (.return_, 1) := by decide +kernel
theorem dX5_ownKind_0 : decode cX5_ownKind 0 = .ok (.iconst 1, 1) := by decide +kernel
theorem dX5_ownKind_1 : decode cX5_ownKind 1 = .ok (.ireturn, 1) := by decide +kernel
theorem dX5_size_0 : decode cX5_size 0 = .ok (.aload_n 1, 1) := by decide +kernel
theorem dX5_size_1 : decode cX5_size 1 = .ok (.bipush 11, 2) := by decide +kernel
theorem dX5_size_3 : decode cX5_size 3 = .ok (.invokevirtual 9, 3) := by decide +kernel
theorem dX5_size_6 : decode cX5_size 6 = .ok (.aload_n 0, 1) := by decide +kernel
theorem dX5_size_7 : decode cX5_size 7 = .ok (.aload_n 1, 1) := by decide +kernel
theorem dX5_size_8 : decode cX5_size 8 = .ok (.invokespecial 15, 3) := by decide +kernel
theorem dX5_size_11 : decode cX5_size 11 = .ok (.istore_n 2, 1) := by decide +kernel
theorem dX5_size_12 : decode cX5_size 12 = .ok (.iload_n 2, 1) := by decide +kernel
theorem dX5_size_13 : decode cX5_size 13 = .ok (.aload_n 0, 1) := by decide +kernel
theorem dX5_size_14 : decode cX5_size 14 = .ok (.aload_n 1, 1) := by decide +kernel
theorem dX5_size_15 : decode cX5_size 15 = .ok (.invokevirtual 19, 3) := by decide +kernel
theorem dX5_size_18 : decode cX5_size 18 = .ok (.iadd, 1) := by decide +kernel
theorem dX5_size_19 : decode cX5_size 19 = .ok (.ireturn, 1) := by decide +kernel
theorem dX5_mark_0 : decode cX5_mark 0 = .ok (.aload_n 1, 1) := by decide +kernel
theorem dX5_mark_1 : decode cX5_mark 1 = .ok (.bipush 21, 2) := by decide +kernel
theorem dX5_mark_3 : decode cX5_mark 3 = .ok (.invokevirtual 9, 3) := by decide +kernel
theorem dX5_mark_6 : decode cX5_mark 6 = .ok (.aload_n 0, 1) := by decide +kernel
theorem dX5_mark_7 : decode cX5_mark 7 = .ok (.aload_n 1, 1) := by decide +kernel
theorem dX5_mark_8 : decode cX5_mark 8 = .ok (.invokespecial 24, 3) := by decide +kernel
theorem dX5_mark_11 : decode cX5_mark 11 = .ok (.aload_n 0, 1) := by decide +kernel
theorem dX5_mark_12 : decode cX5_mark 12 = .ok (.getfield 25, 3) := by decide +kernel
theorem dX5_mark_15 : decode cX5_mark 15 = .ok (.iadd, 1) := by decide +kernel
theorem dX5_mark_16 : decode cX5_mark 16 = .ok (.ireturn, 1) := by decide +kernel
theorem dX6_init_0 : decode cX6_init 0 = .ok (.aload_n 0, 1) := by decide +kernel
theorem dX6_init_1 : decode cX6_init 1 = .ok (.invokespecial 3, 3) := by decide +kernel
theorem dX6_init_4 : decode cX6_init 4 = .ok (.aload_n 0, 1) := by decide +kernel
theorem dX6_init_5 : decode cX6_init 5 = .ok (.sipush 400, 3) := by decide +kernel
theorem dX6_init_8 : decode cX6_init 8 = .ok (.newarray .byte, 2) := by decide +kernel
theorem dX6_init_10 : decode cX6_init 10 = .ok (.putfield 11, 3) := by decide +kernel
theorem dX6_init_13 : decode cX6_init 13 = .ok (.return_, 1) := by decide +kernel
theorem dX6_append_0 : decode cX6_append 0 = .ok (.aload_n 0, 1) := by decide +kernel
theorem dX6_append_1 : decode cX6_append 1 = .ok (.getfield 15, 3) := by decide +kernel
theorem dX6_append_4 : decode cX6_append 4 = .ok (.sipush 400, 3) := by decide +kernel
theorem dX6_append_7 : decode cX6_append 7 = .ok (.if_icmp .ge 23, 3) := by decide +kernel
theorem dX6_append_10 : decode cX6_append 10 = .ok (.aload_n 0, 1) := by decide +kernel
theorem dX6_append_11 : decode cX6_append 11 = .ok (.getfield 11, 3) := by decide +kernel
theorem dX6_append_14 : decode cX6_append 14 = .ok (.aload_n 0, 1) := by decide +kernel
theorem dX6_append_15 : decode cX6_append 15 = .ok (.getfield 15, 3) := by decide +kernel
theorem dX6_append_18 : decode cX6_append 18 = .ok (.iload_n 1, 1) := by decide +kernel
theorem dX6_append_19 : decode cX6_append 19 = .ok (.bastore, 1) := by decide +kernel
theorem dX6_append_20 : decode cX6_append 20 = .ok (.aload_n 0, 1) := by decide +kernel
theorem dX6_append_21 : decode cX6_append 21 = .ok (.dup, 1) := by decide +kernel
theorem dX6_append_22 : decode cX6_append 22 = .ok (.getfield 15, 3) := by decide +kernel
theorem dX6_append_25 : decode cX6_append 25 = .ok (.iconst 1, 1) := by decide +kernel
theorem dX6_append_26 : decode cX6_append 26 = .ok (.iadd, 1) := by decide +kernel
theorem dX6_append_27 : decode cX6_append 27 = .ok (.putfield 15, 3) := by decide +kernel
theorem dX6_append_30 : decode cX6_append 30 = .ok (.return_, 1) := by decide +kernel
theorem dX6_readInto_0 : decode cX6_readInto 0 = .ok (.aload_n 1, 1) := by decide +kernel
theorem dX6_readInto_1 : decode cX6_readInto 1 = .ok (.invokevirtual 19, 3) := by decide +kernel
theorem dX6_readInto_4 : decode cX6_readInto 4 = .ok (.aload_n 0, 1) := by decide +kernel
theorem dX6_readInto_5 : decode cX6_readInto 5 = .ok (.iconst 0, 1) := by decide +kernel
theorem dX6_readInto_6 : decode cX6_readInto 6 = .ok (.putfield 24, 3) := by decide +kernel
theorem dX6_readInto_9 : decode cX6_readInto 9 = .ok (.aload_n 0, 1) := by decide +kernel
theorem dX6_readInto_10 : decode cX6_readInto 10 = .ok (.invokevirtual 27, 3) := by decide +kernel
theorem dX6_readInto_13 : decode cX6_readInto 13 = .ok (.aload_n 0, 1) := by decide +kernel
theorem dX6_readInto_14 : decode cX6_readInto 14 = .ok (.aload_n 1, 1) := by decide +kernel
theorem dX6_readInto_15 : decode cX6_readInto 15 = .ok (.invokevirtual 30, 3) := by decide +kernel
theorem dX6_readInto_18 : decode cX6_readInto 18 = .ok (.istore_n 2, 1) := by decide +kernel
theorem dX6_readInto_19 : decode cX6_readInto 19 = .ok (.iconst 0, 1) := by decide +kernel
theorem dX6_readInto_20 : decode cX6_readInto 20 = .ok (.istore_n 3, 1) := by decide +kernel
theorem dX6_readInto_21 : decode cX6_readInto 21 = .ok (.iload_n 2, 1) := by decide +kernel
theorem dX6_readInto_22 : decode cX6_readInto 22 = .ok (.ifCond .eq 30, 3) := by decide +kernel
theorem dX6_readInto_25 : decode cX6_readInto 25 = .ok (.iload_n 3, 1) := by decide +kernel
theorem dX6_readInto_26 : decode cX6_readInto 26 = .ok (.bipush 7, 2) := by decide +kernel
theorem dX6_readInto_28 : decode cX6_readInto 28 = .ok (.if_icmp .gt 24, 3) := by decide +kernel
theorem dX6_readInto_31 : decode cX6_readInto 31 = .ok (.aload_n 0, 1) := by decide +kernel
theorem dX6_readInto_32 : decode cX6_readInto 32 = .ok (.ldc 34, 2) := by decide +kernel
theorem dX6_readInto_34 : decode cX6_readInto 34 = .ok (.invokevirtual 36, 3) := by decide +kernel
theorem dX6_readInto_37 : decode cX6_readInto 37 = .ok (.ifCond .eq 15, 3) := by decide +kernel
theorem dX6_readInto_40 : decode cX6_readInto 40 = .ok (.aload_n 0, 1) := by decide +kernel
theorem dX6_readInto_41 : decode cX6_readInto 41 = .ok (.aload_n 1, 1) := by decide +kernel
theorem dX6_readInto_42 : decode cX6_readInto 42 = .ok (.invokevirtual 40, 3) := by decide +kernel
theorem dX6_readInto_45 : decode cX6_readInto 45 = .ok (.istore_n 2, 1) := by decide +kernel
theorem dX6_readInto_46 : decode cX6_readInto 46 = .ok (.iinc 3 1, 3) := by decide +kernel
theorem dX6_readInto_49 : decode cX6_readInto 49 = .ok (.goto (-28), 3) := by decide +kernel
theorem dX6_readInto_52 : decode cX6_readInto 52 = .ok (.iconst 0, 1) := by decide +kernel
theorem dX6_readInto_53 : decode cX6_readInto 53 = .ok (.istore_n 3, 1) := by decide +kernel
theorem dX6_readInto_54 : decode cX6_readInto 54 = .ok (.iload_n 2, 1) := by decide +kernel
theorem dX6_readInto_55 : decode cX6_readInto 55 = .ok (.ifCond .eq 29, 3) := by decide +kernel
theorem dX6_readInto_58 : decode cX6_readInto 58 = .ok (.iload_n 3, 1) := by decide +kernel
theorem dX6_readInto_59 : decode cX6_readInto 59 = .ok (.iconst 4, 1) := by decide +kernel
theorem dX6_readInto_60 : decode cX6_readInto 60 = .ok (.if_icmp .gt 24, 3) := by decide +kernel
theorem dX6_readInto_63 : decode cX6_readInto 63 = .ok (.aload_n 0, 1) := by decide +kernel
theorem dX6_readInto_64 : decode cX6_readInto 64 = .ok (.ldc 43, 2) := by decide +kernel
theorem dX6_readInto_66 : decode cX6_readInto 66 = .ok (.invokevirtual 36, 3) := by decide +kernel
theorem dX6_readInto_69 : decode cX6_readInto 69 = .ok (.ifCond .eq 15, 3) := by decide +kernel
theorem dX6_readInto_72 : decode cX6_readInto 72 = .ok (.aload_n 0, 1) := by decide +kernel
theorem dX6_readInto_73 : decode cX6_readInto 73 = .ok (.aload_n 1, 1) := by decide +kernel
theorem dX6_readInto_74 : decode cX6_readInto 74 = .ok (.invokevirtual 45, 3) := by decide +kernel
theorem dX6_readInto_77 : decode cX6_readInto 77 = .ok (.istore_n 2, 1) := by decide +kernel
theorem dX6_readInto_78 : decode cX6_readInto 78 = .ok (.iinc 3 1, 3) := by decide +kernel
theorem dX6_readInto_81 : decode cX6_readInto 81 = .ok (.goto (-27), 3) := by decide +kernel
theorem dX6_readInto_84 : decode cX6_readInto 84 = .ok (.iload_n 2, 1) := by decide +kernel
theorem dX6_readInto_85 : decode cX6_readInto 85 = .ok (.ifCond .eq 22, 3) := by decide +kernel
theorem dX6_readInto_88 : decode cX6_readInto 88 = .ok (.aload_n 0, 1) := by decide +kernel
theorem dX6_readInto_89 : decode cX6_readInto 89 = .ok (.getfield 48, 3) := by decide +kernel
theorem dX6_readInto_92 : decode cX6_readInto 92 = .ok (.ifCond .eq 11, 3) := by decide +kernel
theorem dX6_readInto_95 : decode cX6_readInto 95 = .ok (.aload_n 0, 1) := by decide +kernel
theorem dX6_readInto_96 : decode cX6_readInto 96 = .ok (.iconst 1, 1) := by decide +kernel
theorem dX6_readInto_97 : decode cX6_readInto 97 = .ok (.invokevirtual 51, 3) := by decide +kernel
theorem dX6_readInto_100 : decode cX6_readInto 100 = .ok (.ifCond .eq 7, 3) := by decide +kernel
theorem dX6_readInto_103 : decode cX6_readInto 103 = .ok (.iconst 1, 1) := by decide +kernel
theorem dX6_readInto_104 : decode cX6_readInto 104 = .ok (.goto 4, 3) := by decide +kernel
theorem dX6_readInto_107 : decode cX6_readInto 107 = .ok (.iconst 0, 1) := by decide +kernel
theorem dX6_readInto_108 : decode cX6_readInto 108 = .ok (.istore_n 2, 1) := by decide +kernel
theorem dX6_readInto_109 : decode cX6_readInto 109 = .ok (.aload_n 0, 1) := by decide +kernel
theorem dX6_readInto_110 : decode cX6_readInto 110 = .ok (.iconst 0, 1) := by decide +kernel
theorem dX6_readInto_111 : decode cX6_readInto 111 = .ok (.putfield 15, 3) := by decide +kernel
theorem dX6_readInto_114 : decode cX6_readInto 114 = .ok (.iload_n 2, 1) := by decide +kernel
theorem dX6_readInto_115 : decode cX6_readInto 115 = .ok (.ireturn, 1) := by decide +kernel
theorem dX6_readLaw_0 : decode cX6_readLaw 0 = .ok (.aload_n 0, 1) := by decide +kernel
theorem dX6_readLaw_1 : decode cX6_readLaw 1 = .ok (.ldc 55, 2) := by decide +kernel
theorem dX6_readLaw_3 : decode cX6_readLaw 3 = .ok (.invokevirtual 36, 3) := by decide +kernel
theorem dX6_readLaw_6 : decode cX6_readLaw 6 = .ok (.ifCond .ne 9, 3) := by decide +kernel
theorem dX6_readLaw_9 : decode cX6_readLaw 9 = .ok (.aload_n 0, 1) := by decide +kernel
theorem dX6_readLaw_10 : decode cX6_readLaw 10 = .ok (.iconst 1, 1) := by decide +kernel
theorem dX6_readLaw_11 : decode cX6_readLaw 11 = .ok (.invokevirtual 51, 3) := by decide +kernel
theorem dX6_readLaw_14 : decode cX6_readLaw 14 = .ok (.ireturn, 1) := by decide +kernel
theorem dX6_readLaw_15 : decode cX6_readLaw 15 = .ok (.aload_n 0, 1) := by decide +kernel
theorem dX6_readLaw_16 : decode cX6_readLaw 16 = .ok (.invokevirtual 27, 3) := by decide +kernel
theorem dX6_readLaw_19 : decode cX6_readLaw 19 = .ok (.aload_n 1, 1) := by decide +kernel
theorem dX6_readLaw_20 : decode cX6_readLaw 20 = .ok (.aload_n 0, 1) := by decide +kernel
theorem dX6_readLaw_21 : decode cX6_readLaw 21 = .ok (.iconst 4, 1) := by decide +kernel
theorem dX6_readLaw_22 : decode cX6_readLaw 22 = .ok (.bipush 32, 2) := by decide +kernel
theorem dX6_readLaw_24 : decode cX6_readLaw 24 = .ok (.invokevirtual 57, 3) := by decide +kernel
theorem dX6_readLaw_27 : decode cX6_readLaw 27 = .ok (.putfield 61, 3) := by decide +kernel
theorem dX6_readLaw_30 : decode cX6_readLaw 30 = .ok (.aload_n 1, 1) := by decide +kernel
theorem dX6_readLaw_31 : decode cX6_readLaw 31 = .ok (.getfield 61, 3) := by decide +kernel
theorem dX6_readLaw_34 : decode cX6_readLaw 34 = .ok (.iconst (-1), 1) := by decide +kernel
theorem dX6_readLaw_35 : decode cX6_readLaw 35 = .ok (.if_icmp .ne 5, 3) := by decide +kernel
theorem dX6_readLaw_38 : decode cX6_readLaw 38 = .ok (.iconst 0, 1) := by decide +kernel
theorem dX6_readLaw_39 : decode cX6_readLaw 39 = .ok (.ireturn, 1) := by decide +kernel
theorem dX6_readLaw_40 : decode cX6_readLaw 40 = .ok (.aload_n 1, 1) := by decide +kernel
theorem dX6_readLaw_41 : decode cX6_readLaw 41 = .ok (.aload_n 0, 1) := by decide +kernel
theorem dX6_readLaw_42 : decode cX6_readLaw 42 = .ok (.iconst 1, 1) := by decide +kernel
theorem dX6_readLaw_43 : decode cX6_readLaw 43 = .ok (.bipush 99, 2) := by decide +kernel
theorem dX6_readLaw_45 : decode cX6_readLaw 45 = .ok (.invokevirtual 57, 3) := by decide +kernel
theorem dX6_readLaw_48 : decode cX6_readLaw 48 = .ok (.putfield 64, 3) := by decide +kernel
theorem dX6_readLaw_51 : decode cX6_readLaw 51 = .ok (.aload_n 1, 1) := by decide +kernel
theorem dX6_readLaw_52 : decode cX6_readLaw 52 = .ok (.getfield 64, 3) := by decide +kernel
theorem dX6_readLaw_55 : decode cX6_readLaw 55 = .ok (.iconst (-1), 1) := by decide +kernel
theorem dX6_readLaw_56 : decode cX6_readLaw 56 = .ok (.if_icmp .eq 14, 3) := by decide +kernel
theorem dX6_readLaw_59 : decode cX6_readLaw 59 = .ok (.aload_n 0, 1) := by decide +kernel
theorem dX6_readLaw_60 : decode cX6_readLaw 60 = .ok (.invokevirtual 66, 3) := by decide +kernel
theorem dX6_readLaw_63 : decode cX6_readLaw 63 = .ok (.ifCond .eq 7, 3) := by decide +kernel
theorem dX6_readLaw_66 : decode cX6_readLaw 66 = .ok (.iconst 1, 1) := by decide +kernel
theorem dX6_readLaw_67 : decode cX6_readLaw 67 = .ok (.goto 4, 3) := by decide +kernel
theorem dX6_readLaw_70 : decode cX6_readLaw 70 = .ok (.iconst 0, 1) := by decide +kernel
theorem dX6_readLaw_71 : decode cX6_readLaw 71 = .ok (.ireturn, 1) := by decide +kernel
theorem dX6_readPerson_0 : decode cX6_readPerson 0 = .ok (.aload_n 1, 1) := by decide +kernel
theorem dX6_readPerson_1 : decode cX6_readPerson 1 = .ok (.getfield 70, 3) := by decide +kernel
theorem dX6_readPerson_4 : decode cX6_readPerson 4 = .ok (.bipush 7, 2) := by decide +kernel
theorem dX6_readPerson_6 : decode cX6_readPerson 6 = .ok (.if_icmp .lt 9, 3) := by decide +kernel
theorem dX6_readPerson_9 : decode cX6_readPerson 9 = .ok (.aload_n 0, 1) := by decide +kernel
theorem dX6_readPerson_10 : decode cX6_readPerson 10 = .ok (.iconst 3, 1) := by decide +kernel
theorem dX6_readPerson_11 : decode cX6_readPerson 11 = .ok (.invokevirtual 51, 3) := by decide +kernel
theorem dX6_readPerson_14 : decode cX6_readPerson 14 = .ok (.ireturn, 1) := by decide +kernel
theorem dX6_readPerson_15 : decode cX6_readPerson 15 = .ok (.aload_n 0, 1) := by decide +kernel
theorem dX6_readPerson_16 : decode cX6_readPerson 16 = .ok (.invokevirtual 27, 3) := by decide +kernel
theorem dX6_readPerson_19 : decode cX6_readPerson 19 = .ok (.aload_n 0, 1) := by decide +kernel
theorem dX6_readPerson_20 : decode cX6_readPerson 20 = .ok (.invokevirtual 73, 3) := by decide +kernel
theorem dX6_readPerson_23 : decode cX6_readPerson 23 = .ok (.istore_n 2, 1) := by decide +kernel
theorem dX6_readPerson_24 : decode cX6_readPerson 24 = .ok (.iload_n 2, 1) := by decide +kernel
theorem dX6_readPerson_25 : decode cX6_readPerson 25 = .ok (.ifCond .ne 9, 3) := by decide +kernel
theorem dX6_readPerson_28 : decode cX6_readPerson 28 = .ok (.aload_n 0, 1) := by decide +kernel
theorem dX6_readPerson_29 : decode cX6_readPerson 29 = .ok (.iconst 1, 1) := by decide +kernel
theorem dX6_readPerson_30 : decode cX6_readPerson 30 = .ok (.invokevirtual 51, 3) := by decide +kernel
theorem dX6_readPerson_33 : decode cX6_readPerson 33 = .ok (.ireturn, 1) := by decide +kernel
theorem dX6_readPerson_34 : decode cX6_readPerson 34 = .ok (.aload_n 0, 1) := by decide +kernel
theorem dX6_readPerson_35 : decode cX6_readPerson 35 = .ok (.invokevirtual 27, 3) := by decide +kernel
theorem dX6_readPerson_38 : decode cX6_readPerson 38 = .ok (.aload_n 0, 1) := by decide +kernel
theorem dX6_readPerson_39 : decode cX6_readPerson 39 = .ok (.iconst 1, 1) := by decide +kernel
theorem dX6_readPerson_40 : decode cX6_readPerson 40 = .ok (.bipush 20, 2) := by decide +kernel
theorem dX6_readPerson_42 : decode cX6_readPerson 42 = .ok (.invokevirtual 57, 3) := by decide +kernel
theorem dX6_readPerson_45 : decode cX6_readPerson 45 = .ok (.istore_n 3, 1) := by decide +kernel
theorem dX6_readPerson_46 : decode cX6_readPerson 46 = .ok (.iload_n 3, 1) := by decide +kernel
theorem dX6_readPerson_47 : decode cX6_readPerson 47 = .ok (.iconst (-1), 1) := by decide +kernel
theorem dX6_readPerson_48 : decode cX6_readPerson 48 = .ok (.if_icmp .ne 5, 3) := by decide +kernel
theorem dX6_readPerson_51 : decode cX6_readPerson 51 = .ok (.iconst 0, 1) := by decide +kernel
theorem dX6_readPerson_52 : decode cX6_readPerson 52 = .ok (.ireturn, 1) := by decide +kernel
theorem dX6_readPerson_53 : decode cX6_readPerson 53 = .ok (.aload_n 0, 1) := by decide +kernel
theorem dX6_readPerson_54 : decode cX6_readPerson 54 = .ok (.iconst 1, 1) := by decide +kernel
theorem dX6_readPerson_55 : decode cX6_readPerson 55 = .ok (.iconst 4, 1) := by decide +kernel
theorem dX6_readPerson_56 : decode cX6_readPerson 56 = .ok (.invokevirtual 57, 3) := by decide +kernel
theorem dX6_readPerson_59 : decode cX6_readPerson 59 = .ok (.istore 4, 2) := by decide +kernel
theorem dX6_readPerson_61 : decode cX6_readPerson 61 = .ok (.iload 4, 2) := by decide +kernel
theorem dX6_readPerson_63 : decode cX6_readPerson 63 = .ok (.iconst (-1), 1) := by decide +kernel
theorem dX6_readPerson_64 : decode cX6_readPerson 64 = .ok (.if_icmp .ne 5, 3) := by decide +kernel
theorem dX6_readPerson_67 : decode cX6_readPerson 67 = .ok (.iconst 0, 1) := by decide +kernel
theorem dX6_readPerson_68 : decode cX6_readPerson 68 = .ok (.ireturn, 1) := by decide +kernel
theorem dX6_readPerson_69 : decode cX6_readPerson 69 = .ok (.aload_n 0, 1) := by decide +kernel
theorem dX6_readPerson_70 : decode cX6_readPerson 70 = .ok (.getfield 48, 3) := by decide +kernel
theorem dX6_readPerson_73 : decode cX6_readPerson 73 = .ok (.iconst 2, 1) := by decide +kernel
theorem dX6_readPerson_74 : decode cX6_readPerson 74 = .ok (.if_icmp .ne 16, 3) := by decide +kernel
theorem dX6_readPerson_77 : decode cX6_readPerson 77 = .ok (.aload_n 0, 1) := by decide +kernel
theorem dX6_readPerson_78 : decode cX6_readPerson 78 = .ok (.getfield 77, 3) := by decide +kernel
theorem dX6_readPerson_81 : decode cX6_readPerson 81 = .ok (.bipush 99, 2) := by decide +kernel
theorem dX6_readPerson_83 : decode cX6_readPerson 83 = .ok (.if_icmp .ne 7, 3) := by decide +kernel
theorem dX6_readPerson_86 : decode cX6_readPerson 86 = .ok (.iconst 1, 1) := by decide +kernel
theorem dX6_readPerson_87 : decode cX6_readPerson 87 = .ok (.goto 4, 3) := by decide +kernel
theorem dX6_readPerson_90 : decode cX6_readPerson 90 = .ok (.iconst 0, 1) := by decide +kernel
theorem dX6_readPerson_91 : decode cX6_readPerson 91 = .ok (.istore 5, 2) := by decide +kernel
theorem dX6_readPerson_93 : decode cX6_readPerson 93 = .ok (.aload_n 0, 1) := by decide +kernel
theorem dX6_readPerson_94 : decode cX6_readPerson 94 = .ok (.iconst 0, 1) := by decide +kernel
theorem dX6_readPerson_95 : decode cX6_readPerson 95 = .ok (.iload 5, 2) := by decide +kernel
theorem dX6_readPerson_97 : decode cX6_readPerson 97 = .ok (.ifCond .eq 8, 3) := by decide +kernel
theorem dX6_readPerson_100 : decode cX6_readPerson 100 = .ok (.bipush 99, 2) := by decide +kernel
theorem dX6_readPerson_102 : decode cX6_readPerson 102 = .ok (.goto 9, 3) := by decide +kernel
theorem dX6_readPerson_105 : decode cX6_readPerson 105 = .ok (.aload_n 1, 1) := by decide +kernel
theorem dX6_readPerson_106 : decode cX6_readPerson 106 = .ok (.getfield 61, 3) := by decide +kernel
theorem dX6_readPerson_109 : decode cX6_readPerson 109 = .ok (.iconst 1, 1) := by decide +kernel
theorem dX6_readPerson_110 : decode cX6_readPerson 110 = .ok (.isub, 1) := by decide +kernel
theorem dX6_readPerson_111 : decode cX6_readPerson 111 = .ok (.invokevirtual 57, 3) := by decide +kernel
theorem dX6_readPerson_114 : decode cX6_readPerson 114 = .ok (.istore 6, 2) := by decide +kernel
theorem dX6_readPerson_116 : decode cX6_readPerson 116 = .ok (.iload 6, 2) := by decide +kernel
theorem dX6_readPerson_118 : decode cX6_readPerson 118 = .ok (.iconst (-1), 1) := by decide +kernel
theorem dX6_readPerson_119 : decode cX6_readPerson 119 = .ok (.if_icmp .ne 5, 3) := by decide +kernel
theorem dX6_readPerson_122 : decode cX6_readPerson 122 = .ok (.iconst 0, 1) := by decide +kernel
theorem dX6_readPerson_123 : decode cX6_readPerson 123 = .ok (.ireturn, 1) := by decide +kernel
theorem dX6_readPerson_124 : decode cX6_readPerson 124 = .ok (.aload_n 1, 1) := by decide +kernel
theorem dX6_readPerson_125 : decode cX6_readPerson 125 = .ok (.iload_n 2, 1) := by decide +kernel
theorem dX6_readPerson_126 : decode cX6_readPerson 126 = .ok (.aload_n 1, 1) := by decide +kernel
theorem dX6_readPerson_127 : decode cX6_readPerson 127 = .ok (.getfield 70, 3) := by decide +kernel
theorem dX6_readPerson_130 : decode cX6_readPerson 130 = .ok (.iload_n 3, 1) := by decide +kernel
theorem dX6_readPerson_131 : decode cX6_readPerson 131 = .ok (.iload 4, 2) := by decide +kernel
theorem dX6_readPerson_133 : decode cX6_readPerson 133 = .ok (.invokestatic 80, 3) := by decide +kernel
theorem dX6_readPerson_136 : decode cX6_readPerson 136 = .ok (.iload 5, 2) := by decide +kernel
theorem dX6_readPerson_138 : decode cX6_readPerson 138 = .ok (.ifCond .eq 7, 3) := by decide +kernel
theorem dX6_readPerson_141 : decode cX6_readPerson 141 = .ok (.iconst (-1), 1) := by decide +kernel
theorem dX6_readPerson_142 : decode cX6_readPerson 142 = .ok (.goto 5, 3) := by decide +kernel
theorem dX6_readPerson_145 : decode cX6_readPerson 145 = .ok (.iload 6, 2) := by decide +kernel
theorem dX6_readPerson_147 : decode cX6_readPerson 147 = .ok (.invokevirtual 84, 3) := by decide +kernel
theorem dX6_readPerson_150 : decode cX6_readPerson 150 = .ok (.aload_n 0, 1) := by decide +kernel
theorem dX6_readPerson_151 : decode cX6_readPerson 151 = .ok (.invokevirtual 66, 3) := by decide +kernel
theorem dX6_readPerson_154 : decode cX6_readPerson 154 = .ok (.ireturn, 1) := by decide +kernel
theorem dX6_readStone_0 : decode cX6_readStone 0 = .ok (.aload_n 1, 1) := by decide +kernel
theorem dX6_readStone_1 : decode cX6_readStone 1 = .ok (.getfield 88, 3) := by decide +kernel
theorem dX6_readStone_4 : decode cX6_readStone 4 = .ok (.iconst 4, 1) := by decide +kernel
theorem dX6_readStone_5 : decode cX6_readStone 5 = .ok (.if_icmp .lt 9, 3) := by decide +kernel
theorem dX6_readStone_8 : decode cX6_readStone 8 = .ok (.aload_n 0, 1) := by decide +kernel
theorem dX6_readStone_9 : decode cX6_readStone 9 = .ok (.iconst 3, 1) := by decide +kernel
theorem dX6_readStone_10 : decode cX6_readStone 10 = .ok (.invokevirtual 51, 3) := by decide +kernel
theorem dX6_readStone_13 : decode cX6_readStone 13 = .ok (.ireturn, 1) := by decide +kernel
theorem dX6_readStone_14 : decode cX6_readStone 14 = .ok (.aload_n 0, 1) := by decide +kernel
theorem dX6_readStone_15 : decode cX6_readStone 15 = .ok (.invokevirtual 27, 3) := by decide +kernel
theorem dX6_readStone_18 : decode cX6_readStone 18 = .ok (.aload_n 0, 1) := by decide +kernel
theorem dX6_readStone_19 : decode cX6_readStone 19 = .ok (.iconst 1, 1) := by decide +kernel
theorem dX6_readStone_20 : decode cX6_readStone 20 = .ok (.bipush 20, 2) := by decide +kernel
theorem dX6_readStone_22 : decode cX6_readStone 22 = .ok (.invokevirtual 57, 3) := by decide +kernel
theorem dX6_readStone_25 : decode cX6_readStone 25 = .ok (.istore_n 2, 1) := by decide +kernel
theorem dX6_readStone_26 : decode cX6_readStone 26 = .ok (.iload_n 2, 1) := by decide +kernel
theorem dX6_readStone_27 : decode cX6_readStone 27 = .ok (.iconst (-1), 1) := by decide +kernel
theorem dX6_readStone_28 : decode cX6_readStone 28 = .ok (.if_icmp .ne 5, 3) := by decide +kernel
theorem dX6_readStone_31 : decode cX6_readStone 31 = .ok (.iconst 0, 1) := by decide +kernel
theorem dX6_readStone_32 : decode cX6_readStone 32 = .ok (.ireturn, 1) := by decide +kernel
theorem dX6_readStone_33 : decode cX6_readStone 33 = .ok (.aload_n 0, 1) := by decide +kernel
theorem dX6_readStone_34 : decode cX6_readStone 34 = .ok (.iconst 0, 1) := by decide +kernel
theorem dX6_readStone_35 : decode cX6_readStone 35 = .ok (.iconst 3, 1) := by decide +kernel
theorem dX6_readStone_36 : decode cX6_readStone 36 = .ok (.invokevirtual 57, 3) := by decide +kernel
theorem dX6_readStone_39 : decode cX6_readStone 39 = .ok (.istore_n 3, 1) := by decide +kernel
theorem dX6_readStone_40 : decode cX6_readStone 40 = .ok (.iload_n 3, 1) := by decide +kernel
theorem dX6_readStone_41 : decode cX6_readStone 41 = .ok (.iconst (-1), 1) := by decide +kernel
theorem dX6_readStone_42 : decode cX6_readStone 42 = .ok (.if_icmp .ne 5, 3) := by decide +kernel
theorem dX6_readStone_45 : decode cX6_readStone 45 = .ok (.iconst 0, 1) := by decide +kernel
theorem dX6_readStone_46 : decode cX6_readStone 46 = .ok (.ireturn, 1) := by decide +kernel
theorem dX6_readStone_47 : decode cX6_readStone 47 = .ok (.aload_n 1, 1) := by decide +kernel
theorem dX6_readStone_48 : decode cX6_readStone 48 = .ok (.iload_n 2, 1) := by decide +kernel
theorem dX6_readStone_49 : decode cX6_readStone 49 = .ok (.iload_n 3, 1) := by decide +kernel
theorem dX6_readStone_50 : decode cX6_readStone 50 = .ok (.invokevirtual 91, 3) := by decide +kernel
theorem dX6_readStone_53 : decode cX6_readStone 53 = .ok (.aload_n 0, 1) := by decide +kernel
theorem dX6_readStone_54 : decode cX6_readStone 54 = .ok (.invokevirtual 66, 3) := by decide +kernel
theorem dX6_readStone_57 : decode cX6_readStone 57 = .ok (.ireturn, 1) := by decide +kernel
theorem dX6_kindAtHand_0 : decode cX6_kindAtHand 0 = .ok (.aload_n 0, 1) := by decide +kernel
theorem dX6_kindAtHand_1 : decode cX6_kindAtHand 1 = .ok (.ldc 95, 2) := by decide +kernel
theorem dX6_kindAtHand_3 : decode cX6_kindAtHand 3 = .ok (.invokevirtual 36, 3) := by decide +kernel
theorem dX6_kindAtHand_6 : decode cX6_kindAtHand 6 = .ok (.ifCond .eq 5, 3) := by decide +kernel
theorem dX6_kindAtHand_9 : decode cX6_kindAtHand 9 = .ok (.iconst 1, 1) := by decide +kernel
theorem dX6_kindAtHand_10 : decode cX6_kindAtHand 10 = .ok (.ireturn, 1) := by decide +kernel
theorem dX6_kindAtHand_11 : decode cX6_kindAtHand 11 = .ok (.aload_n 0, 1) := by decide +kernel
theorem dX6_kindAtHand_12 : decode cX6_kindAtHand 12 = .ok (.ldc 97, 2) := by decide +kernel
theorem dX6_kindAtHand_14 : decode cX6_kindAtHand 14 = .ok (.invokevirtual 36, 3) := by decide +kernel
theorem dX6_kindAtHand_17 : decode cX6_kindAtHand 17 = .ok (.ifCond .eq 5, 3) := by decide +kernel
theorem dX6_kindAtHand_20 : decode cX6_kindAtHand 20 = .ok (.iconst 2, 1) := by decide +kernel
theorem dX6_kindAtHand_21 : decode cX6_kindAtHand 21 = .ok (.ireturn, 1) := by decide +kernel
theorem dX6_kindAtHand_22 : decode cX6_kindAtHand 22 = .ok (.aload_n 0, 1) := by decide +kernel
theorem dX6_kindAtHand_23 : decode cX6_kindAtHand 23 = .ok (.ldc 99, 2) := by decide +kernel
theorem dX6_kindAtHand_25 : decode cX6_kindAtHand 25 = .ok (.invokevirtual 36, 3) := by decide +kernel
theorem dX6_kindAtHand_28 : decode cX6_kindAtHand 28 = .ok (.ifCond .eq 5, 3) := by decide +kernel
theorem dX6_kindAtHand_31 : decode cX6_kindAtHand 31 = .ok (.iconst 3, 1) := by decide +kernel
theorem dX6_kindAtHand_32 : decode cX6_kindAtHand 32 = .ok (.ireturn, 1) := by decide +kernel
theorem dX6_kindAtHand_33 : decode cX6_kindAtHand 33 = .ok (.aload_n 0, 1) := by decide +kernel
theorem dX6_kindAtHand_34 : decode cX6_kindAtHand 34 = .ok (.ldc 101, 2) := by decide +kernel
theorem dX6_kindAtHand_36 : decode cX6_kindAtHand 36 = .ok (.invokevirtual 36, 3) := by decide +kernel
theorem dX6_kindAtHand_39 : decode cX6_kindAtHand 39 = .ok (.ifCond .eq 5, 3) := by decide +kernel
theorem dX6_kindAtHand_42 : decode cX6_kindAtHand 42 = .ok (.iconst 4, 1) := by decide +kernel
theorem dX6_kindAtHand_43 : decode cX6_kindAtHand 43 = .ok (.ireturn, 1) := by decide +kernel
theorem dX6_kindAtHand_44 : decode cX6_kindAtHand 44 = .ok (.aload_n 0, 1) := by decide +kernel
theorem dX6_kindAtHand_45 : decode cX6_kindAtHand 45 = .ok (.ldc 103, 2) := by decide +kernel
theorem dX6_kindAtHand_47 : decode cX6_kindAtHand 47 = .ok (.invokevirtual 36, 3) := by decide +kernel
theorem dX6_kindAtHand_50 : decode cX6_kindAtHand 50 = .ok (.ifCond .eq 7, 3) := by decide +kernel
theorem dX6_kindAtHand_53 : decode cX6_kindAtHand 53 = .ok (.iconst 5, 1) := by decide +kernel
theorem dX6_kindAtHand_54 : decode cX6_kindAtHand 54 = .ok (.goto 4, 3) := by decide +kernel
theorem dX6_kindAtHand_57 : decode cX6_kindAtHand 57 = .ok (.iconst 0, 1) := by decide +kernel
theorem dX6_kindAtHand_58 : decode cX6_kindAtHand 58 = .ok (.ireturn, 1) := by decide +kernel
theorem dX6_newPerson_0 : decode cX6_newPerson 0 = .ok (.iload_n 0, 1) := by decide +kernel
theorem dX6_newPerson_1 : decode cX6_newPerson 1 = .ok (.tableswitch 75 2 5 #[31, 42, 53, 64], 31) := by decide +kernel
theorem dX6_newPerson_32 : decode cX6_newPerson 32 = .ok (.new 105, 3) := by decide +kernel
theorem dX6_newPerson_35 : decode cX6_newPerson 35 = .ok (.dup, 1) := by decide +kernel
theorem dX6_newPerson_36 : decode cX6_newPerson 36 = .ok (.iload_n 1, 1) := by decide +kernel
theorem dX6_newPerson_37 : decode cX6_newPerson 37 = .ok (.iload_n 2, 1) := by decide +kernel
theorem dX6_newPerson_38 : decode cX6_newPerson 38 = .ok (.iload_n 3, 1) := by decide +kernel
theorem dX6_newPerson_39 : decode cX6_newPerson 39 = .ok (.invokespecial 107, 3) := by decide +kernel
theorem dX6_newPerson_42 : decode cX6_newPerson 42 = .ok (.areturn, 1) := by decide +kernel
theorem dX6_newPerson_43 : decode cX6_newPerson 43 = .ok (.new 110, 3) := by decide +kernel
theorem dX6_newPerson_46 : decode cX6_newPerson 46 = .ok (.dup, 1) := by decide +kernel
theorem dX6_newPerson_47 : decode cX6_newPerson 47 = .ok (.iload_n 1, 1) := by decide +kernel
theorem dX6_newPerson_48 : decode cX6_newPerson 48 = .ok (.iload_n 2, 1) := by decide +kernel
theorem dX6_newPerson_49 : decode cX6_newPerson 49 = .ok (.iload_n 3, 1) := by decide +kernel
theorem dX6_newPerson_50 : decode cX6_newPerson 50 = .ok (.invokespecial 112, 3) := by decide +kernel
theorem dX6_newPerson_53 : decode cX6_newPerson 53 = .ok (.areturn, 1) := by decide +kernel
theorem dX6_newPerson_54 : decode cX6_newPerson 54 = .ok (.new 113, 3) := by decide +kernel
theorem dX6_newPerson_57 : decode cX6_newPerson 57 = .ok (.dup, 1) := by decide +kernel
theorem dX6_newPerson_58 : decode cX6_newPerson 58 = .ok (.iload_n 1, 1) := by decide +kernel
theorem dX6_newPerson_59 : decode cX6_newPerson 59 = .ok (.iload_n 2, 1) := by decide +kernel
theorem dX6_newPerson_60 : decode cX6_newPerson 60 = .ok (.iload_n 3, 1) := by decide +kernel
theorem dX6_newPerson_61 : decode cX6_newPerson 61 = .ok (.invokespecial 115, 3) := by decide +kernel
theorem dX6_newPerson_64 : decode cX6_newPerson 64 = .ok (.areturn, 1) := by decide +kernel
theorem dX6_newPerson_65 : decode cX6_newPerson 65 = .ok (.new 116, 3) := by decide +kernel
theorem dX6_newPerson_68 : decode cX6_newPerson 68 = .ok (.dup, 1) := by decide +kernel
theorem dX6_newPerson_69 : decode cX6_newPerson 69 = .ok (.iload_n 1, 1) := by decide +kernel
theorem dX6_newPerson_70 : decode cX6_newPerson 70 = .ok (.iload_n 2, 1) := by decide +kernel
theorem dX6_newPerson_71 : decode cX6_newPerson 71 = .ok (.iload_n 3, 1) := by decide +kernel
theorem dX6_newPerson_72 : decode cX6_newPerson 72 = .ok (.invokespecial 118, 3) := by decide +kernel
theorem dX6_newPerson_75 : decode cX6_newPerson 75 = .ok (.areturn, 1) := by decide +kernel
theorem dX6_newPerson_76 : decode cX6_newPerson 76 = .ok (.new 119, 3) := by decide +kernel
theorem dX6_newPerson_79 : decode cX6_newPerson 79 = .ok (.dup, 1) := by decide +kernel
theorem dX6_newPerson_80 : decode cX6_newPerson 80 = .ok (.iload_n 1, 1) := by decide +kernel
theorem dX6_newPerson_81 : decode cX6_newPerson 81 = .ok (.iload_n 2, 1) := by decide +kernel
theorem dX6_newPerson_82 : decode cX6_newPerson 82 = .ok (.iload_n 3, 1) := by decide +kernel
theorem dX6_newPerson_83 : decode cX6_newPerson 83 = .ok (.invokespecial 121, 3) := by decide +kernel
theorem dX6_newPerson_86 : decode cX6_newPerson 86 = .ok (.areturn, 1) := by decide +kernel
theorem dX6_number_0 : decode cX6_number 0 = .ok (.aload_n 0, 1) := by decide +kernel
theorem dX6_number_1 : decode cX6_number 1 = .ok (.getfield 48, 3) := by decide +kernel
theorem dX6_number_4 : decode cX6_number 4 = .ok (.iconst 2, 1) := by decide +kernel
theorem dX6_number_5 : decode cX6_number 5 = .ok (.if_icmp .eq 11, 3) := by decide +kernel
theorem dX6_number_8 : decode cX6_number 8 = .ok (.aload_n 0, 1) := by decide +kernel
theorem dX6_number_9 : decode cX6_number 9 = .ok (.iconst 1, 1) := by decide +kernel
theorem dX6_number_10 : decode cX6_number 10 = .ok (.invokevirtual 51, 3) := by decide +kernel
theorem dX6_number_13 : decode cX6_number 13 = .ok (.pop, 1) := by decide +kernel
theorem dX6_number_14 : decode cX6_number 14 = .ok (.iconst (-1), 1) := by decide +kernel
theorem dX6_number_15 : decode cX6_number 15 = .ok (.ireturn, 1) := by decide +kernel
theorem dX6_number_16 : decode cX6_number 16 = .ok (.aload_n 0, 1) := by decide +kernel
theorem dX6_number_17 : decode cX6_number 17 = .ok (.getfield 77, 3) := by decide +kernel
theorem dX6_number_20 : decode cX6_number 20 = .ok (.iload_n 1, 1) := by decide +kernel
theorem dX6_number_21 : decode cX6_number 21 = .ok (.if_icmp .lt 11, 3) := by decide +kernel
theorem dX6_number_24 : decode cX6_number 24 = .ok (.aload_n 0, 1) := by decide +kernel
theorem dX6_number_25 : decode cX6_number 25 = .ok (.getfield 77, 3) := by decide +kernel
theorem dX6_number_28 : decode cX6_number 28 = .ok (.iload_n 2, 1) := by decide +kernel
theorem dX6_number_29 : decode cX6_number 29 = .ok (.if_icmp .le 11, 3) := by decide +kernel
theorem dX6_number_32 : decode cX6_number 32 = .ok (.aload_n 0, 1) := by decide +kernel
theorem dX6_number_33 : decode cX6_number 33 = .ok (.iconst 2, 1) := by decide +kernel
theorem dX6_number_34 : decode cX6_number 34 = .ok (.invokevirtual 51, 3) := by decide +kernel
theorem dX6_number_37 : decode cX6_number 37 = .ok (.pop, 1) := by decide +kernel
theorem dX6_number_38 : decode cX6_number 38 = .ok (.iconst (-1), 1) := by decide +kernel
theorem dX6_number_39 : decode cX6_number 39 = .ok (.ireturn, 1) := by decide +kernel
theorem dX6_number_40 : decode cX6_number 40 = .ok (.aload_n 0, 1) := by decide +kernel
theorem dX6_number_41 : decode cX6_number 41 = .ok (.getfield 77, 3) := by decide +kernel
theorem dX6_number_44 : decode cX6_number 44 = .ok (.istore_n 3, 1) := by decide +kernel
theorem dX6_number_45 : decode cX6_number 45 = .ok (.aload_n 0, 1) := by decide +kernel
theorem dX6_number_46 : decode cX6_number 46 = .ok (.invokevirtual 27, 3) := by decide +kernel
theorem dX6_number_49 : decode cX6_number 49 = .ok (.iload_n 3, 1) := by decide +kernel
theorem dX6_number_50 : decode cX6_number 50 = .ok (.ireturn, 1) := by decide +kernel
theorem dX6_passSemicolon_0 : decode cX6_passSemicolon 0 = .ok (.aload_n 0, 1) := by decide +kernel
theorem dX6_passSemicolon_1 : decode cX6_passSemicolon 1 = .ok (.getfield 48, 3) := by decide +kernel
theorem dX6_passSemicolon_4 : decode cX6_passSemicolon 4 = .ok (.iconst 3, 1) := by decide +kernel
theorem dX6_passSemicolon_5 : decode cX6_passSemicolon 5 = .ok (.if_icmp .eq 9, 3) := by decide +kernel
theorem dX6_passSemicolon_8 : decode cX6_passSemicolon 8 = .ok (.aload_n 0, 1) := by decide +kernel
theorem dX6_passSemicolon_9 : decode cX6_passSemicolon 9 = .ok (.iconst 1, 1) := by decide +kernel
theorem dX6_passSemicolon_10 : decode cX6_passSemicolon 10 = .ok (.invokevirtual 51, 3) := by decide +kernel
theorem dX6_passSemicolon_13 : decode cX6_passSemicolon 13 = .ok (.ireturn, 1) := by decide +kernel
theorem dX6_passSemicolon_14 : decode cX6_passSemicolon 14 = .ok (.aload_n 0, 1) := by decide +kernel
theorem dX6_passSemicolon_15 : decode cX6_passSemicolon 15 = .ok (.invokevirtual 27, 3) := by decide +kernel
theorem dX6_passSemicolon_18 : decode cX6_passSemicolon 18 = .ok (.iconst 1, 1) := by decide +kernel
theorem dX6_passSemicolon_19 : decode cX6_passSemicolon 19 = .ok (.ireturn, 1) := by decide +kernel
theorem dX6_refuse_0 : decode cX6_refuse 0 = .ok (.aload_n 0, 1) := by decide +kernel
theorem dX6_refuse_1 : decode cX6_refuse 1 = .ok (.iload_n 1, 1) := by decide +kernel
theorem dX6_refuse_2 : decode cX6_refuse 2 = .ok (.putfield 122, 3) := by decide +kernel
theorem dX6_refuse_5 : decode cX6_refuse 5 = .ok (.aload_n 0, 1) := by decide +kernel
theorem dX6_refuse_6 : decode cX6_refuse 6 = .ok (.aload_n 0, 1) := by decide +kernel
theorem dX6_refuse_7 : decode cX6_refuse 7 = .ok (.getfield 125, 3) := by decide +kernel
theorem dX6_refuse_10 : decode cX6_refuse 10 = .ok (.putfield 128, 3) := by decide +kernel
theorem dX6_refuse_13 : decode cX6_refuse 13 = .ok (.iconst 0, 1) := by decide +kernel
theorem dX6_refuse_14 : decode cX6_refuse 14 = .ok (.ireturn, 1) := by decide +kernel
theorem dX6_isWord_0 : decode cX6_isWord 0 = .ok (.aload_n 0, 1) := by decide +kernel
theorem dX6_isWord_1 : decode cX6_isWord 1 = .ok (.getfield 48, 3) := by decide +kernel
theorem dX6_isWord_4 : decode cX6_isWord 4 = .ok (.iconst 1, 1) := by decide +kernel
theorem dX6_isWord_5 : decode cX6_isWord 5 = .ok (.if_icmp .ne 19, 3) := by decide +kernel
theorem dX6_isWord_8 : decode cX6_isWord 8 = .ok (.aload_n 0, 1) := by decide +kernel
theorem dX6_isWord_9 : decode cX6_isWord 9 = .ok (.getfield 24, 3) := by decide +kernel
theorem dX6_isWord_12 : decode cX6_isWord 12 = .ok (.aload_n 0, 1) := by decide +kernel
theorem dX6_isWord_13 : decode cX6_isWord 13 = .ok (.getfield 125, 3) := by decide +kernel
theorem dX6_isWord_16 : decode cX6_isWord 16 = .ok (.isub, 1) := by decide +kernel
theorem dX6_isWord_17 : decode cX6_isWord 17 = .ok (.aload_n 1, 1) := by decide +kernel
theorem dX6_isWord_18 : decode cX6_isWord 18 = .ok (.invokevirtual 131, 3) := by decide +kernel
theorem dX6_isWord_21 : decode cX6_isWord 21 = .ok (.if_icmp .eq 5, 3) := by decide +kernel
theorem dX6_isWord_24 : decode cX6_isWord 24 = .ok (.iconst 0, 1) := by decide +kernel
theorem dX6_isWord_25 : decode cX6_isWord 25 = .ok (.ireturn, 1) := by decide +kernel
theorem dX6_isWord_26 : decode cX6_isWord 26 = .ok (.iconst 0, 1) := by decide +kernel
theorem dX6_isWord_27 : decode cX6_isWord 27 = .ok (.istore_n 2, 1) := by decide +kernel
theorem dX6_isWord_28 : decode cX6_isWord 28 = .ok (.iload_n 2, 1) := by decide +kernel
theorem dX6_isWord_29 : decode cX6_isWord 29 = .ok (.aload_n 1, 1) := by decide +kernel
theorem dX6_isWord_30 : decode cX6_isWord 30 = .ok (.invokevirtual 131, 3) := by decide +kernel
theorem dX6_isWord_33 : decode cX6_isWord 33 = .ok (.if_icmp .ge 30, 3) := by decide +kernel
theorem dX6_isWord_36 : decode cX6_isWord 36 = .ok (.aload_n 0, 1) := by decide +kernel
theorem dX6_isWord_37 : decode cX6_isWord 37 = .ok (.getfield 11, 3) := by decide +kernel
theorem dX6_isWord_40 : decode cX6_isWord 40 = .ok (.aload_n 0, 1) := by decide +kernel
theorem dX6_isWord_41 : decode cX6_isWord 41 = .ok (.getfield 125, 3) := by decide +kernel
theorem dX6_isWord_44 : decode cX6_isWord 44 = .ok (.iload_n 2, 1) := by decide +kernel
theorem dX6_isWord_45 : decode cX6_isWord 45 = .ok (.iadd, 1) := by decide +kernel
theorem dX6_isWord_46 : decode cX6_isWord 46 = .ok (.baload, 1) := by decide +kernel
theorem dX6_isWord_47 : decode cX6_isWord 47 = .ok (.aload_n 1, 1) := by decide +kernel
theorem dX6_isWord_48 : decode cX6_isWord 48 = .ok (.iload_n 2, 1) := by decide +kernel
theorem dX6_isWord_49 : decode cX6_isWord 49 = .ok (.invokevirtual 136, 3) := by decide +kernel
theorem dX6_isWord_52 : decode cX6_isWord 52 = .ok (.if_icmp .eq 5, 3) := by decide +kernel
theorem dX6_isWord_55 : decode cX6_isWord 55 = .ok (.iconst 0, 1) := by decide +kernel
theorem dX6_isWord_56 : decode cX6_isWord 56 = .ok (.ireturn, 1) := by decide +kernel
theorem dX6_isWord_57 : decode cX6_isWord 57 = .ok (.iinc 2 1, 3) := by decide +kernel
theorem dX6_isWord_60 : decode cX6_isWord 60 = .ok (.goto (-32), 3) := by decide +kernel
theorem dX6_isWord_63 : decode cX6_isWord 63 = .ok (.iconst 1, 1) := by decide +kernel
theorem dX6_isWord_64 : decode cX6_isWord 64 = .ok (.ireturn, 1) := by decide +kernel
theorem dX6_next_0 : decode cX6_next 0 = .ok (.aload_n 0, 1) := by decide +kernel
theorem dX6_next_1 : decode cX6_next 1 = .ok (.aload_n 0, 1) := by decide +kernel
theorem dX6_next_2 : decode cX6_next 2 = .ok (.getfield 24, 3) := by decide +kernel
theorem dX6_next_5 : decode cX6_next 5 = .ok (.putfield 125, 3) := by decide +kernel
theorem dX6_next_8 : decode cX6_next 8 = .ok (.aload_n 0, 1) := by decide +kernel
theorem dX6_next_9 : decode cX6_next 9 = .ok (.getfield 125, 3) := by decide +kernel
theorem dX6_next_12 : decode cX6_next 12 = .ok (.aload_n 0, 1) := by decide +kernel
theorem dX6_next_13 : decode cX6_next 13 = .ok (.getfield 15, 3) := by decide +kernel
theorem dX6_next_16 : decode cX6_next 16 = .ok (.if_icmp .ge 31, 3) := by decide +kernel
theorem dX6_next_19 : decode cX6_next 19 = .ok (.aload_n 0, 1) := by decide +kernel
theorem dX6_next_20 : decode cX6_next 20 = .ok (.getfield 11, 3) := by decide +kernel
theorem dX6_next_23 : decode cX6_next 23 = .ok (.aload_n 0, 1) := by decide +kernel
theorem dX6_next_24 : decode cX6_next 24 = .ok (.getfield 125, 3) := by decide +kernel
theorem dX6_next_27 : decode cX6_next 27 = .ok (.baload, 1) := by decide +kernel
theorem dX6_next_28 : decode cX6_next 28 = .ok (.invokestatic 140, 3) := by decide +kernel
theorem dX6_next_31 : decode cX6_next 31 = .ok (.ifCond .eq 16, 3) := by decide +kernel
theorem dX6_next_34 : decode cX6_next 34 = .ok (.aload_n 0, 1) := by decide +kernel
theorem dX6_next_35 : decode cX6_next 35 = .ok (.dup, 1) := by decide +kernel
theorem dX6_next_36 : decode cX6_next 36 = .ok (.getfield 125, 3) := by decide +kernel
theorem dX6_next_39 : decode cX6_next 39 = .ok (.iconst 1, 1) := by decide +kernel
theorem dX6_next_40 : decode cX6_next 40 = .ok (.iadd, 1) := by decide +kernel
theorem dX6_next_41 : decode cX6_next 41 = .ok (.putfield 125, 3) := by decide +kernel
theorem dX6_next_44 : decode cX6_next 44 = .ok (.goto (-36), 3) := by decide +kernel
theorem dX6_next_47 : decode cX6_next 47 = .ok (.aload_n 0, 1) := by decide +kernel
theorem dX6_next_48 : decode cX6_next 48 = .ok (.aload_n 0, 1) := by decide +kernel
theorem dX6_next_49 : decode cX6_next 49 = .ok (.getfield 125, 3) := by decide +kernel
theorem dX6_next_52 : decode cX6_next 52 = .ok (.putfield 24, 3) := by decide +kernel
theorem dX6_next_55 : decode cX6_next 55 = .ok (.aload_n 0, 1) := by decide +kernel
theorem dX6_next_56 : decode cX6_next 56 = .ok (.getfield 125, 3) := by decide +kernel
theorem dX6_next_59 : decode cX6_next 59 = .ok (.aload_n 0, 1) := by decide +kernel
theorem dX6_next_60 : decode cX6_next 60 = .ok (.getfield 15, 3) := by decide +kernel
theorem dX6_next_63 : decode cX6_next 63 = .ok (.if_icmp .lt 11, 3) := by decide +kernel
theorem dX6_next_66 : decode cX6_next 66 = .ok (.aload_n 0, 1) := by decide +kernel
theorem dX6_next_67 : decode cX6_next 67 = .ok (.iconst 0, 1) := by decide +kernel
theorem dX6_next_68 : decode cX6_next 68 = .ok (.putfield 48, 3) := by decide +kernel
theorem dX6_next_71 : decode cX6_next 71 = .ok (.goto 80, 3) := by decide +kernel
theorem dX6_next_74 : decode cX6_next 74 = .ok (.aload_n 0, 1) := by decide +kernel
theorem dX6_next_75 : decode cX6_next 75 = .ok (.getfield 11, 3) := by decide +kernel
theorem dX6_next_78 : decode cX6_next 78 = .ok (.aload_n 0, 1) := by decide +kernel
theorem dX6_next_79 : decode cX6_next 79 = .ok (.getfield 125, 3) := by decide +kernel
theorem dX6_next_82 : decode cX6_next 82 = .ok (.baload, 1) := by decide +kernel
theorem dX6_next_83 : decode cX6_next 83 = .ok (.invokestatic 144, 3) := by decide +kernel
theorem dX6_next_86 : decode cX6_next 86 = .ok (.ifCond .eq 10, 3) := by decide +kernel
theorem dX6_next_89 : decode cX6_next 89 = .ok (.aload_n 0, 1) := by decide +kernel
theorem dX6_next_90 : decode cX6_next 90 = .ok (.invokevirtual 147, 3) := by decide +kernel
theorem dX6_next_93 : decode cX6_next 93 = .ok (.goto 58, 3) := by decide +kernel
theorem dX6_next_96 : decode cX6_next 96 = .ok (.aload_n 0, 1) := by decide +kernel
theorem dX6_next_97 : decode cX6_next 97 = .ok (.getfield 11, 3) := by decide +kernel
theorem dX6_next_100 : decode cX6_next 100 = .ok (.aload_n 0, 1) := by decide +kernel
theorem dX6_next_101 : decode cX6_next 101 = .ok (.getfield 125, 3) := by decide +kernel
theorem dX6_next_104 : decode cX6_next 104 = .ok (.baload, 1) := by decide +kernel
theorem dX6_next_105 : decode cX6_next 105 = .ok (.invokestatic 150, 3) := by decide +kernel
theorem dX6_next_108 : decode cX6_next 108 = .ok (.ifCond .eq 10, 3) := by decide +kernel
theorem dX6_next_111 : decode cX6_next 111 = .ok (.aload_n 0, 1) := by decide +kernel
theorem dX6_next_112 : decode cX6_next 112 = .ok (.invokevirtual 153, 3) := by decide +kernel
theorem dX6_next_115 : decode cX6_next 115 = .ok (.goto 36, 3) := by decide +kernel
theorem dX6_next_118 : decode cX6_next 118 = .ok (.aload_n 0, 1) := by decide +kernel
theorem dX6_next_119 : decode cX6_next 119 = .ok (.aload_n 0, 1) := by decide +kernel
theorem dX6_next_120 : decode cX6_next 120 = .ok (.getfield 11, 3) := by decide +kernel
theorem dX6_next_123 : decode cX6_next 123 = .ok (.aload_n 0, 1) := by decide +kernel
theorem dX6_next_124 : decode cX6_next 124 = .ok (.getfield 125, 3) := by decide +kernel
theorem dX6_next_127 : decode cX6_next 127 = .ok (.baload, 1) := by decide +kernel
theorem dX6_next_128 : decode cX6_next 128 = .ok (.bipush 59, 2) := by decide +kernel
theorem dX6_next_130 : decode cX6_next 130 = .ok (.if_icmp .ne 7, 3) := by decide +kernel
theorem dX6_next_133 : decode cX6_next 133 = .ok (.iconst 3, 1) := by decide +kernel
theorem dX6_next_134 : decode cX6_next 134 = .ok (.goto 4, 3) := by decide +kernel
theorem dX6_next_137 : decode cX6_next 137 = .ok (.iconst 4, 1) := by decide +kernel
theorem dX6_next_138 : decode cX6_next 138 = .ok (.putfield 48, 3) := by decide +kernel
theorem dX6_next_141 : decode cX6_next 141 = .ok (.aload_n 0, 1) := by decide +kernel
theorem dX6_next_142 : decode cX6_next 142 = .ok (.dup, 1) := by decide +kernel
theorem dX6_next_143 : decode cX6_next 143 = .ok (.getfield 24, 3) := by decide +kernel
theorem dX6_next_146 : decode cX6_next 146 = .ok (.iconst 1, 1) := by decide +kernel
theorem dX6_next_147 : decode cX6_next 147 = .ok (.iadd, 1) := by decide +kernel
theorem dX6_next_148 : decode cX6_next 148 = .ok (.putfield 24, 3) := by decide +kernel
theorem dX6_next_151 : decode cX6_next 151 = .ok (.return_, 1) := by decide +kernel
theorem dX6_passLetters_0 : decode cX6_passLetters 0 = .ok (.aload_n 0, 1) := by decide +kernel
theorem dX6_passLetters_1 : decode cX6_passLetters 1 = .ok (.iconst 1, 1) := by decide +kernel
theorem dX6_passLetters_2 : decode cX6_passLetters 2 = .ok (.putfield 48, 3) := by decide +kernel
theorem dX6_passLetters_5 : decode cX6_passLetters 5 = .ok (.aload_n 0, 1) := by decide +kernel
theorem dX6_passLetters_6 : decode cX6_passLetters 6 = .ok (.getfield 24, 3) := by decide +kernel
theorem dX6_passLetters_9 : decode cX6_passLetters 9 = .ok (.aload_n 0, 1) := by decide +kernel
theorem dX6_passLetters_10 : decode cX6_passLetters 10 = .ok (.getfield 15, 3) := by decide +kernel
theorem dX6_passLetters_13 : decode cX6_passLetters 13 = .ok (.if_icmp .ge 31, 3) := by decide +kernel
theorem dX6_passLetters_16 : decode cX6_passLetters 16 = .ok (.aload_n 0, 1) := by decide +kernel
theorem dX6_passLetters_17 : decode cX6_passLetters 17 = .ok (.getfield 11, 3) := by decide +kernel
theorem dX6_passLetters_20 : decode cX6_passLetters 20 = .ok (.aload_n 0, 1) := by decide +kernel
theorem dX6_passLetters_21 : decode cX6_passLetters 21 = .ok (.getfield 24, 3) := by decide +kernel
theorem dX6_passLetters_24 : decode cX6_passLetters 24 = .ok (.baload, 1) := by decide +kernel
theorem dX6_passLetters_25 : decode cX6_passLetters 25 = .ok (.invokestatic 144, 3) := by decide +kernel
theorem dX6_passLetters_28 : decode cX6_passLetters 28 = .ok (.ifCond .eq 16, 3) := by decide +kernel
theorem dX6_passLetters_31 : decode cX6_passLetters 31 = .ok (.aload_n 0, 1) := by decide +kernel
theorem dX6_passLetters_32 : decode cX6_passLetters 32 = .ok (.dup, 1) := by decide +kernel
theorem dX6_passLetters_33 : decode cX6_passLetters 33 = .ok (.getfield 24, 3) := by decide +kernel
theorem dX6_passLetters_36 : decode cX6_passLetters 36 = .ok (.iconst 1, 1) := by decide +kernel
theorem dX6_passLetters_37 : decode cX6_passLetters 37 = .ok (.iadd, 1) := by decide +kernel
theorem dX6_passLetters_38 : decode cX6_passLetters 38 = .ok (.putfield 24, 3) := by decide +kernel
theorem dX6_passLetters_41 : decode cX6_passLetters 41 = .ok (.goto (-36), 3) := by decide +kernel
theorem dX6_passLetters_44 : decode cX6_passLetters 44 = .ok (.return_, 1) := by decide +kernel
theorem dX6_passFigures_0 : decode cX6_passFigures 0 = .ok (.aload_n 0, 1) := by decide +kernel
theorem dX6_passFigures_1 : decode cX6_passFigures 1 = .ok (.iconst 0, 1) := by decide +kernel
theorem dX6_passFigures_2 : decode cX6_passFigures 2 = .ok (.putfield 77, 3) := by decide +kernel
theorem dX6_passFigures_5 : decode cX6_passFigures 5 = .ok (.aload_n 0, 1) := by decide +kernel
theorem dX6_passFigures_6 : decode cX6_passFigures 6 = .ok (.getfield 24, 3) := by decide +kernel
theorem dX6_passFigures_9 : decode cX6_passFigures 9 = .ok (.aload_n 0, 1) := by decide +kernel
theorem dX6_passFigures_10 : decode cX6_passFigures 10 = .ok (.getfield 15, 3) := by decide +kernel
theorem dX6_passFigures_13 : decode cX6_passFigures 13 = .ok (.if_icmp .ge 55, 3) := by decide +kernel
theorem dX6_passFigures_16 : decode cX6_passFigures 16 = .ok (.aload_n 0, 1) := by decide +kernel
theorem dX6_passFigures_17 : decode cX6_passFigures 17 = .ok (.getfield 11, 3) := by decide +kernel
theorem dX6_passFigures_20 : decode cX6_passFigures 20 = .ok (.aload_n 0, 1) := by decide +kernel
theorem dX6_passFigures_21 : decode cX6_passFigures 21 = .ok (.getfield 24, 3) := by decide +kernel
theorem dX6_passFigures_24 : decode cX6_passFigures 24 = .ok (.baload, 1) := by decide +kernel
theorem dX6_passFigures_25 : decode cX6_passFigures 25 = .ok (.invokestatic 150, 3) := by decide +kernel
theorem dX6_passFigures_28 : decode cX6_passFigures 28 = .ok (.ifCond .eq 40, 3) := by decide +kernel
theorem dX6_passFigures_31 : decode cX6_passFigures 31 = .ok (.aload_n 0, 1) := by decide +kernel
theorem dX6_passFigures_32 : decode cX6_passFigures 32 = .ok (.bipush 10, 2) := by decide +kernel
theorem dX6_passFigures_34 : decode cX6_passFigures 34 = .ok (.aload_n 0, 1) := by decide +kernel
theorem dX6_passFigures_35 : decode cX6_passFigures 35 = .ok (.getfield 77, 3) := by decide +kernel
theorem dX6_passFigures_38 : decode cX6_passFigures 38 = .ok (.imul, 1) := by decide +kernel
theorem dX6_passFigures_39 : decode cX6_passFigures 39 = .ok (.aload_n 0, 1) := by decide +kernel
theorem dX6_passFigures_40 : decode cX6_passFigures 40 = .ok (.getfield 11, 3) := by decide +kernel
theorem dX6_passFigures_43 : decode cX6_passFigures 43 = .ok (.aload_n 0, 1) := by decide +kernel
theorem dX6_passFigures_44 : decode cX6_passFigures 44 = .ok (.getfield 24, 3) := by decide +kernel
theorem dX6_passFigures_47 : decode cX6_passFigures 47 = .ok (.baload, 1) := by decide +kernel
theorem dX6_passFigures_48 : decode cX6_passFigures 48 = .ok (.iadd, 1) := by decide +kernel
theorem dX6_passFigures_49 : decode cX6_passFigures 49 = .ok (.bipush 48, 2) := by decide +kernel
theorem dX6_passFigures_51 : decode cX6_passFigures 51 = .ok (.isub, 1) := by decide +kernel
theorem dX6_passFigures_52 : decode cX6_passFigures 52 = .ok (.putfield 77, 3) := by decide +kernel
theorem dX6_passFigures_55 : decode cX6_passFigures 55 = .ok (.aload_n 0, 1) := by decide +kernel
theorem dX6_passFigures_56 : decode cX6_passFigures 56 = .ok (.dup, 1) := by decide +kernel
theorem dX6_passFigures_57 : decode cX6_passFigures 57 = .ok (.getfield 24, 3) := by decide +kernel
theorem dX6_passFigures_60 : decode cX6_passFigures 60 = .ok (.iconst 1, 1) := by decide +kernel
theorem dX6_passFigures_61 : decode cX6_passFigures 61 = .ok (.iadd, 1) := by decide +kernel
theorem dX6_passFigures_62 : decode cX6_passFigures 62 = .ok (.putfield 24, 3) := by decide +kernel
theorem dX6_passFigures_65 : decode cX6_passFigures 65 = .ok (.goto (-60), 3) := by decide +kernel
theorem dX6_passFigures_68 : decode cX6_passFigures 68 = .ok (.aload_n 0, 1) := by decide +kernel
theorem dX6_passFigures_69 : decode cX6_passFigures 69 = .ok (.aload_n 0, 1) := by decide +kernel
theorem dX6_passFigures_70 : decode cX6_passFigures 70 = .ok (.getfield 24, 3) := by decide +kernel
theorem dX6_passFigures_73 : decode cX6_passFigures 73 = .ok (.aload_n 0, 1) := by decide +kernel
theorem dX6_passFigures_74 : decode cX6_passFigures 74 = .ok (.getfield 125, 3) := by decide +kernel
theorem dX6_passFigures_77 : decode cX6_passFigures 77 = .ok (.isub, 1) := by decide +kernel
theorem dX6_passFigures_78 : decode cX6_passFigures 78 = .ok (.iconst 3, 1) := by decide +kernel
theorem dX6_passFigures_79 : decode cX6_passFigures 79 = .ok (.if_icmp .gt 7, 3) := by decide +kernel
theorem dX6_passFigures_82 : decode cX6_passFigures 82 = .ok (.iconst 2, 1) := by decide +kernel
theorem dX6_passFigures_83 : decode cX6_passFigures 83 = .ok (.goto 4, 3) := by decide +kernel
theorem dX6_passFigures_86 : decode cX6_passFigures 86 = .ok (.iconst 4, 1) := by decide +kernel
theorem dX6_passFigures_87 : decode cX6_passFigures 87 = .ok (.putfield 48, 3) := by decide +kernel
theorem dX6_passFigures_90 : decode cX6_passFigures 90 = .ok (.return_, 1) := by decide +kernel
theorem dX6_isBlank_0 : decode cX6_isBlank 0 = .ok (.iload_n 0, 1) := by decide +kernel
theorem dX6_isBlank_1 : decode cX6_isBlank 1 = .ok (.bipush 32, 2) := by decide +kernel
theorem dX6_isBlank_3 : decode cX6_isBlank 3 = .ok (.if_icmp .eq 9, 3) := by decide +kernel
theorem dX6_isBlank_6 : decode cX6_isBlank 6 = .ok (.iload_n 0, 1) := by decide +kernel
theorem dX6_isBlank_7 : decode cX6_isBlank 7 = .ok (.bipush 10, 2) := by decide +kernel
theorem dX6_isBlank_9 : decode cX6_isBlank 9 = .ok (.if_icmp .ne 7, 3) := by decide +kernel
theorem dX6_isBlank_12 : decode cX6_isBlank 12 = .ok (.iconst 1, 1) := by decide +kernel
theorem dX6_isBlank_13 : decode cX6_isBlank 13 = .ok (.goto 4, 3) := by decide +kernel
theorem dX6_isBlank_16 : decode cX6_isBlank 16 = .ok (.iconst 0, 1) := by decide +kernel
theorem dX6_isBlank_17 : decode cX6_isBlank 17 = .ok (.ireturn, 1) := by decide +kernel
theorem dX6_isLetter_0 : decode cX6_isLetter 0 = .ok (.iload_n 0, 1) := by decide +kernel
theorem dX6_isLetter_1 : decode cX6_isLetter 1 = .ok (.bipush 97, 2) := by decide +kernel
theorem dX6_isLetter_3 : decode cX6_isLetter 3 = .ok (.if_icmp .lt 13, 3) := by decide +kernel
theorem dX6_isLetter_6 : decode cX6_isLetter 6 = .ok (.iload_n 0, 1) := by decide +kernel
theorem dX6_isLetter_7 : decode cX6_isLetter 7 = .ok (.bipush 122, 2) := by decide +kernel
theorem dX6_isLetter_9 : decode cX6_isLetter 9 = .ok (.if_icmp .gt 7, 3) := by decide +kernel
theorem dX6_isLetter_12 : decode cX6_isLetter 12 = .ok (.iconst 1, 1) := by decide +kernel
theorem dX6_isLetter_13 : decode cX6_isLetter 13 = .ok (.goto 4, 3) := by decide +kernel
theorem dX6_isLetter_16 : decode cX6_isLetter 16 = .ok (.iconst 0, 1) := by decide +kernel
theorem dX6_isLetter_17 : decode cX6_isLetter 17 = .ok (.ireturn, 1) := by decide +kernel
theorem dX6_isFigure_0 : decode cX6_isFigure 0 = .ok (.iload_n 0, 1) := by decide +kernel
theorem dX6_isFigure_1 : decode cX6_isFigure 1 = .ok (.bipush 48, 2) := by decide +kernel
theorem dX6_isFigure_3 : decode cX6_isFigure 3 = .ok (.if_icmp .lt 13, 3) := by decide +kernel
theorem dX6_isFigure_6 : decode cX6_isFigure 6 = .ok (.iload_n 0, 1) := by decide +kernel
theorem dX6_isFigure_7 : decode cX6_isFigure 7 = .ok (.bipush 57, 2) := by decide +kernel
theorem dX6_isFigure_9 : decode cX6_isFigure 9 = .ok (.if_icmp .gt 7, 3) := by decide +kernel
theorem dX6_isFigure_12 : decode cX6_isFigure 12 = .ok (.iconst 1, 1) := by decide +kernel
theorem dX6_isFigure_13 : decode cX6_isFigure 13 = .ok (.goto 4, 3) := by decide +kernel
theorem dX6_isFigure_16 : decode cX6_isFigure 16 = .ok (.iconst 0, 1) := by decide +kernel
theorem dX6_isFigure_17 : decode cX6_isFigure 17 = .ok (.ireturn, 1) := by decide +kernel
theorem dX7_init_0 : decode cX7_init 0 = .ok (.aload_n 0, 1) := by decide +kernel
theorem dX7_init_1 : decode cX7_init 1 = .ok (.invokespecial 3, 3) := by decide +kernel
theorem dX7_init_4 : decode cX7_init 4 = .ok (.aload_n 0, 1) := by decide +kernel
theorem dX7_init_5 : decode cX7_init 5 = .ok (.bipush 40, 2) := by decide +kernel
theorem dX7_init_7 : decode cX7_init 7 = .ok (.newarray .int, 2) := by decide +kernel
theorem dX7_init_9 : decode cX7_init 9 = .ok (.putfield 9, 3) := by decide +kernel
theorem dX7_init_12 : decode cX7_init 12 = .ok (.aload_n 0, 1) := by decide +kernel
theorem dX7_init_13 : decode cX7_init 13 = .ok (.iconst (-1), 1) := by decide +kernel
theorem dX7_init_14 : decode cX7_init 14 = .ok (.putfield 15, 3) := by decide +kernel
theorem dX7_init_17 : decode cX7_init 17 = .ok (.return_, 1) := by decide +kernel
theorem dX7_isMissing_0 : decode cX7_isMissing 0 = .ok (.aload_n 0, 1) := by decide +kernel
theorem dX7_isMissing_1 : decode cX7_isMissing 1 = .ok (.getfield 15, 3) := by decide +kernel
theorem dX7_isMissing_4 : decode cX7_isMissing 4 = .ok (.iconst (-1), 1) := by decide +kernel
theorem dX7_isMissing_5 : decode cX7_isMissing 5 = .ok (.if_icmp .ne 7, 3) := by decide +kernel
theorem dX7_isMissing_8 : decode cX7_isMissing 8 = .ok (.iconst 1, 1) := by decide +kernel
theorem dX7_isMissing_9 : decode cX7_isMissing 9 = .ok (.goto 4, 3) := by decide +kernel
theorem dX7_isMissing_12 : decode cX7_isMissing 12 = .ok (.iconst 0, 1) := by decide +kernel
theorem dX7_isMissing_13 : decode cX7_isMissing 13 = .ok (.ireturn, 1) := by decide +kernel
theorem dX7_begin_0 : decode cX7_begin 0 = .ok (.aload_n 0, 1) := by decide +kernel
theorem dX7_begin_1 : decode cX7_begin 1 = .ok (.iload_n 1, 1) := by decide +kernel
theorem dX7_begin_2 : decode cX7_begin 2 = .ok (.putfield 15, 3) := by decide +kernel
theorem dX7_begin_5 : decode cX7_begin 5 = .ok (.aload_n 0, 1) := by decide +kernel
theorem dX7_begin_6 : decode cX7_begin 6 = .ok (.iload_n 2, 1) := by decide +kernel
theorem dX7_begin_7 : decode cX7_begin 7 = .ok (.putfield 19, 3) := by decide +kernel
theorem dX7_begin_10 : decode cX7_begin 10 = .ok (.iconst 0, 1) := by decide +kernel
theorem dX7_begin_11 : decode cX7_begin 11 = .ok (.istore_n 3, 1) := by decide +kernel
theorem dX7_begin_12 : decode cX7_begin 12 = .ok (.iload_n 3, 1) := by decide +kernel
theorem dX7_begin_13 : decode cX7_begin 13 = .ok (.bipush 40, 2) := by decide +kernel
theorem dX7_begin_15 : decode cX7_begin 15 = .ok (.if_icmp .ge 16, 3) := by decide +kernel
theorem dX7_begin_18 : decode cX7_begin 18 = .ok (.aload_n 0, 1) := by decide +kernel
theorem dX7_begin_19 : decode cX7_begin 19 = .ok (.getfield 9, 3) := by decide +kernel
theorem dX7_begin_22 : decode cX7_begin 22 = .ok (.iload_n 3, 1) := by decide +kernel
theorem dX7_begin_23 : decode cX7_begin 23 = .ok (.iconst 0, 1) := by decide +kernel
theorem dX7_begin_24 : decode cX7_begin 24 = .ok (.iastore, 1) := by decide +kernel
theorem dX7_begin_25 : decode cX7_begin 25 = .ok (.iinc 3 1, 3) := by decide +kernel
theorem dX7_begin_28 : decode cX7_begin 28 = .ok (.goto (-16), 3) := by decide +kernel
theorem dX7_begin_31 : decode cX7_begin 31 = .ok (.return_, 1) := by decide +kernel
theorem dX7_end_0 : decode cX7_end 0 = .ok (.aload_n 0, 1) := by decide +kernel
theorem dX7_end_1 : decode cX7_end 1 = .ok (.iconst (-1), 1) := by decide +kernel
theorem dX7_end_2 : decode cX7_end 2 = .ok (.putfield 15, 3) := by decide +kernel
theorem dX7_end_5 : decode cX7_end 5 = .ok (.aload_n 0, 1) := by decide +kernel
theorem dX7_end_6 : decode cX7_end 6 = .ok (.iconst 0, 1) := by decide +kernel
theorem dX7_end_7 : decode cX7_end 7 = .ok (.putfield 19, 3) := by decide +kernel
theorem dX7_end_10 : decode cX7_end 10 = .ok (.return_, 1) := by decide +kernel
theorem dX7_narrowed_0 : decode cX7_narrowed 0 = .ok (.aload_n 0, 1) := by decide +kernel
theorem dX7_narrowed_1 : decode cX7_narrowed 1 = .ok (.getfield 15, 3) := by decide +kernel
theorem dX7_narrowed_4 : decode cX7_narrowed 4 = .ok (.lookupswitch 34 #[(0, 28), (1, 31)], 28) := by decide +kernel
theorem dX7_narrowed_32 : decode cX7_narrowed 32 = .ok (.iload_n 1, 1) := by decide +kernel
theorem dX7_narrowed_33 : decode cX7_narrowed 33 = .ok (.i2b, 1) := by decide +kernel
theorem dX7_narrowed_34 : decode cX7_narrowed 34 = .ok (.ireturn, 1) := by decide +kernel
theorem dX7_narrowed_35 : decode cX7_narrowed 35 = .ok (.iload_n 1, 1) := by decide +kernel
theorem dX7_narrowed_36 : decode cX7_narrowed 36 = .ok (.i2s, 1) := by decide +kernel
theorem dX7_narrowed_37 : decode cX7_narrowed 37 = .ok (.ireturn, 1) := by decide +kernel
theorem dX7_narrowed_38 : decode cX7_narrowed 38 = .ok (.iload_n 1, 1) := by decide +kernel
theorem dX7_narrowed_39 : decode cX7_narrowed 39 = .ok (.ireturn, 1) := by decide +kernel
theorem dX7_reaches_0 : decode cX7_reaches 0 = .ok (.iload_n 1, 1) := by decide +kernel
theorem dX7_reaches_1 : decode cX7_reaches 1 = .ok (.ifCond .lt 29, 3) := by decide +kernel
theorem dX7_reaches_4 : decode cX7_reaches 4 = .ok (.iload_n 2, 1) := by decide +kernel
theorem dX7_reaches_5 : decode cX7_reaches 5 = .ok (.ifCond .lt 25, 3) := by decide +kernel
theorem dX7_reaches_8 : decode cX7_reaches 8 = .ok (.iload_n 1, 1) := by decide +kernel
theorem dX7_reaches_9 : decode cX7_reaches 9 = .ok (.aload_n 0, 1) := by decide +kernel
theorem dX7_reaches_10 : decode cX7_reaches 10 = .ok (.getfield 19, 3) := by decide +kernel
theorem dX7_reaches_13 : decode cX7_reaches 13 = .ok (.if_icmp .gt 17, 3) := by decide +kernel
theorem dX7_reaches_16 : decode cX7_reaches 16 = .ok (.iload_n 2, 1) := by decide +kernel
theorem dX7_reaches_17 : decode cX7_reaches 17 = .ok (.aload_n 0, 1) := by decide +kernel
theorem dX7_reaches_18 : decode cX7_reaches 18 = .ok (.getfield 19, 3) := by decide +kernel
theorem dX7_reaches_21 : decode cX7_reaches 21 = .ok (.iload_n 1, 1) := by decide +kernel
theorem dX7_reaches_22 : decode cX7_reaches 22 = .ok (.isub, 1) := by decide +kernel
theorem dX7_reaches_23 : decode cX7_reaches 23 = .ok (.if_icmp .gt 7, 3) := by decide +kernel
theorem dX7_reaches_26 : decode cX7_reaches 26 = .ok (.iconst 1, 1) := by decide +kernel
theorem dX7_reaches_27 : decode cX7_reaches 27 = .ok (.goto 4, 3) := by decide +kernel
theorem dX7_reaches_30 : decode cX7_reaches 30 = .ok (.iconst 0, 1) := by decide +kernel
theorem dX7_reaches_31 : decode cX7_reaches 31 = .ok (.ireturn, 1) := by decide +kernel
theorem dX7_holds_0 : decode cX7_holds 0 = .ok (.iconst 0, 1) := by decide +kernel
theorem dX7_holds_1 : decode cX7_holds 1 = .ok (.istore 4, 2) := by decide +kernel
theorem dX7_holds_3 : decode cX7_holds 3 = .ok (.iload 4, 2) := by decide +kernel
theorem dX7_holds_5 : decode cX7_holds 5 = .ok (.iload_n 1, 1) := by decide +kernel
theorem dX7_holds_6 : decode cX7_holds 6 = .ok (.if_icmp .ge 40, 3) := by decide +kernel
theorem dX7_holds_9 : decode cX7_holds 9 = .ok (.iload 4, 2) := by decide +kernel
theorem dX7_holds_11 : decode cX7_holds 11 = .ok (.bipush 40, 2) := by decide +kernel
theorem dX7_holds_13 : decode cX7_holds 13 = .ok (.if_icmp .ge 33, 3) := by decide +kernel
theorem dX7_holds_16 : decode cX7_holds 16 = .ok (.aload_n 0, 1) := by decide +kernel
theorem dX7_holds_17 : decode cX7_holds 17 = .ok (.getfield 9, 3) := by decide +kernel
theorem dX7_holds_20 : decode cX7_holds 20 = .ok (.iload 4, 2) := by decide +kernel
theorem dX7_holds_22 : decode cX7_holds 22 = .ok (.iaload, 1) := by decide +kernel
theorem dX7_holds_23 : decode cX7_holds 23 = .ok (.iload_n 2, 1) := by decide +kernel
theorem dX7_holds_24 : decode cX7_holds 24 = .ok (.if_icmp .lt 14, 3) := by decide +kernel
theorem dX7_holds_27 : decode cX7_holds 27 = .ok (.aload_n 0, 1) := by decide +kernel
theorem dX7_holds_28 : decode cX7_holds 28 = .ok (.getfield 9, 3) := by decide +kernel
theorem dX7_holds_31 : decode cX7_holds 31 = .ok (.iload 4, 2) := by decide +kernel
theorem dX7_holds_33 : decode cX7_holds 33 = .ok (.iaload, 1) := by decide +kernel
theorem dX7_holds_34 : decode cX7_holds 34 = .ok (.iload_n 3, 1) := by decide +kernel
theorem dX7_holds_35 : decode cX7_holds 35 = .ok (.if_icmp .le 5, 3) := by decide +kernel
theorem dX7_holds_38 : decode cX7_holds 38 = .ok (.iconst 0, 1) := by decide +kernel
theorem dX7_holds_39 : decode cX7_holds 39 = .ok (.ireturn, 1) := by decide +kernel
theorem dX7_holds_40 : decode cX7_holds 40 = .ok (.iinc 4 1, 3) := by decide +kernel
theorem dX7_holds_43 : decode cX7_holds 43 = .ok (.goto (-40), 3) := by decide +kernel
theorem dX7_holds_46 : decode cX7_holds 46 = .ok (.iconst 1, 1) := by decide +kernel
theorem dX7_holds_47 : decode cX7_holds 47 = .ok (.ireturn, 1) := by decide +kernel
theorem dX8_init_0 : decode cX8_init 0 = .ok (.aload_n 0, 1) := by decide +kernel
theorem dX8_init_1 : decode cX8_init 1 = .ok (.invokespecial 3, 3) := by decide +kernel
theorem dX8_init_4 : decode cX8_init 4 = .ok (.aload_n 0, 1) := by decide +kernel
theorem dX8_init_5 : decode cX8_init 5 = .ok (.bipush 7, 2) := by decide +kernel
theorem dX8_init_7 : decode cX8_init 7 = .ok (.anewarray 9, 3) := by decide +kernel
theorem dX8_init_10 : decode cX8_init 10 = .ok (.putfield 11, 3) := by decide +kernel
theorem dX8_init_13 : decode cX8_init 13 = .ok (.aload_n 0, 1) := by decide +kernel
theorem dX8_init_14 : decode cX8_init 14 = .ok (.bipush 7, 2) := by decide +kernel
theorem dX8_init_16 : decode cX8_init 16 = .ok (.newarray .int, 2) := by decide +kernel
theorem dX8_init_18 : decode cX8_init 18 = .ok (.putfield 17, 3) := by decide +kernel
theorem dX8_init_21 : decode cX8_init 21 = .ok (.aload_n 0, 1) := by decide +kernel
theorem dX8_init_22 : decode cX8_init 22 = .ok (.bipush 7, 2) := by decide +kernel
theorem dX8_init_24 : decode cX8_init 24 = .ok (.newarray .int, 2) := by decide +kernel
theorem dX8_init_26 : decode cX8_init 26 = .ok (.putfield 21, 3) := by decide +kernel
theorem dX8_init_29 : decode cX8_init 29 = .ok (.aload_n 0, 1) := by decide +kernel
theorem dX8_init_30 : decode cX8_init 30 = .ok (.iconst 4, 1) := by decide +kernel
theorem dX8_init_31 : decode cX8_init 31 = .ok (.newarray .int, 2) := by decide +kernel
theorem dX8_init_33 : decode cX8_init 33 = .ok (.putfield 24, 3) := by decide +kernel
theorem dX8_init_36 : decode cX8_init 36 = .ok (.aload_n 0, 1) := by decide +kernel
theorem dX8_init_37 : decode cX8_init 37 = .ok (.iconst 4, 1) := by decide +kernel
theorem dX8_init_38 : decode cX8_init 38 = .ok (.newarray .int, 2) := by decide +kernel
theorem dX8_init_40 : decode cX8_init 40 = .ok (.putfield 27, 3) := by decide +kernel
theorem dX8_init_43 : decode cX8_init 43 = .ok (.return_, 1) := by decide +kernel
theorem dX8_stands_0 : decode cX8_stands 0 = .ok (.aload_n 0, 1) := by decide +kernel
theorem dX8_stands_1 : decode cX8_stands 1 = .ok (.getfield 30, 3) := by decide +kernel
theorem dX8_stands_4 : decode cX8_stands 4 = .ok (.ifCond .le 7, 3) := by decide +kernel
theorem dX8_stands_7 : decode cX8_stands 7 = .ok (.iconst 1, 1) := by decide +kernel
theorem dX8_stands_8 : decode cX8_stands 8 = .ok (.goto 4, 3) := by decide +kernel
theorem dX8_stands_11 : decode cX8_stands 11 = .ok (.iconst 0, 1) := by decide +kernel
theorem dX8_stands_12 : decode cX8_stands 12 = .ok (.ireturn, 1) := by decide +kernel
theorem dX8_clear_0 : decode cX8_clear 0 = .ok (.aload_n 0, 1) := by decide +kernel
theorem dX8_clear_1 : decode cX8_clear 1 = .ok (.iconst 0, 1) := by decide +kernel
theorem dX8_clear_2 : decode cX8_clear 2 = .ok (.putfield 30, 3) := by decide +kernel
theorem dX8_clear_5 : decode cX8_clear 5 = .ok (.aload_n 0, 1) := by decide +kernel
theorem dX8_clear_6 : decode cX8_clear 6 = .ok (.iconst 0, 1) := by decide +kernel
theorem dX8_clear_7 : decode cX8_clear 7 = .ok (.putfield 34, 3) := by decide +kernel
theorem dX8_clear_10 : decode cX8_clear 10 = .ok (.aload_n 0, 1) := by decide +kernel
theorem dX8_clear_11 : decode cX8_clear 11 = .ok (.iconst 0, 1) := by decide +kernel
theorem dX8_clear_12 : decode cX8_clear 12 = .ok (.putfield 37, 3) := by decide +kernel
theorem dX8_clear_15 : decode cX8_clear 15 = .ok (.aload_n 0, 1) := by decide +kernel
theorem dX8_clear_16 : decode cX8_clear 16 = .ok (.iconst 0, 1) := by decide +kernel
theorem dX8_clear_17 : decode cX8_clear 17 = .ok (.putfield 40, 3) := by decide +kernel
theorem dX8_clear_20 : decode cX8_clear 20 = .ok (.aload_n 0, 1) := by decide +kernel
theorem dX8_clear_21 : decode cX8_clear 21 = .ok (.iconst 0, 1) := by decide +kernel
theorem dX8_clear_22 : decode cX8_clear 22 = .ok (.putfield 43, 3) := by decide +kernel
theorem dX8_clear_25 : decode cX8_clear 25 = .ok (.aload_n 0, 1) := by decide +kernel
theorem dX8_clear_26 : decode cX8_clear 26 = .ok (.iconst 0, 1) := by decide +kernel
theorem dX8_clear_27 : decode cX8_clear 27 = .ok (.putfield 46, 3) := by decide +kernel
theorem dX8_clear_30 : decode cX8_clear 30 = .ok (.aload_n 0, 1) := by decide +kernel
theorem dX8_clear_31 : decode cX8_clear 31 = .ok (.iconst 0, 1) := by decide +kernel
theorem dX8_clear_32 : decode cX8_clear 32 = .ok (.putfield 49, 3) := by decide +kernel
theorem dX8_clear_35 : decode cX8_clear 35 = .ok (.return_, 1) := by decide +kernel
theorem dX8_takeFrom_0 : decode cX8_takeFrom 0 = .ok (.aload_n 0, 1) := by decide +kernel
theorem dX8_takeFrom_1 : decode cX8_takeFrom 1 = .ok (.aload_n 1, 1) := by decide +kernel
theorem dX8_takeFrom_2 : decode cX8_takeFrom 2 = .ok (.getfield 30, 3) := by decide +kernel
theorem dX8_takeFrom_5 : decode cX8_takeFrom 5 = .ok (.putfield 30, 3) := by decide +kernel
theorem dX8_takeFrom_8 : decode cX8_takeFrom 8 = .ok (.aload_n 0, 1) := by decide +kernel
theorem dX8_takeFrom_9 : decode cX8_takeFrom 9 = .ok (.aload_n 1, 1) := by decide +kernel
theorem dX8_takeFrom_10 : decode cX8_takeFrom 10 = .ok (.getfield 34, 3) := by decide +kernel
theorem dX8_takeFrom_13 : decode cX8_takeFrom 13 = .ok (.putfield 34, 3) := by decide +kernel
theorem dX8_takeFrom_16 : decode cX8_takeFrom 16 = .ok (.aload_n 0, 1) := by decide +kernel
theorem dX8_takeFrom_17 : decode cX8_takeFrom 17 = .ok (.aload_n 1, 1) := by decide +kernel
theorem dX8_takeFrom_18 : decode cX8_takeFrom 18 = .ok (.getfield 37, 3) := by decide +kernel
theorem dX8_takeFrom_21 : decode cX8_takeFrom 21 = .ok (.putfield 37, 3) := by decide +kernel
theorem dX8_takeFrom_24 : decode cX8_takeFrom 24 = .ok (.aload_n 0, 1) := by decide +kernel
theorem dX8_takeFrom_25 : decode cX8_takeFrom 25 = .ok (.aload_n 1, 1) := by decide +kernel
theorem dX8_takeFrom_26 : decode cX8_takeFrom 26 = .ok (.getfield 40, 3) := by decide +kernel
theorem dX8_takeFrom_29 : decode cX8_takeFrom 29 = .ok (.putfield 40, 3) := by decide +kernel
theorem dX8_takeFrom_32 : decode cX8_takeFrom 32 = .ok (.aload_n 0, 1) := by decide +kernel
theorem dX8_takeFrom_33 : decode cX8_takeFrom 33 = .ok (.aload_n 1, 1) := by decide +kernel
theorem dX8_takeFrom_34 : decode cX8_takeFrom 34 = .ok (.getfield 43, 3) := by decide +kernel
theorem dX8_takeFrom_37 : decode cX8_takeFrom 37 = .ok (.putfield 43, 3) := by decide +kernel
theorem dX8_takeFrom_40 : decode cX8_takeFrom 40 = .ok (.aload_n 0, 1) := by decide +kernel
theorem dX8_takeFrom_41 : decode cX8_takeFrom 41 = .ok (.aload_n 1, 1) := by decide +kernel
theorem dX8_takeFrom_42 : decode cX8_takeFrom 42 = .ok (.getfield 46, 3) := by decide +kernel
theorem dX8_takeFrom_45 : decode cX8_takeFrom 45 = .ok (.putfield 46, 3) := by decide +kernel
theorem dX8_takeFrom_48 : decode cX8_takeFrom 48 = .ok (.aload_n 0, 1) := by decide +kernel
theorem dX8_takeFrom_49 : decode cX8_takeFrom 49 = .ok (.aload_n 1, 1) := by decide +kernel
theorem dX8_takeFrom_50 : decode cX8_takeFrom 50 = .ok (.getfield 49, 3) := by decide +kernel
theorem dX8_takeFrom_53 : decode cX8_takeFrom 53 = .ok (.putfield 49, 3) := by decide +kernel
theorem dX8_takeFrom_56 : decode cX8_takeFrom 56 = .ok (.iconst 0, 1) := by decide +kernel
theorem dX8_takeFrom_57 : decode cX8_takeFrom 57 = .ok (.istore_n 2, 1) := by decide +kernel
theorem dX8_takeFrom_58 : decode cX8_takeFrom 58 = .ok (.iload_n 2, 1) := by decide +kernel
theorem dX8_takeFrom_59 : decode cX8_takeFrom 59 = .ok (.bipush 7, 2) := by decide +kernel
theorem dX8_takeFrom_61 : decode cX8_takeFrom 61 = .ok (.if_icmp .ge 45, 3) := by decide +kernel
theorem dX8_takeFrom_64 : decode cX8_takeFrom 64 = .ok (.aload_n 0, 1) := by decide +kernel
theorem dX8_takeFrom_65 : decode cX8_takeFrom 65 = .ok (.getfield 11, 3) := by decide +kernel
theorem dX8_takeFrom_68 : decode cX8_takeFrom 68 = .ok (.iload_n 2, 1) := by decide +kernel
theorem dX8_takeFrom_69 : decode cX8_takeFrom 69 = .ok (.aload_n 1, 1) := by decide +kernel
theorem dX8_takeFrom_70 : decode cX8_takeFrom 70 = .ok (.getfield 11, 3) := by decide +kernel
theorem dX8_takeFrom_73 : decode cX8_takeFrom 73 = .ok (.iload_n 2, 1) := by decide +kernel
theorem dX8_takeFrom_74 : decode cX8_takeFrom 74 = .ok (.aaload, 1) := by decide +kernel
theorem dX8_takeFrom_75 : decode cX8_takeFrom 75 = .ok (.aastore, 1) := by decide +kernel
theorem dX8_takeFrom_76 : decode cX8_takeFrom 76 = .ok (.aload_n 0, 1) := by decide +kernel
theorem dX8_takeFrom_77 : decode cX8_takeFrom 77 = .ok (.getfield 17, 3) := by decide +kernel
theorem dX8_takeFrom_80 : decode cX8_takeFrom 80 = .ok (.iload_n 2, 1) := by decide +kernel
theorem dX8_takeFrom_81 : decode cX8_takeFrom 81 = .ok (.aload_n 1, 1) := by decide +kernel
theorem dX8_takeFrom_82 : decode cX8_takeFrom 82 = .ok (.getfield 17, 3) := by decide +kernel
theorem dX8_takeFrom_85 : decode cX8_takeFrom 85 = .ok (.iload_n 2, 1) := by decide +kernel
theorem dX8_takeFrom_86 : decode cX8_takeFrom 86 = .ok (.iaload, 1) := by decide +kernel
theorem dX8_takeFrom_87 : decode cX8_takeFrom 87 = .ok (.iastore, 1) := by decide +kernel
theorem dX8_takeFrom_88 : decode cX8_takeFrom 88 = .ok (.aload_n 0, 1) := by decide +kernel
theorem dX8_takeFrom_89 : decode cX8_takeFrom 89 = .ok (.getfield 21, 3) := by decide +kernel
theorem dX8_takeFrom_92 : decode cX8_takeFrom 92 = .ok (.iload_n 2, 1) := by decide +kernel
theorem dX8_takeFrom_93 : decode cX8_takeFrom 93 = .ok (.aload_n 1, 1) := by decide +kernel
theorem dX8_takeFrom_94 : decode cX8_takeFrom 94 = .ok (.getfield 21, 3) := by decide +kernel
theorem dX8_takeFrom_97 : decode cX8_takeFrom 97 = .ok (.iload_n 2, 1) := by decide +kernel
theorem dX8_takeFrom_98 : decode cX8_takeFrom 98 = .ok (.iaload, 1) := by decide +kernel
theorem dX8_takeFrom_99 : decode cX8_takeFrom 99 = .ok (.iastore, 1) := by decide +kernel
theorem dX8_takeFrom_100 : decode cX8_takeFrom 100 = .ok (.iinc 2 1, 3) := by decide +kernel
theorem dX8_takeFrom_103 : decode cX8_takeFrom 103 = .ok (.goto (-45), 3) := by decide +kernel
theorem dX8_takeFrom_106 : decode cX8_takeFrom 106 = .ok (.iconst 0, 1) := by decide +kernel
theorem dX8_takeFrom_107 : decode cX8_takeFrom 107 = .ok (.istore_n 2, 1) := by decide +kernel
theorem dX8_takeFrom_108 : decode cX8_takeFrom 108 = .ok (.iload_n 2, 1) := by decide +kernel
theorem dX8_takeFrom_109 : decode cX8_takeFrom 109 = .ok (.iconst 4, 1) := by decide +kernel
theorem dX8_takeFrom_110 : decode cX8_takeFrom 110 = .ok (.if_icmp .ge 33, 3) := by decide +kernel
theorem dX8_takeFrom_113 : decode cX8_takeFrom 113 = .ok (.aload_n 0, 1) := by decide +kernel
theorem dX8_takeFrom_114 : decode cX8_takeFrom 114 = .ok (.getfield 24, 3) := by decide +kernel
theorem dX8_takeFrom_117 : decode cX8_takeFrom 117 = .ok (.iload_n 2, 1) := by decide +kernel
theorem dX8_takeFrom_118 : decode cX8_takeFrom 118 = .ok (.aload_n 1, 1) := by decide +kernel
theorem dX8_takeFrom_119 : decode cX8_takeFrom 119 = .ok (.getfield 24, 3) := by decide +kernel
theorem dX8_takeFrom_122 : decode cX8_takeFrom 122 = .ok (.iload_n 2, 1) := by decide +kernel
theorem dX8_takeFrom_123 : decode cX8_takeFrom 123 = .ok (.iaload, 1) := by decide +kernel
theorem dX8_takeFrom_124 : decode cX8_takeFrom 124 = .ok (.iastore, 1) := by decide +kernel
theorem dX8_takeFrom_125 : decode cX8_takeFrom 125 = .ok (.aload_n 0, 1) := by decide +kernel
theorem dX8_takeFrom_126 : decode cX8_takeFrom 126 = .ok (.getfield 27, 3) := by decide +kernel
theorem dX8_takeFrom_129 : decode cX8_takeFrom 129 = .ok (.iload_n 2, 1) := by decide +kernel
theorem dX8_takeFrom_130 : decode cX8_takeFrom 130 = .ok (.aload_n 1, 1) := by decide +kernel
theorem dX8_takeFrom_131 : decode cX8_takeFrom 131 = .ok (.getfield 27, 3) := by decide +kernel
theorem dX8_takeFrom_134 : decode cX8_takeFrom 134 = .ok (.iload_n 2, 1) := by decide +kernel
theorem dX8_takeFrom_135 : decode cX8_takeFrom 135 = .ok (.iaload, 1) := by decide +kernel
theorem dX8_takeFrom_136 : decode cX8_takeFrom 136 = .ok (.iastore, 1) := by decide +kernel
theorem dX8_takeFrom_137 : decode cX8_takeFrom 137 = .ok (.iinc 2 1, 3) := by decide +kernel
theorem dX8_takeFrom_140 : decode cX8_takeFrom 140 = .ok (.goto (-32), 3) := by decide +kernel
theorem dX8_takeFrom_143 : decode cX8_takeFrom 143 = .ok (.return_, 1) := by decide +kernel
theorem dX8_addPerson_0 : decode cX8_addPerson 0 = .ok (.aload_n 0, 1) := by decide +kernel
theorem dX8_addPerson_1 : decode cX8_addPerson 1 = .ok (.getfield 37, 3) := by decide +kernel
theorem dX8_addPerson_4 : decode cX8_addPerson 4 = .ok (.bipush 7, 2) := by decide +kernel
theorem dX8_addPerson_6 : decode cX8_addPerson 6 = .ok (.if_icmp .ge 43, 3) := by decide +kernel
theorem dX8_addPerson_9 : decode cX8_addPerson 9 = .ok (.aload_n 0, 1) := by decide +kernel
theorem dX8_addPerson_10 : decode cX8_addPerson 10 = .ok (.getfield 11, 3) := by decide +kernel
theorem dX8_addPerson_13 : decode cX8_addPerson 13 = .ok (.aload_n 0, 1) := by decide +kernel
theorem dX8_addPerson_14 : decode cX8_addPerson 14 = .ok (.getfield 37, 3) := by decide +kernel
theorem dX8_addPerson_17 : decode cX8_addPerson 17 = .ok (.aload_n 1, 1) := by decide +kernel
theorem dX8_addPerson_18 : decode cX8_addPerson 18 = .ok (.aastore, 1) := by decide +kernel
theorem dX8_addPerson_19 : decode cX8_addPerson 19 = .ok (.aload_n 0, 1) := by decide +kernel
theorem dX8_addPerson_20 : decode cX8_addPerson 20 = .ok (.getfield 17, 3) := by decide +kernel
theorem dX8_addPerson_23 : decode cX8_addPerson 23 = .ok (.aload_n 0, 1) := by decide +kernel
theorem dX8_addPerson_24 : decode cX8_addPerson 24 = .ok (.getfield 37, 3) := by decide +kernel
theorem dX8_addPerson_27 : decode cX8_addPerson 27 = .ok (.iload_n 2, 1) := by decide +kernel
theorem dX8_addPerson_28 : decode cX8_addPerson 28 = .ok (.iastore, 1) := by decide +kernel
theorem dX8_addPerson_29 : decode cX8_addPerson 29 = .ok (.aload_n 0, 1) := by decide +kernel
theorem dX8_addPerson_30 : decode cX8_addPerson 30 = .ok (.getfield 21, 3) := by decide +kernel
theorem dX8_addPerson_33 : decode cX8_addPerson 33 = .ok (.aload_n 0, 1) := by decide +kernel
theorem dX8_addPerson_34 : decode cX8_addPerson 34 = .ok (.getfield 37, 3) := by decide +kernel
theorem dX8_addPerson_37 : decode cX8_addPerson 37 = .ok (.iconst 0, 1) := by decide +kernel
theorem dX8_addPerson_38 : decode cX8_addPerson 38 = .ok (.iastore, 1) := by decide +kernel
theorem dX8_addPerson_39 : decode cX8_addPerson 39 = .ok (.aload_n 0, 1) := by decide +kernel
theorem dX8_addPerson_40 : decode cX8_addPerson 40 = .ok (.dup, 1) := by decide +kernel
theorem dX8_addPerson_41 : decode cX8_addPerson 41 = .ok (.getfield 37, 3) := by decide +kernel
theorem dX8_addPerson_44 : decode cX8_addPerson 44 = .ok (.iconst 1, 1) := by decide +kernel
theorem dX8_addPerson_45 : decode cX8_addPerson 45 = .ok (.iadd, 1) := by decide +kernel
theorem dX8_addPerson_46 : decode cX8_addPerson 46 = .ok (.putfield 37, 3) := by decide +kernel
theorem dX8_addPerson_49 : decode cX8_addPerson 49 = .ok (.return_, 1) := by decide +kernel
theorem dX8_addStone_0 : decode cX8_addStone 0 = .ok (.aload_n 0, 1) := by decide +kernel
theorem dX8_addStone_1 : decode cX8_addStone 1 = .ok (.getfield 40, 3) := by decide +kernel
theorem dX8_addStone_4 : decode cX8_addStone 4 = .ok (.iconst 4, 1) := by decide +kernel
theorem dX8_addStone_5 : decode cX8_addStone 5 = .ok (.if_icmp .ge 33, 3) := by decide +kernel
theorem dX8_addStone_8 : decode cX8_addStone 8 = .ok (.aload_n 0, 1) := by decide +kernel
theorem dX8_addStone_9 : decode cX8_addStone 9 = .ok (.getfield 24, 3) := by decide +kernel
theorem dX8_addStone_12 : decode cX8_addStone 12 = .ok (.aload_n 0, 1) := by decide +kernel
theorem dX8_addStone_13 : decode cX8_addStone 13 = .ok (.getfield 40, 3) := by decide +kernel
theorem dX8_addStone_16 : decode cX8_addStone 16 = .ok (.iload_n 1, 1) := by decide +kernel
theorem dX8_addStone_17 : decode cX8_addStone 17 = .ok (.iastore, 1) := by decide +kernel
theorem dX8_addStone_18 : decode cX8_addStone 18 = .ok (.aload_n 0, 1) := by decide +kernel
theorem dX8_addStone_19 : decode cX8_addStone 19 = .ok (.getfield 27, 3) := by decide +kernel
theorem dX8_addStone_22 : decode cX8_addStone 22 = .ok (.aload_n 0, 1) := by decide +kernel
theorem dX8_addStone_23 : decode cX8_addStone 23 = .ok (.getfield 40, 3) := by decide +kernel
theorem dX8_addStone_26 : decode cX8_addStone 26 = .ok (.iload_n 2, 1) := by decide +kernel
theorem dX8_addStone_27 : decode cX8_addStone 27 = .ok (.iastore, 1) := by decide +kernel
theorem dX8_addStone_28 : decode cX8_addStone 28 = .ok (.aload_n 0, 1) := by decide +kernel
theorem dX8_addStone_29 : decode cX8_addStone 29 = .ok (.dup, 1) := by decide +kernel
theorem dX8_addStone_30 : decode cX8_addStone 30 = .ok (.getfield 40, 3) := by decide +kernel
theorem dX8_addStone_33 : decode cX8_addStone 33 = .ok (.iconst 1, 1) := by decide +kernel
theorem dX8_addStone_34 : decode cX8_addStone 34 = .ok (.iadd, 1) := by decide +kernel
theorem dX8_addStone_35 : decode cX8_addStone 35 = .ok (.putfield 40, 3) := by decide +kernel
theorem dX8_addStone_38 : decode cX8_addStone 38 = .ok (.return_, 1) := by decide +kernel
theorem dX8_hasPerson_0 : decode cX8_hasPerson 0 = .ok (.iload_n 1, 1) := by decide +kernel
theorem dX8_hasPerson_1 : decode cX8_hasPerson 1 = .ok (.ifCond .lt 15, 3) := by decide +kernel
theorem dX8_hasPerson_4 : decode cX8_hasPerson 4 = .ok (.iload_n 1, 1) := by decide +kernel
theorem dX8_hasPerson_5 : decode cX8_hasPerson 5 = .ok (.aload_n 0, 1) := by decide +kernel
theorem dX8_hasPerson_6 : decode cX8_hasPerson 6 = .ok (.getfield 37, 3) := by decide +kernel
theorem dX8_hasPerson_9 : decode cX8_hasPerson 9 = .ok (.if_icmp .ge 7, 3) := by decide +kernel
theorem dX8_hasPerson_12 : decode cX8_hasPerson 12 = .ok (.iconst 1, 1) := by decide +kernel
theorem dX8_hasPerson_13 : decode cX8_hasPerson 13 = .ok (.goto 4, 3) := by decide +kernel
theorem dX8_hasPerson_16 : decode cX8_hasPerson 16 = .ok (.iconst 0, 1) := by decide +kernel
theorem dX8_hasPerson_17 : decode cX8_hasPerson 17 = .ok (.ireturn, 1) := by decide +kernel
theorem dX8_hasStone_0 : decode cX8_hasStone 0 = .ok (.iload_n 1, 1) := by decide +kernel
theorem dX8_hasStone_1 : decode cX8_hasStone 1 = .ok (.ifCond .lt 15, 3) := by decide +kernel
theorem dX8_hasStone_4 : decode cX8_hasStone 4 = .ok (.iload_n 1, 1) := by decide +kernel
theorem dX8_hasStone_5 : decode cX8_hasStone 5 = .ok (.aload_n 0, 1) := by decide +kernel
theorem dX8_hasStone_6 : decode cX8_hasStone 6 = .ok (.getfield 40, 3) := by decide +kernel
theorem dX8_hasStone_9 : decode cX8_hasStone 9 = .ok (.if_icmp .ge 7, 3) := by decide +kernel
theorem dX8_hasStone_12 : decode cX8_hasStone 12 = .ok (.iconst 1, 1) := by decide +kernel
theorem dX8_hasStone_13 : decode cX8_hasStone 13 = .ok (.goto 4, 3) := by decide +kernel
theorem dX8_hasStone_16 : decode cX8_hasStone 16 = .ok (.iconst 0, 1) := by decide +kernel
theorem dX8_hasStone_17 : decode cX8_hasStone 17 = .ok (.ireturn, 1) := by decide +kernel
theorem dX8_who_0 : decode cX8_who 0 = .ok (.aload_n 0, 1) := by decide +kernel
theorem dX8_who_1 : decode cX8_who 1 = .ok (.iload_n 1, 1) := by decide +kernel
theorem dX8_who_2 : decode cX8_who 2 = .ok (.invokevirtual 52, 3) := by decide +kernel
theorem dX8_who_5 : decode cX8_who 5 = .ok (.ifCond .eq 12, 3) := by decide +kernel
theorem dX8_who_8 : decode cX8_who 8 = .ok (.aload_n 0, 1) := by decide +kernel
theorem dX8_who_9 : decode cX8_who 9 = .ok (.getfield 11, 3) := by decide +kernel
theorem dX8_who_12 : decode cX8_who 12 = .ok (.iload_n 1, 1) := by decide +kernel
theorem dX8_who_13 : decode cX8_who 13 = .ok (.aaload, 1) := by decide +kernel
theorem dX8_who_14 : decode cX8_who 14 = .ok (.goto 4, 3) := by decide +kernel
theorem dX8_who_17 : decode cX8_who 17 = .ok (.aconst_null, 1) := by decide +kernel
theorem dX8_who_18 : decode cX8_who 18 = .ok (.areturn, 1) := by decide +kernel
theorem dX8_isOutside_0 : decode cX8_isOutside 0 = .ok (.aload_n 0, 1) := by decide +kernel
theorem dX8_isOutside_1 : decode cX8_isOutside 1 = .ok (.iload_n 1, 1) := by decide +kernel
theorem dX8_isOutside_2 : decode cX8_isOutside 2 = .ok (.invokevirtual 52, 3) := by decide +kernel
theorem dX8_isOutside_5 : decode cX8_isOutside 5 = .ok (.ifCond .eq 17, 3) := by decide +kernel
theorem dX8_isOutside_8 : decode cX8_isOutside 8 = .ok (.aload_n 0, 1) := by decide +kernel
theorem dX8_isOutside_9 : decode cX8_isOutside 9 = .ok (.getfield 17, 3) := by decide +kernel
theorem dX8_isOutside_12 : decode cX8_isOutside 12 = .ok (.iload_n 1, 1) := by decide +kernel
theorem dX8_isOutside_13 : decode cX8_isOutside 13 = .ok (.iaload, 1) := by decide +kernel
theorem dX8_isOutside_14 : decode cX8_isOutside 14 = .ok (.iconst (-1), 1) := by decide +kernel
theorem dX8_isOutside_15 : decode cX8_isOutside 15 = .ok (.if_icmp .ne 7, 3) := by decide +kernel
theorem dX8_isOutside_18 : decode cX8_isOutside 18 = .ok (.iconst 1, 1) := by decide +kernel
theorem dX8_isOutside_19 : decode cX8_isOutside 19 = .ok (.goto 4, 3) := by decide +kernel
theorem dX8_isOutside_22 : decode cX8_isOutside 22 = .ok (.iconst 0, 1) := by decide +kernel
theorem dX8_isOutside_23 : decode cX8_isOutside 23 = .ok (.ireturn, 1) := by decide +kernel
theorem dX8_outsideSet_0 : decode cX8_outsideSet 0 = .ok (.iconst 0, 1) := by decide +kernel
theorem dX8_outsideSet_1 : decode cX8_outsideSet 1 = .ok (.istore_n 1, 1) := by decide +kernel
theorem dX8_outsideSet_2 : decode cX8_outsideSet 2 = .ok (.iconst 0, 1) := by decide +kernel
theorem dX8_outsideSet_3 : decode cX8_outsideSet 3 = .ok (.istore_n 2, 1) := by decide +kernel
theorem dX8_outsideSet_4 : decode cX8_outsideSet 4 = .ok (.iload_n 2, 1) := by decide +kernel
theorem dX8_outsideSet_5 : decode cX8_outsideSet 5 = .ok (.aload_n 0, 1) := by decide +kernel
theorem dX8_outsideSet_6 : decode cX8_outsideSet 6 = .ok (.getfield 37, 3) := by decide +kernel
theorem dX8_outsideSet_9 : decode cX8_outsideSet 9 = .ok (.if_icmp .ge 25, 3) := by decide +kernel
theorem dX8_outsideSet_12 : decode cX8_outsideSet 12 = .ok (.aload_n 0, 1) := by decide +kernel
theorem dX8_outsideSet_13 : decode cX8_outsideSet 13 = .ok (.getfield 17, 3) := by decide +kernel
theorem dX8_outsideSet_16 : decode cX8_outsideSet 16 = .ok (.iload_n 2, 1) := by decide +kernel
theorem dX8_outsideSet_17 : decode cX8_outsideSet 17 = .ok (.iaload, 1) := by decide +kernel
theorem dX8_outsideSet_18 : decode cX8_outsideSet 18 = .ok (.iconst (-1), 1) := by decide +kernel
theorem dX8_outsideSet_19 : decode cX8_outsideSet 19 = .ok (.if_icmp .ne 9, 3) := by decide +kernel
theorem dX8_outsideSet_22 : decode cX8_outsideSet 22 = .ok (.iload_n 1, 1) := by decide +kernel
theorem dX8_outsideSet_23 : decode cX8_outsideSet 23 = .ok (.iconst 1, 1) := by decide +kernel
theorem dX8_outsideSet_24 : decode cX8_outsideSet 24 = .ok (.iload_n 2, 1) := by decide +kernel
theorem dX8_outsideSet_25 : decode cX8_outsideSet 25 = .ok (.ishl, 1) := by decide +kernel
theorem dX8_outsideSet_26 : decode cX8_outsideSet 26 = .ok (.ior, 1) := by decide +kernel
theorem dX8_outsideSet_27 : decode cX8_outsideSet 27 = .ok (.istore_n 1, 1) := by decide +kernel
theorem dX8_outsideSet_28 : decode cX8_outsideSet 28 = .ok (.iinc 2 1, 3) := by decide +kernel
theorem dX8_outsideSet_31 : decode cX8_outsideSet 31 = .ok (.goto (-27), 3) := by decide +kernel
theorem dX8_outsideSet_34 : decode cX8_outsideSet 34 = .ok (.iload_n 1, 1) := by decide +kernel
theorem dX8_outsideSet_35 : decode cX8_outsideSet 35 = .ok (.ireturn, 1) := by decide +kernel
theorem dX8_insideSet_0 : decode cX8_insideSet 0 = .ok (.iconst 1, 1) := by decide +kernel
theorem dX8_insideSet_1 : decode cX8_insideSet 1 = .ok (.aload_n 0, 1) := by decide +kernel
theorem dX8_insideSet_2 : decode cX8_insideSet 2 = .ok (.getfield 37, 3) := by decide +kernel
theorem dX8_insideSet_5 : decode cX8_insideSet 5 = .ok (.ishl, 1) := by decide +kernel
theorem dX8_insideSet_6 : decode cX8_insideSet 6 = .ok (.iconst 1, 1) := by decide +kernel
theorem dX8_insideSet_7 : decode cX8_insideSet 7 = .ok (.isub, 1) := by decide +kernel
theorem dX8_insideSet_8 : decode cX8_insideSet 8 = .ok (.aload_n 0, 1) := by decide +kernel
theorem dX8_insideSet_9 : decode cX8_insideSet 9 = .ok (.invokevirtual 56, 3) := by decide +kernel
theorem dX8_insideSet_12 : decode cX8_insideSet 12 = .ok (.iconst (-1), 1) := by decide +kernel
theorem dX8_insideSet_13 : decode cX8_insideSet 13 = .ok (.ixor, 1) := by decide +kernel
theorem dX8_insideSet_14 : decode cX8_insideSet 14 = .ok (.iand, 1) := by decide +kernel
theorem dX8_insideSet_15 : decode cX8_insideSet 15 = .ok (.ireturn, 1) := by decide +kernel
theorem dX8_sideOf_0 : decode cX8_sideOf 0 = .ok (.aload_n 0, 1) := by decide +kernel
theorem dX8_sideOf_1 : decode cX8_sideOf 1 = .ok (.getfield 17, 3) := by decide +kernel
theorem dX8_sideOf_4 : decode cX8_sideOf 4 = .ok (.iload_n 1, 1) := by decide +kernel
theorem dX8_sideOf_5 : decode cX8_sideOf 5 = .ok (.iaload, 1) := by decide +kernel
theorem dX8_sideOf_6 : decode cX8_sideOf 6 = .ok (.ifCond .lt 22, 3) := by decide +kernel
theorem dX8_sideOf_9 : decode cX8_sideOf 9 = .ok (.aload_n 0, 1) := by decide +kernel
theorem dX8_sideOf_10 : decode cX8_sideOf 10 = .ok (.getfield 17, 3) := by decide +kernel
theorem dX8_sideOf_13 : decode cX8_sideOf 13 = .ok (.iload_n 1, 1) := by decide +kernel
theorem dX8_sideOf_14 : decode cX8_sideOf 14 = .ok (.iaload, 1) := by decide +kernel
theorem dX8_sideOf_15 : decode cX8_sideOf 15 = .ok (.aload_n 0, 1) := by decide +kernel
theorem dX8_sideOf_16 : decode cX8_sideOf 16 = .ok (.getfield 30, 3) := by decide +kernel
theorem dX8_sideOf_19 : decode cX8_sideOf 19 = .ok (.iconst 1, 1) := by decide +kernel
theorem dX8_sideOf_20 : decode cX8_sideOf 20 = .ok (.isub, 1) := by decide +kernel
theorem dX8_sideOf_21 : decode cX8_sideOf 21 = .ok (.if_icmp .ge 7, 3) := by decide +kernel
theorem dX8_sideOf_24 : decode cX8_sideOf 24 = .ok (.iconst 1, 1) := by decide +kernel
theorem dX8_sideOf_25 : decode cX8_sideOf 25 = .ok (.goto 4, 3) := by decide +kernel
theorem dX8_sideOf_28 : decode cX8_sideOf 28 = .ok (.iconst 0, 1) := by decide +kernel
theorem dX8_sideOf_29 : decode cX8_sideOf 29 = .ok (.istore_n 2, 1) := by decide +kernel
theorem dX8_sideOf_30 : decode cX8_sideOf 30 = .ok (.iload_n 2, 1) := by decide +kernel
theorem dX8_sideOf_31 : decode cX8_sideOf 31 = .ok (.ifCond .eq 14, 3) := by decide +kernel
theorem dX8_sideOf_34 : decode cX8_sideOf 34 = .ok (.aload_n 0, 1) := by decide +kernel
theorem dX8_sideOf_35 : decode cX8_sideOf 35 = .ok (.getfield 17, 3) := by decide +kernel
theorem dX8_sideOf_38 : decode cX8_sideOf 38 = .ok (.iload_n 1, 1) := by decide +kernel
theorem dX8_sideOf_39 : decode cX8_sideOf 39 = .ok (.iaload, 1) := by decide +kernel
theorem dX8_sideOf_40 : decode cX8_sideOf 40 = .ok (.iconst 4, 1) := by decide +kernel
theorem dX8_sideOf_41 : decode cX8_sideOf 41 = .ok (.irem, 1) := by decide +kernel
theorem dX8_sideOf_42 : decode cX8_sideOf 42 = .ok (.goto 5, 3) := by decide +kernel
theorem dX8_sideOf_45 : decode cX8_sideOf 45 = .ok (.ldc 60, 2) := by decide +kernel
theorem dX8_sideOf_47 : decode cX8_sideOf 47 = .ok (.ireturn, 1) := by decide +kernel
theorem dX8_pull_0 : decode cX8_pull 0 = .ok (.iload_n 1, 1) := by decide +kernel
theorem dX8_pull_1 : decode cX8_pull 1 = .ok (.iload_n 2, 1) := by decide +kernel
theorem dX8_pull_2 : decode cX8_pull 2 = .ok (.if_icmp .ne 5, 3) := by decide +kernel
theorem dX8_pull_5 : decode cX8_pull 5 = .ok (.iload_n 0, 1) := by decide +kernel
theorem dX8_pull_6 : decode cX8_pull 6 = .ok (.ireturn, 1) := by decide +kernel
theorem dX8_pull_7 : decode cX8_pull 7 = .ok (.iload_n 1, 1) := by decide +kernel
theorem dX8_pull_8 : decode cX8_pull 8 = .ok (.iload_n 2, 1) := by decide +kernel
theorem dX8_pull_9 : decode cX8_pull 9 = .ok (.iconst 2, 1) := by decide +kernel
theorem dX8_pull_10 : decode cX8_pull 10 = .ok (.ixor, 1) := by decide +kernel
theorem dX8_pull_11 : decode cX8_pull 11 = .ok (.if_icmp .ne 8, 3) := by decide +kernel
theorem dX8_pull_14 : decode cX8_pull 14 = .ok (.iload_n 0, 1) := by decide +kernel
theorem dX8_pull_15 : decode cX8_pull 15 = .ok (.ineg, 1) := by decide +kernel
theorem dX8_pull_16 : decode cX8_pull 16 = .ok (.goto 4, 3) := by decide +kernel
theorem dX8_pull_19 : decode cX8_pull 19 = .ok (.iconst 0, 1) := by decide +kernel
theorem dX8_pull_20 : decode cX8_pull 20 = .ok (.ireturn, 1) := by decide +kernel
theorem dX8_leanWith_0 : decode cX8_leanWith 0 = .ok (.aload_n 0, 1) := by decide +kernel
theorem dX8_leanWith_1 : decode cX8_leanWith 1 = .ok (.getfield 46, 3) := by decide +kernel
theorem dX8_leanWith_4 : decode cX8_leanWith 4 = .ok (.iconst 0, 1) := by decide +kernel
theorem dX8_leanWith_5 : decode cX8_leanWith 5 = .ok (.iload_n 2, 1) := by decide +kernel
theorem dX8_leanWith_6 : decode cX8_leanWith 6 = .ok (.invokestatic 61, 3) := by decide +kernel
theorem dX8_leanWith_9 : decode cX8_leanWith 9 = .ok (.aload_n 0, 1) := by decide +kernel
theorem dX8_leanWith_10 : decode cX8_leanWith 10 = .ok (.getfield 49, 3) := by decide +kernel
theorem dX8_leanWith_13 : decode cX8_leanWith 13 = .ok (.iconst 1, 1) := by decide +kernel
theorem dX8_leanWith_14 : decode cX8_leanWith 14 = .ok (.iload_n 2, 1) := by decide +kernel
theorem dX8_leanWith_15 : decode cX8_leanWith 15 = .ok (.invokestatic 61, 3) := by decide +kernel
theorem dX8_leanWith_18 : decode cX8_leanWith 18 = .ok (.iadd, 1) := by decide +kernel
theorem dX8_leanWith_19 : decode cX8_leanWith 19 = .ok (.istore_n 3, 1) := by decide +kernel
theorem dX8_leanWith_20 : decode cX8_leanWith 20 = .ok (.iconst 0, 1) := by decide +kernel
theorem dX8_leanWith_21 : decode cX8_leanWith 21 = .ok (.istore 4, 2) := by decide +kernel
theorem dX8_leanWith_23 : decode cX8_leanWith 23 = .ok (.iload 4, 2) := by decide +kernel
theorem dX8_leanWith_25 : decode cX8_leanWith 25 = .ok (.aload_n 0, 1) := by decide +kernel
theorem dX8_leanWith_26 : decode cX8_leanWith 26 = .ok (.getfield 40, 3) := by decide +kernel
theorem dX8_leanWith_29 : decode cX8_leanWith 29 = .ok (.if_icmp .ge 30, 3) := by decide +kernel
theorem dX8_leanWith_32 : decode cX8_leanWith 32 = .ok (.iload_n 3, 1) := by decide +kernel
theorem dX8_leanWith_33 : decode cX8_leanWith 33 = .ok (.aload_n 0, 1) := by decide +kernel
theorem dX8_leanWith_34 : decode cX8_leanWith 34 = .ok (.getfield 24, 3) := by decide +kernel
theorem dX8_leanWith_37 : decode cX8_leanWith 37 = .ok (.iload 4, 2) := by decide +kernel
theorem dX8_leanWith_39 : decode cX8_leanWith 39 = .ok (.iaload, 1) := by decide +kernel
theorem dX8_leanWith_40 : decode cX8_leanWith 40 = .ok (.aload_n 0, 1) := by decide +kernel
theorem dX8_leanWith_41 : decode cX8_leanWith 41 = .ok (.getfield 27, 3) := by decide +kernel
theorem dX8_leanWith_44 : decode cX8_leanWith 44 = .ok (.iload 4, 2) := by decide +kernel
theorem dX8_leanWith_46 : decode cX8_leanWith 46 = .ok (.iaload, 1) := by decide +kernel
theorem dX8_leanWith_47 : decode cX8_leanWith 47 = .ok (.iload_n 2, 1) := by decide +kernel
theorem dX8_leanWith_48 : decode cX8_leanWith 48 = .ok (.invokestatic 61, 3) := by decide +kernel
theorem dX8_leanWith_51 : decode cX8_leanWith 51 = .ok (.iadd, 1) := by decide +kernel
theorem dX8_leanWith_52 : decode cX8_leanWith 52 = .ok (.istore_n 3, 1) := by decide +kernel
theorem dX8_leanWith_53 : decode cX8_leanWith 53 = .ok (.iinc 4 1, 3) := by decide +kernel
theorem dX8_leanWith_56 : decode cX8_leanWith 56 = .ok (.goto (-33), 3) := by decide +kernel
theorem dX8_leanWith_59 : decode cX8_leanWith 59 = .ok (.iconst 0, 1) := by decide +kernel
theorem dX8_leanWith_60 : decode cX8_leanWith 60 = .ok (.istore 4, 2) := by decide +kernel
theorem dX8_leanWith_62 : decode cX8_leanWith 62 = .ok (.iload 4, 2) := by decide +kernel
theorem dX8_leanWith_64 : decode cX8_leanWith 64 = .ok (.aload_n 0, 1) := by decide +kernel
theorem dX8_leanWith_65 : decode cX8_leanWith 65 = .ok (.getfield 37, 3) := by decide +kernel
theorem dX8_leanWith_68 : decode cX8_leanWith 68 = .ok (.if_icmp .ge 51, 3) := by decide +kernel
theorem dX8_leanWith_71 : decode cX8_leanWith 71 = .ok (.aload_n 0, 1) := by decide +kernel
theorem dX8_leanWith_72 : decode cX8_leanWith 72 = .ok (.getfield 11, 3) := by decide +kernel
theorem dX8_leanWith_75 : decode cX8_leanWith 75 = .ok (.iload 4, 2) := by decide +kernel
theorem dX8_leanWith_77 : decode cX8_leanWith 77 = .ok (.aaload, 1) := by decide +kernel
theorem dX8_leanWith_78 : decode cX8_leanWith 78 = .ok (.astore 5, 2) := by decide +kernel
theorem dX8_leanWith_80 : decode cX8_leanWith 80 = .ok (.aload 5, 2) := by decide +kernel
theorem dX8_leanWith_82 : decode cX8_leanWith 82 = .ok (.ifnull 31, 3) := by decide +kernel
theorem dX8_leanWith_85 : decode cX8_leanWith 85 = .ok (.iload_n 1, 1) := by decide +kernel
theorem dX8_leanWith_86 : decode cX8_leanWith 86 = .ok (.iload 4, 2) := by decide +kernel
theorem dX8_leanWith_88 : decode cX8_leanWith 88 = .ok (.ishr, 1) := by decide +kernel
theorem dX8_leanWith_89 : decode cX8_leanWith 89 = .ok (.iconst 1, 1) := by decide +kernel
theorem dX8_leanWith_90 : decode cX8_leanWith 90 = .ok (.iand, 1) := by decide +kernel
theorem dX8_leanWith_91 : decode cX8_leanWith 91 = .ok (.iconst 1, 1) := by decide +kernel
theorem dX8_leanWith_92 : decode cX8_leanWith 92 = .ok (.if_icmp .ne 21, 3) := by decide +kernel
theorem dX8_leanWith_95 : decode cX8_leanWith 95 = .ok (.iload_n 3, 1) := by decide +kernel
theorem dX8_leanWith_96 : decode cX8_leanWith 96 = .ok (.aload 5, 2) := by decide +kernel
theorem dX8_leanWith_98 : decode cX8_leanWith 98 = .ok (.getfield 65, 3) := by decide +kernel
theorem dX8_leanWith_101 : decode cX8_leanWith 101 = .ok (.aload_n 0, 1) := by decide +kernel
theorem dX8_leanWith_102 : decode cX8_leanWith 102 = .ok (.iload 4, 2) := by decide +kernel
theorem dX8_leanWith_104 : decode cX8_leanWith 104 = .ok (.invokevirtual 68, 3) := by decide +kernel
theorem dX8_leanWith_107 : decode cX8_leanWith 107 = .ok (.iload_n 2, 1) := by decide +kernel
theorem dX8_leanWith_108 : decode cX8_leanWith 108 = .ok (.invokestatic 61, 3) := by decide +kernel
theorem dX8_leanWith_111 : decode cX8_leanWith 111 = .ok (.iadd, 1) := by decide +kernel
theorem dX8_leanWith_112 : decode cX8_leanWith 112 = .ok (.istore_n 3, 1) := by decide +kernel
theorem dX8_leanWith_113 : decode cX8_leanWith 113 = .ok (.iinc 4 1, 3) := by decide +kernel
theorem dX8_leanWith_116 : decode cX8_leanWith 116 = .ok (.goto (-54), 3) := by decide +kernel
theorem dX8_leanWith_119 : decode cX8_leanWith 119 = .ok (.iload_n 3, 1) := by decide +kernel
theorem dX8_leanWith_120 : decode cX8_leanWith 120 = .ok (.ireturn, 1) := by decide +kernel
theorem dX8_tiltWith_0 : decode cX8_tiltWith 0 = .ok (.aload_n 0, 1) := by decide +kernel
theorem dX8_tiltWith_1 : decode cX8_tiltWith 1 = .ok (.iload_n 1, 1) := by decide +kernel
theorem dX8_tiltWith_2 : decode cX8_tiltWith 2 = .ok (.iconst 0, 1) := by decide +kernel
theorem dX8_tiltWith_3 : decode cX8_tiltWith 3 = .ok (.invokevirtual 72, 3) := by decide +kernel
theorem dX8_tiltWith_6 : decode cX8_tiltWith 6 = .ok (.invokestatic 76, 3) := by decide +kernel
theorem dX8_tiltWith_9 : decode cX8_tiltWith 9 = .ok (.aload_n 0, 1) := by decide +kernel
theorem dX8_tiltWith_10 : decode cX8_tiltWith 10 = .ok (.iload_n 1, 1) := by decide +kernel
theorem dX8_tiltWith_11 : decode cX8_tiltWith 11 = .ok (.iconst 1, 1) := by decide +kernel
theorem dX8_tiltWith_12 : decode cX8_tiltWith 12 = .ok (.invokevirtual 72, 3) := by decide +kernel
theorem dX8_tiltWith_15 : decode cX8_tiltWith 15 = .ok (.invokestatic 76, 3) := by decide +kernel
theorem dX8_tiltWith_18 : decode cX8_tiltWith 18 = .ok (.invokestatic 81, 3) := by decide +kernel
theorem dX8_tiltWith_21 : decode cX8_tiltWith 21 = .ok (.ireturn, 1) := by decide +kernel
theorem dX8_isBeyond_0 : decode cX8_isBeyond 0 = .ok (.aload_n 0, 1) := by decide +kernel
theorem dX8_isBeyond_1 : decode cX8_isBeyond 1 = .ok (.bipush 127, 2) := by decide +kernel
theorem dX8_isBeyond_3 : decode cX8_isBeyond 3 = .ok (.invokevirtual 84, 3) := by decide +kernel
theorem dX8_isBeyond_6 : decode cX8_isBeyond 6 = .ok (.aload_n 0, 1) := by decide +kernel
theorem dX8_isBeyond_7 : decode cX8_isBeyond 7 = .ok (.getfield 34, 3) := by decide +kernel
theorem dX8_isBeyond_10 : decode cX8_isBeyond 10 = .ok (.if_icmp .le 7, 3) := by decide +kernel
theorem dX8_isBeyond_13 : decode cX8_isBeyond 13 = .ok (.iconst 1, 1) := by decide +kernel
theorem dX8_isBeyond_14 : decode cX8_isBeyond 14 = .ok (.goto 4, 3) := by decide +kernel
theorem dX8_isBeyond_17 : decode cX8_isBeyond 17 = .ok (.iconst 0, 1) := by decide +kernel
theorem dX8_isBeyond_18 : decode cX8_isBeyond 18 = .ok (.ireturn, 1) := by decide +kernel
theorem dX8_passHalf_0 : decode cX8_passHalf 0 = .ok (.aload_n 0, 1) := by decide +kernel
theorem dX8_passHalf_1 : decode cX8_passHalf 1 = .ok (.dup, 1) := by decide +kernel
theorem dX8_passHalf_2 : decode cX8_passHalf 2 = .ok (.getfield 43, 3) := by decide +kernel
theorem dX8_passHalf_5 : decode cX8_passHalf 5 = .ok (.iconst 1, 1) := by decide +kernel
theorem dX8_passHalf_6 : decode cX8_passHalf 6 = .ok (.iadd, 1) := by decide +kernel
theorem dX8_passHalf_7 : decode cX8_passHalf 7 = .ok (.putfield 43, 3) := by decide +kernel
theorem dX8_passHalf_10 : decode cX8_passHalf 10 = .ok (.iconst 0, 1) := by decide +kernel
theorem dX8_passHalf_11 : decode cX8_passHalf 11 = .ok (.istore_n 1, 1) := by decide +kernel
theorem dX8_passHalf_12 : decode cX8_passHalf 12 = .ok (.iload_n 1, 1) := by decide +kernel
theorem dX8_passHalf_13 : decode cX8_passHalf 13 = .ok (.aload_n 0, 1) := by decide +kernel
theorem dX8_passHalf_14 : decode cX8_passHalf 14 = .ok (.getfield 37, 3) := by decide +kernel
theorem dX8_passHalf_17 : decode cX8_passHalf 17 = .ok (.if_icmp .ge 48, 3) := by decide +kernel
theorem dX8_passHalf_20 : decode cX8_passHalf 20 = .ok (.aload_n 0, 1) := by decide +kernel
theorem dX8_passHalf_21 : decode cX8_passHalf 21 = .ok (.getfield 11, 3) := by decide +kernel
theorem dX8_passHalf_24 : decode cX8_passHalf 24 = .ok (.iload_n 1, 1) := by decide +kernel
theorem dX8_passHalf_25 : decode cX8_passHalf 25 = .ok (.aaload, 1) := by decide +kernel
theorem dX8_passHalf_26 : decode cX8_passHalf 26 = .ok (.astore_n 2, 1) := by decide +kernel
theorem dX8_passHalf_27 : decode cX8_passHalf 27 = .ok (.aload_n 2, 1) := by decide +kernel
theorem dX8_passHalf_28 : decode cX8_passHalf 28 = .ok (.ifnull 31, 3) := by decide +kernel
theorem dX8_passHalf_31 : decode cX8_passHalf 31 = .ok (.aload_n 2, 1) := by decide +kernel
theorem dX8_passHalf_32 : decode cX8_passHalf 32 = .ok (.getfield 87, 3) := by decide +kernel
theorem dX8_passHalf_35 : decode cX8_passHalf 35 = .ok (.ifCond .le 24, 3) := by decide +kernel
theorem dX8_passHalf_38 : decode cX8_passHalf 38 = .ok (.aload_n 0, 1) := by decide +kernel
theorem dX8_passHalf_39 : decode cX8_passHalf 39 = .ok (.getfield 43, 3) := by decide +kernel
theorem dX8_passHalf_42 : decode cX8_passHalf 42 = .ok (.aload_n 2, 1) := by decide +kernel
theorem dX8_passHalf_43 : decode cX8_passHalf 43 = .ok (.getfield 87, 3) := by decide +kernel
theorem dX8_passHalf_46 : decode cX8_passHalf 46 = .ok (.irem, 1) := by decide +kernel
theorem dX8_passHalf_47 : decode cX8_passHalf 47 = .ok (.ifCond .ne 12, 3) := by decide +kernel
theorem dX8_passHalf_50 : decode cX8_passHalf 50 = .ok (.aload_n 0, 1) := by decide +kernel
theorem dX8_passHalf_51 : decode cX8_passHalf 51 = .ok (.iload_n 1, 1) := by decide +kernel
theorem dX8_passHalf_52 : decode cX8_passHalf 52 = .ok (.aload_n 2, 1) := by decide +kernel
theorem dX8_passHalf_53 : decode cX8_passHalf 53 = .ok (.invokevirtual 90, 3) := by decide +kernel
theorem dX8_passHalf_56 : decode cX8_passHalf 56 = .ok (.invokevirtual 93, 3) := by decide +kernel
theorem dX8_passHalf_59 : decode cX8_passHalf 59 = .ok (.iinc 1 1, 3) := by decide +kernel
theorem dX8_passHalf_62 : decode cX8_passHalf 62 = .ok (.goto (-50), 3) := by decide +kernel
theorem dX8_passHalf_65 : decode cX8_passHalf 65 = .ok (.return_, 1) := by decide +kernel
theorem dX8_move_0 : decode cX8_move 0 = .ok (.aload_n 0, 1) := by decide +kernel
theorem dX8_move_1 : decode cX8_move 1 = .ok (.getfield 21, 3) := by decide +kernel
theorem dX8_move_4 : decode cX8_move 4 = .ok (.iload_n 1, 1) := by decide +kernel
theorem dX8_move_5 : decode cX8_move 5 = .ok (.iaload, 1) := by decide +kernel
theorem dX8_move_6 : decode cX8_move 6 = .ok (.ifCond .ne 4, 3) := by decide +kernel
theorem dX8_move_9 : decode cX8_move 9 = .ok (.return_, 1) := by decide +kernel
theorem dX8_move_10 : decode cX8_move 10 = .ok (.aload_n 0, 1) := by decide +kernel
theorem dX8_move_11 : decode cX8_move 11 = .ok (.getfield 21, 3) := by decide +kernel
theorem dX8_move_14 : decode cX8_move 14 = .ok (.iload_n 1, 1) := by decide +kernel
theorem dX8_move_15 : decode cX8_move 15 = .ok (.iaload, 1) := by decide +kernel
theorem dX8_move_16 : decode cX8_move 16 = .ok (.iconst 1, 1) := by decide +kernel
theorem dX8_move_17 : decode cX8_move 17 = .ok (.if_icmp .ne 12, 3) := by decide +kernel
theorem dX8_move_20 : decode cX8_move 20 = .ok (.aload_n 0, 1) := by decide +kernel
theorem dX8_move_21 : decode cX8_move 21 = .ok (.getfield 30, 3) := by decide +kernel
theorem dX8_move_24 : decode cX8_move 24 = .ok (.iconst 1, 1) := by decide +kernel
theorem dX8_move_25 : decode cX8_move 25 = .ok (.isub, 1) := by decide +kernel
theorem dX8_move_26 : decode cX8_move 26 = .ok (.goto 4, 3) := by decide +kernel
theorem dX8_move_29 : decode cX8_move 29 = .ok (.iconst (-1), 1) := by decide +kernel
theorem dX8_move_30 : decode cX8_move 30 = .ok (.istore_n 3, 1) := by decide +kernel
theorem dX8_move_31 : decode cX8_move 31 = .ok (.iload_n 3, 1) := by decide +kernel
theorem dX8_move_32 : decode cX8_move 32 = .ok (.aload_n 0, 1) := by decide +kernel
theorem dX8_move_33 : decode cX8_move 33 = .ok (.getfield 17, 3) := by decide +kernel
theorem dX8_move_36 : decode cX8_move 36 = .ok (.iload_n 1, 1) := by decide +kernel
theorem dX8_move_37 : decode cX8_move 37 = .ok (.iaload, 1) := by decide +kernel
theorem dX8_move_38 : decode cX8_move 38 = .ok (.isub, 1) := by decide +kernel
theorem dX8_move_39 : decode cX8_move 39 = .ok (.invokestatic 76, 3) := by decide +kernel
theorem dX8_move_42 : decode cX8_move 42 = .ok (.istore 4, 2) := by decide +kernel
theorem dX8_move_44 : decode cX8_move 44 = .ok (.aload_n 0, 1) := by decide +kernel
theorem dX8_move_45 : decode cX8_move 45 = .ok (.getfield 17, 3) := by decide +kernel
theorem dX8_move_48 : decode cX8_move 48 = .ok (.iload_n 1, 1) := by decide +kernel
theorem dX8_move_49 : decode cX8_move 49 = .ok (.dup2, 1) := by decide +kernel
theorem dX8_move_50 : decode cX8_move 50 = .ok (.iaload, 1) := by decide +kernel
theorem dX8_move_51 : decode cX8_move 51 = .ok (.aload_n 0, 1) := by decide +kernel
theorem dX8_move_52 : decode cX8_move 52 = .ok (.getfield 21, 3) := by decide +kernel
theorem dX8_move_55 : decode cX8_move 55 = .ok (.iload_n 1, 1) := by decide +kernel
theorem dX8_move_56 : decode cX8_move 56 = .ok (.iaload, 1) := by decide +kernel
theorem dX8_move_57 : decode cX8_move 57 = .ok (.iload_n 2, 1) := by decide +kernel
theorem dX8_move_58 : decode cX8_move 58 = .ok (.iload 4, 2) := by decide +kernel
theorem dX8_move_60 : decode cX8_move 60 = .ok (.invokestatic 97, 3) := by decide +kernel
theorem dX8_move_63 : decode cX8_move 63 = .ok (.imul, 1) := by decide +kernel
theorem dX8_move_64 : decode cX8_move 64 = .ok (.iadd, 1) := by decide +kernel
theorem dX8_move_65 : decode cX8_move 65 = .ok (.iastore, 1) := by decide +kernel
theorem dX8_move_66 : decode cX8_move 66 = .ok (.aload_n 0, 1) := by decide +kernel
theorem dX8_move_67 : decode cX8_move 67 = .ok (.getfield 17, 3) := by decide +kernel
theorem dX8_move_70 : decode cX8_move 70 = .ok (.iload_n 1, 1) := by decide +kernel
theorem dX8_move_71 : decode cX8_move 71 = .ok (.iaload, 1) := by decide +kernel
theorem dX8_move_72 : decode cX8_move 72 = .ok (.iload_n 3, 1) := by decide +kernel
theorem dX8_move_73 : decode cX8_move 73 = .ok (.if_icmp .ne 10, 3) := by decide +kernel
theorem dX8_move_76 : decode cX8_move 76 = .ok (.aload_n 0, 1) := by decide +kernel
theorem dX8_move_77 : decode cX8_move 77 = .ok (.getfield 21, 3) := by decide +kernel
theorem dX8_move_80 : decode cX8_move 80 = .ok (.iload_n 1, 1) := by decide +kernel
theorem dX8_move_81 : decode cX8_move 81 = .ok (.iconst 0, 1) := by decide +kernel
theorem dX8_move_82 : decode cX8_move 82 = .ok (.iastore, 1) := by decide +kernel
theorem dX8_move_83 : decode cX8_move 83 = .ok (.return_, 1) := by decide +kernel
theorem dX8_passYear_0 : decode cX8_passYear 0 = .ok (.aload_n 0, 1) := by decide +kernel
theorem dX8_passYear_1 : decode cX8_passYear 1 = .ok (.bipush 127, 2) := by decide +kernel
theorem dX8_passYear_3 : decode cX8_passYear 3 = .ok (.iconst 0, 1) := by decide +kernel
theorem dX8_passYear_4 : decode cX8_passYear 4 = .ok (.invokevirtual 72, 3) := by decide +kernel
theorem dX8_passYear_7 : decode cX8_passYear 7 = .ok (.istore_n 1, 1) := by decide +kernel
theorem dX8_passYear_8 : decode cX8_passYear 8 = .ok (.aload_n 0, 1) := by decide +kernel
theorem dX8_passYear_9 : decode cX8_passYear 9 = .ok (.bipush 127, 2) := by decide +kernel
theorem dX8_passYear_11 : decode cX8_passYear 11 = .ok (.iconst 1, 1) := by decide +kernel
theorem dX8_passYear_12 : decode cX8_passYear 12 = .ok (.invokevirtual 72, 3) := by decide +kernel
theorem dX8_passYear_15 : decode cX8_passYear 15 = .ok (.istore_n 2, 1) := by decide +kernel
theorem dX8_passYear_16 : decode cX8_passYear 16 = .ok (.aload_n 0, 1) := by decide +kernel
theorem dX8_passYear_17 : decode cX8_passYear 17 = .ok (.dup, 1) := by decide +kernel
theorem dX8_passYear_18 : decode cX8_passYear 18 = .ok (.getfield 46, 3) := by decide +kernel
theorem dX8_passYear_21 : decode cX8_passYear 21 = .ok (.iload_n 1, 1) := by decide +kernel
theorem dX8_passYear_22 : decode cX8_passYear 22 = .ok (.bipush 10, 2) := by decide +kernel
theorem dX8_passYear_24 : decode cX8_passYear 24 = .ok (.idiv, 1) := by decide +kernel
theorem dX8_passYear_25 : decode cX8_passYear 25 = .ok (.iadd, 1) := by decide +kernel
theorem dX8_passYear_26 : decode cX8_passYear 26 = .ok (.putfield 46, 3) := by decide +kernel
theorem dX8_passYear_29 : decode cX8_passYear 29 = .ok (.aload_n 0, 1) := by decide +kernel
theorem dX8_passYear_30 : decode cX8_passYear 30 = .ok (.dup, 1) := by decide +kernel
theorem dX8_passYear_31 : decode cX8_passYear 31 = .ok (.getfield 49, 3) := by decide +kernel
theorem dX8_passYear_34 : decode cX8_passYear 34 = .ok (.iload_n 2, 1) := by decide +kernel
theorem dX8_passYear_35 : decode cX8_passYear 35 = .ok (.bipush 10, 2) := by decide +kernel
theorem dX8_passYear_37 : decode cX8_passYear 37 = .ok (.idiv, 1) := by decide +kernel
theorem dX8_passYear_38 : decode cX8_passYear 38 = .ok (.iadd, 1) := by decide +kernel
theorem dX8_passYear_39 : decode cX8_passYear 39 = .ok (.putfield 49, 3) := by decide +kernel
theorem dX8_passYear_42 : decode cX8_passYear 42 = .ok (.return_, 1) := by decide +kernel
theorem dX8_worstOver_0 : decode cX8_worstOver 0 = .ok (.aload_n 0, 1) := by decide +kernel
theorem dX8_worstOver_1 : decode cX8_worstOver 1 = .ok (.bipush 127, 2) := by decide +kernel
theorem dX8_worstOver_3 : decode cX8_worstOver 3 = .ok (.invokevirtual 84, 3) := by decide +kernel
theorem dX8_worstOver_6 : decode cX8_worstOver 6 = .ok (.istore_n 2, 1) := by decide +kernel
theorem dX8_worstOver_7 : decode cX8_worstOver 7 = .ok (.iconst 0, 1) := by decide +kernel
theorem dX8_worstOver_8 : decode cX8_worstOver 8 = .ok (.istore_n 3, 1) := by decide +kernel
theorem dX8_worstOver_9 : decode cX8_worstOver 9 = .ok (.iload_n 3, 1) := by decide +kernel
theorem dX8_worstOver_10 : decode cX8_worstOver 10 = .ok (.iload_n 1, 1) := by decide +kernel
theorem dX8_worstOver_11 : decode cX8_worstOver 11 = .ok (.if_icmp .ge 24, 3) := by decide +kernel
theorem dX8_worstOver_14 : decode cX8_worstOver 14 = .ok (.aload_n 0, 1) := by decide +kernel
theorem dX8_worstOver_15 : decode cX8_worstOver 15 = .ok (.invokevirtual 100, 3) := by decide +kernel
theorem dX8_worstOver_18 : decode cX8_worstOver 18 = .ok (.iload_n 2, 1) := by decide +kernel
theorem dX8_worstOver_19 : decode cX8_worstOver 19 = .ok (.aload_n 0, 1) := by decide +kernel
theorem dX8_worstOver_20 : decode cX8_worstOver 20 = .ok (.bipush 127, 2) := by decide +kernel
theorem dX8_worstOver_22 : decode cX8_worstOver 22 = .ok (.invokevirtual 84, 3) := by decide +kernel
theorem dX8_worstOver_25 : decode cX8_worstOver 25 = .ok (.invokestatic 81, 3) := by decide +kernel
theorem dX8_worstOver_28 : decode cX8_worstOver 28 = .ok (.istore_n 2, 1) := by decide +kernel
theorem dX8_worstOver_29 : decode cX8_worstOver 29 = .ok (.iinc 3 1, 3) := by decide +kernel
theorem dX8_worstOver_32 : decode cX8_worstOver 32 = .ok (.goto (-23), 3) := by decide +kernel
theorem dX8_worstOver_35 : decode cX8_worstOver 35 = .ok (.iload_n 2, 1) := by decide +kernel
theorem dX8_worstOver_36 : decode cX8_worstOver 36 = .ok (.ireturn, 1) := by decide +kernel
theorem dX8_firstBeyond_0 : decode cX8_firstBeyond 0 = .ok (.iconst 0, 1) := by decide +kernel
theorem dX8_firstBeyond_1 : decode cX8_firstBeyond 1 = .ok (.istore_n 2, 1) := by decide +kernel
theorem dX8_firstBeyond_2 : decode cX8_firstBeyond 2 = .ok (.iload_n 2, 1) := by decide +kernel
theorem dX8_firstBeyond_3 : decode cX8_firstBeyond 3 = .ok (.iload_n 1, 1) := by decide +kernel
theorem dX8_firstBeyond_4 : decode cX8_firstBeyond 4 = .ok (.if_icmp .gt 22, 3) := by decide +kernel
theorem dX8_firstBeyond_7 : decode cX8_firstBeyond 7 = .ok (.aload_n 0, 1) := by decide +kernel
theorem dX8_firstBeyond_8 : decode cX8_firstBeyond 8 = .ok (.invokevirtual 103, 3) := by decide +kernel
theorem dX8_firstBeyond_11 : decode cX8_firstBeyond 11 = .ok (.ifCond .eq 5, 3) := by decide +kernel
theorem dX8_firstBeyond_14 : decode cX8_firstBeyond 14 = .ok (.iload_n 2, 1) := by decide +kernel
theorem dX8_firstBeyond_15 : decode cX8_firstBeyond 15 = .ok (.ireturn, 1) := by decide +kernel
theorem dX8_firstBeyond_16 : decode cX8_firstBeyond 16 = .ok (.aload_n 0, 1) := by decide +kernel
theorem dX8_firstBeyond_17 : decode cX8_firstBeyond 17 = .ok (.invokevirtual 100, 3) := by decide +kernel
theorem dX8_firstBeyond_20 : decode cX8_firstBeyond 20 = .ok (.iinc 2 1, 3) := by decide +kernel
theorem dX8_firstBeyond_23 : decode cX8_firstBeyond 23 = .ok (.goto (-21), 3) := by decide +kernel
theorem dX8_firstBeyond_26 : decode cX8_firstBeyond 26 = .ok (.ldc 60, 2) := by decide +kernel
theorem dX8_firstBeyond_28 : decode cX8_firstBeyond 28 = .ok (.ireturn, 1) := by decide +kernel
theorem dX9_init_0 : decode cX9_init 0 = .ok (.aload_n 0, 1) := by decide +kernel
theorem dX9_init_1 : decode cX9_init 1 = .ok (.invokespecial 1, 3) := by decide +kernel
theorem dX9_init_4 : decode cX9_init 4 = .ok (.aload_n 0, 1) := by decide +kernel
theorem dX9_init_5 : decode cX9_init 5 = .ok (.bipush 16, 2) := by decide +kernel
theorem dX9_init_7 : decode cX9_init 7 = .ok (.newarray .int, 2) := by decide +kernel
theorem dX9_init_9 : decode cX9_init 9 = .ok (.putfield 9, 3) := by decide +kernel
theorem dX9_init_12 : decode cX9_init 12 = .ok (.return_, 1) := by decide +kernel
theorem dX9_leave_0 : decode cX9_leave 0 = .ok (.aload_n 0, 1) := by decide +kernel
theorem dX9_leave_1 : decode cX9_leave 1 = .ok (.getfield 13, 3) := by decide +kernel
theorem dX9_leave_4 : decode cX9_leave 4 = .ok (.bipush 16, 2) := by decide +kernel
theorem dX9_leave_6 : decode cX9_leave 6 = .ok (.if_icmp .ge 23, 3) := by decide +kernel
theorem dX9_leave_9 : decode cX9_leave 9 = .ok (.aload_n 0, 1) := by decide +kernel
theorem dX9_leave_10 : decode cX9_leave 10 = .ok (.getfield 9, 3) := by decide +kernel
theorem dX9_leave_13 : decode cX9_leave 13 = .ok (.aload_n 0, 1) := by decide +kernel
theorem dX9_leave_14 : decode cX9_leave 14 = .ok (.getfield 13, 3) := by decide +kernel
theorem dX9_leave_17 : decode cX9_leave 17 = .ok (.iload_n 1, 1) := by decide +kernel
theorem dX9_leave_18 : decode cX9_leave 18 = .ok (.iastore, 1) := by decide +kernel
theorem dX9_leave_19 : decode cX9_leave 19 = .ok (.aload_n 0, 1) := by decide +kernel
theorem dX9_leave_20 : decode cX9_leave 20 = .ok (.dup, 1) := by decide +kernel
theorem dX9_leave_21 : decode cX9_leave 21 = .ok (.getfield 13, 3) := by decide +kernel
theorem dX9_leave_24 : decode cX9_leave 24 = .ok (.iconst 1, 1) := by decide +kernel
theorem dX9_leave_25 : decode cX9_leave 25 = .ok (.iadd, 1) := by decide +kernel
theorem dX9_leave_26 : decode cX9_leave 26 = .ok (.putfield 13, 3) := by decide +kernel
theorem dX9_leave_29 : decode cX9_leave 29 = .ok (.return_, 1) := by decide +kernel
theorem dX10_init_0 : decode cX10_init 0 = .ok (.aload_n 0, 1) := by decide +kernel
theorem dX10_init_1 : decode cX10_init 1 = .ok (.iload_n 1, 1) := by decide +kernel
theorem dX10_init_2 : decode cX10_init 2 = .ok (.iconst 2, 1) := by decide +kernel
theorem dX10_init_3 : decode cX10_init 3 = .ok (.iload_n 2, 1) := by decide +kernel
theorem dX10_init_4 : decode cX10_init 4 = .ok (.imul, 1) := by decide +kernel
theorem dX10_init_5 : decode cX10_init 5 = .ok (.iload_n 3, 1) := by decide +kernel
theorem dX10_init_6 : decode cX10_init 6 = .ok (.invokespecial 3, 3) := by decide +kernel
theorem dX10_init_9 : decode cX10_init 9 = .ok (.return_, 1) := by decide +kernel
theorem dX10_ownKind_0 : decode cX10_ownKind 0 = .ok (.iconst 2, 1) := by decide +kernel
theorem dX10_ownKind_1 : decode cX10_ownKind 1 = .ok (.ireturn, 1) := by decide +kernel
theorem dX10_mark_0 : decode cX10_mark 0 = .ok (.aload_n 1, 1) := by decide +kernel
theorem dX10_mark_1 : decode cX10_mark 1 = .ok (.bipush 22, 2) := by decide +kernel
theorem dX10_mark_3 : decode cX10_mark 3 = .ok (.invokevirtual 9, 3) := by decide +kernel
theorem dX10_mark_6 : decode cX10_mark 6 = .ok (.aload_n 0, 1) := by decide +kernel
theorem dX10_mark_7 : decode cX10_mark 7 = .ok (.aload_n 1, 1) := by decide +kernel
theorem dX10_mark_8 : decode cX10_mark 8 = .ok (.invokespecial 15, 3) := by decide +kernel
theorem dX10_mark_11 : decode cX10_mark 11 = .ok (.sipush 1000, 3) := by decide +kernel
theorem dX10_mark_14 : decode cX10_mark 14 = .ok (.isub, 1) := by decide +kernel
theorem dX10_mark_15 : decode cX10_mark 15 = .ok (.ireturn, 1) := by decide +kernel
theorem dX11_init_0 : decode cX11_init 0 = .ok (.aload_n 0, 1) := by decide +kernel
theorem dX11_init_1 : decode cX11_init 1 = .ok (.invokespecial 3, 3) := by decide +kernel
theorem dX11_init_4 : decode cX11_init 4 = .ok (.aload_n 0, 1) := by decide +kernel
theorem dX11_init_5 : decode cX11_init 5 = .ok (.bipush 8, 2) := by decide +kernel
theorem dX11_init_7 : decode cX11_init 7 = .ok (.anewarray 9, 3) := by decide +kernel
theorem dX11_init_10 : decode cX11_init 10 = .ok (.putfield 11, 3) := by decide +kernel
theorem dX11_init_13 : decode cX11_init 13 = .ok (.aload_n 0, 1) := by decide +kernel
theorem dX11_init_14 : decode cX11_init 14 = .ok (.new 15, 3) := by decide +kernel
theorem dX11_init_17 : decode cX11_init 17 = .ok (.dup, 1) := by decide +kernel
theorem dX11_init_18 : decode cX11_init 18 = .ok (.invokespecial 17, 3) := by decide +kernel
theorem dX11_init_21 : decode cX11_init 21 = .ok (.putfield 18, 3) := by decide +kernel
theorem dX11_init_24 : decode cX11_init 24 = .ok (.aload_n 0, 1) := by decide +kernel
theorem dX11_init_25 : decode cX11_init 25 = .ok (.new 22, 3) := by decide +kernel
theorem dX11_init_28 : decode cX11_init 28 = .ok (.dup, 1) := by decide +kernel
theorem dX11_init_29 : decode cX11_init 29 = .ok (.invokespecial 24, 3) := by decide +kernel
theorem dX11_init_32 : decode cX11_init 32 = .ok (.putfield 25, 3) := by decide +kernel
theorem dX11_init_35 : decode cX11_init 35 = .ok (.aload_n 0, 1) := by decide +kernel
theorem dX11_init_36 : decode cX11_init 36 = .ok (.new 22, 3) := by decide +kernel
theorem dX11_init_39 : decode cX11_init 39 = .ok (.dup, 1) := by decide +kernel
theorem dX11_init_40 : decode cX11_init 40 = .ok (.invokespecial 24, 3) := by decide +kernel
theorem dX11_init_43 : decode cX11_init 43 = .ok (.putfield 29, 3) := by decide +kernel
theorem dX11_init_46 : decode cX11_init 46 = .ok (.aload_n 0, 1) := by decide +kernel
theorem dX11_init_47 : decode cX11_init 47 = .ok (.bipush 24, 2) := by decide +kernel
theorem dX11_init_49 : decode cX11_init 49 = .ok (.anewarray 22, 3) := by decide +kernel
theorem dX11_init_52 : decode cX11_init 52 = .ok (.putfield 32, 3) := by decide +kernel
theorem dX11_init_55 : decode cX11_init 55 = .ok (.aload_n 0, 1) := by decide +kernel
theorem dX11_init_56 : decode cX11_init 56 = .ok (.iconst 2, 1) := by decide +kernel
theorem dX11_init_57 : decode cX11_init 57 = .ok (.anewarray 22, 3) := by decide +kernel
theorem dX11_init_60 : decode cX11_init 60 = .ok (.putfield 36, 3) := by decide +kernel
theorem dX11_init_63 : decode cX11_init 63 = .ok (.aload_n 0, 1) := by decide +kernel
theorem dX11_init_64 : decode cX11_init 64 = .ok (.new 39, 3) := by decide +kernel
theorem dX11_init_67 : decode cX11_init 67 = .ok (.dup, 1) := by decide +kernel
theorem dX11_init_68 : decode cX11_init 68 = .ok (.invokespecial 41, 3) := by decide +kernel
theorem dX11_init_71 : decode cX11_init 71 = .ok (.putfield 42, 3) := by decide +kernel
theorem dX11_init_74 : decode cX11_init 74 = .ok (.aload_n 0, 1) := by decide +kernel
theorem dX11_init_75 : decode cX11_init 75 = .ok (.new 46, 3) := by decide +kernel
theorem dX11_init_78 : decode cX11_init 78 = .ok (.dup, 1) := by decide +kernel
theorem dX11_init_79 : decode cX11_init 79 = .ok (.invokespecial 48, 3) := by decide +kernel
theorem dX11_init_82 : decode cX11_init 82 = .ok (.putfield 49, 3) := by decide +kernel
theorem dX11_init_85 : decode cX11_init 85 = .ok (.aload_n 0, 1) := by decide +kernel
theorem dX11_init_86 : decode cX11_init 86 = .ok (.sipush 128, 3) := by decide +kernel
theorem dX11_init_89 : decode cX11_init 89 = .ok (.newarray .boolean, 2) := by decide +kernel
theorem dX11_init_91 : decode cX11_init 91 = .ok (.putfield 53, 3) := by decide +kernel
theorem dX11_init_94 : decode cX11_init 94 = .ok (.aload_n 0, 1) := by decide +kernel
theorem dX11_init_95 : decode cX11_init 95 = .ok (.iconst 4, 1) := by decide +kernel
theorem dX11_init_96 : decode cX11_init 96 = .ok (.newarray .int, 2) := by decide +kernel
theorem dX11_init_98 : decode cX11_init 98 = .ok (.putfield 57, 3) := by decide +kernel
theorem dX11_init_101 : decode cX11_init 101 = .ok (.iconst 0, 1) := by decide +kernel
theorem dX11_init_102 : decode cX11_init 102 = .ok (.istore_n 1, 1) := by decide +kernel
theorem dX11_init_103 : decode cX11_init 103 = .ok (.iload_n 1, 1) := by decide +kernel
theorem dX11_init_104 : decode cX11_init 104 = .ok (.bipush 8, 2) := by decide +kernel
theorem dX11_init_106 : decode cX11_init 106 = .ok (.if_icmp .ge 22, 3) := by decide +kernel
theorem dX11_init_109 : decode cX11_init 109 = .ok (.aload_n 0, 1) := by decide +kernel
theorem dX11_init_110 : decode cX11_init 110 = .ok (.getfield 11, 3) := by decide +kernel
theorem dX11_init_113 : decode cX11_init 113 = .ok (.iload_n 1, 1) := by decide +kernel
theorem dX11_init_114 : decode cX11_init 114 = .ok (.new 9, 3) := by decide +kernel
theorem dX11_init_117 : decode cX11_init 117 = .ok (.dup, 1) := by decide +kernel
theorem dX11_init_118 : decode cX11_init 118 = .ok (.invokespecial 61, 3) := by decide +kernel
theorem dX11_init_121 : decode cX11_init 121 = .ok (.aastore, 1) := by decide +kernel
theorem dX11_init_122 : decode cX11_init 122 = .ok (.iinc 1 1, 3) := by decide +kernel
theorem dX11_init_125 : decode cX11_init 125 = .ok (.goto (-22), 3) := by decide +kernel
theorem dX11_init_128 : decode cX11_init 128 = .ok (.iconst 0, 1) := by decide +kernel
theorem dX11_init_129 : decode cX11_init 129 = .ok (.istore_n 1, 1) := by decide +kernel
theorem dX11_init_130 : decode cX11_init 130 = .ok (.iload_n 1, 1) := by decide +kernel
theorem dX11_init_131 : decode cX11_init 131 = .ok (.bipush 24, 2) := by decide +kernel
theorem dX11_init_133 : decode cX11_init 133 = .ok (.if_icmp .ge 22, 3) := by decide +kernel
theorem dX11_init_136 : decode cX11_init 136 = .ok (.aload_n 0, 1) := by decide +kernel
theorem dX11_init_137 : decode cX11_init 137 = .ok (.getfield 32, 3) := by decide +kernel
theorem dX11_init_140 : decode cX11_init 140 = .ok (.iload_n 1, 1) := by decide +kernel
theorem dX11_init_141 : decode cX11_init 141 = .ok (.new 22, 3) := by decide +kernel
theorem dX11_init_144 : decode cX11_init 144 = .ok (.dup, 1) := by decide +kernel
theorem dX11_init_145 : decode cX11_init 145 = .ok (.invokespecial 24, 3) := by decide +kernel
theorem dX11_init_148 : decode cX11_init 148 = .ok (.aastore, 1) := by decide +kernel
theorem dX11_init_149 : decode cX11_init 149 = .ok (.iinc 1 1, 3) := by decide +kernel
theorem dX11_init_152 : decode cX11_init 152 = .ok (.goto (-22), 3) := by decide +kernel
theorem dX11_init_155 : decode cX11_init 155 = .ok (.iconst 0, 1) := by decide +kernel
theorem dX11_init_156 : decode cX11_init 156 = .ok (.istore_n 1, 1) := by decide +kernel
theorem dX11_init_157 : decode cX11_init 157 = .ok (.iload_n 1, 1) := by decide +kernel
theorem dX11_init_158 : decode cX11_init 158 = .ok (.iconst 2, 1) := by decide +kernel
theorem dX11_init_159 : decode cX11_init 159 = .ok (.if_icmp .ge 22, 3) := by decide +kernel
theorem dX11_init_162 : decode cX11_init 162 = .ok (.aload_n 0, 1) := by decide +kernel
theorem dX11_init_163 : decode cX11_init 163 = .ok (.getfield 36, 3) := by decide +kernel
theorem dX11_init_166 : decode cX11_init 166 = .ok (.iload_n 1, 1) := by decide +kernel
theorem dX11_init_167 : decode cX11_init 167 = .ok (.new 22, 3) := by decide +kernel
theorem dX11_init_170 : decode cX11_init 170 = .ok (.dup, 1) := by decide +kernel
theorem dX11_init_171 : decode cX11_init 171 = .ok (.invokespecial 24, 3) := by decide +kernel
theorem dX11_init_174 : decode cX11_init 174 = .ok (.aastore, 1) := by decide +kernel
theorem dX11_init_175 : decode cX11_init 175 = .ok (.iinc 1 1, 3) := by decide +kernel
theorem dX11_init_178 : decode cX11_init 178 = .ok (.goto (-21), 3) := by decide +kernel
theorem dX11_init_181 : decode cX11_init 181 = .ok (.return_, 1) := by decide +kernel
theorem dX11_row_0 : decode cX11_row 0 = .ok (.aload_n 0, 1) := by decide +kernel
theorem dX11_row_1 : decode cX11_row 1 = .ok (.iload_n 1, 1) := by decide +kernel
theorem dX11_row_2 : decode cX11_row 2 = .ok (.invokevirtual 62, 3) := by decide +kernel
theorem dX11_row_5 : decode cX11_row 5 = .ok (.astore 4, 2) := by decide +kernel
theorem dX11_row_7 : decode cX11_row 7 = .ok (.aload 4, 2) := by decide +kernel
theorem dX11_row_9 : decode cX11_row 9 = .ok (.ifnull 18, 3) := by decide +kernel
theorem dX11_row_12 : decode cX11_row 12 = .ok (.iload_n 2, 1) := by decide +kernel
theorem dX11_row_13 : decode cX11_row 13 = .ok (.ifCond .lt 14, 3) := by decide +kernel
theorem dX11_row_16 : decode cX11_row 16 = .ok (.iload_n 2, 1) := by decide +kernel
theorem dX11_row_17 : decode cX11_row 17 = .ok (.iconst 2, 1) := by decide +kernel
theorem dX11_row_18 : decode cX11_row 18 = .ok (.if_icmp .gt 9, 3) := by decide +kernel
theorem dX11_row_21 : decode cX11_row 21 = .ok (.iload_n 3, 1) := by decide +kernel
theorem dX11_row_22 : decode cX11_row 22 = .ok (.bipush 40, 2) := by decide +kernel
theorem dX11_row_24 : decode cX11_row 24 = .ok (.if_icmp .le 6, 3) := by decide +kernel
theorem dX11_row_27 : decode cX11_row 27 = .ok (.ldc 66, 2) := by decide +kernel
theorem dX11_row_29 : decode cX11_row 29 = .ok (.ireturn, 1) := by decide +kernel
theorem dX11_row_30 : decode cX11_row 30 = .ok (.iload_n 3, 1) := by decide +kernel
theorem dX11_row_31 : decode cX11_row 31 = .ok (.ifCond .ge 9, 3) := by decide +kernel
theorem dX11_row_34 : decode cX11_row 34 = .ok (.aload_n 0, 1) := by decide +kernel
theorem dX11_row_35 : decode cX11_row 35 = .ok (.iconst 4, 1) := by decide +kernel
theorem dX11_row_36 : decode cX11_row 36 = .ok (.invokevirtual 67, 3) := by decide +kernel
theorem dX11_row_39 : decode cX11_row 39 = .ok (.ireturn, 1) := by decide +kernel
theorem dX11_row_40 : decode cX11_row 40 = .ok (.aload 4, 2) := by decide +kernel
theorem dX11_row_42 : decode cX11_row 42 = .ok (.iload_n 2, 1) := by decide +kernel
theorem dX11_row_43 : decode cX11_row 43 = .ok (.iload_n 3, 1) := by decide +kernel
theorem dX11_row_44 : decode cX11_row 44 = .ok (.invokevirtual 71, 3) := by decide +kernel
theorem dX11_row_47 : decode cX11_row 47 = .ok (.aload_n 0, 1) := by decide +kernel
theorem dX11_row_48 : decode cX11_row 48 = .ok (.iload_n 3, 1) := by decide +kernel
theorem dX11_row_49 : decode cX11_row 49 = .ok (.invokevirtual 75, 3) := by decide +kernel
theorem dX11_row_52 : decode cX11_row 52 = .ok (.ireturn, 1) := by decide +kernel
theorem dX11_set_0 : decode cX11_set 0 = .ok (.aload_n 0, 1) := by decide +kernel
theorem dX11_set_1 : decode cX11_set 1 = .ok (.iload_n 1, 1) := by decide +kernel
theorem dX11_set_2 : decode cX11_set 2 = .ok (.invokevirtual 62, 3) := by decide +kernel
theorem dX11_set_5 : decode cX11_set 5 = .ok (.astore 4, 2) := by decide +kernel
theorem dX11_set_7 : decode cX11_set 7 = .ok (.aload 4, 2) := by decide +kernel
theorem dX11_set_9 : decode cX11_set 9 = .ok (.ifnonnull 6, 3) := by decide +kernel
theorem dX11_set_12 : decode cX11_set 12 = .ok (.ldc 66, 2) := by decide +kernel
theorem dX11_set_14 : decode cX11_set 14 = .ok (.ireturn, 1) := by decide +kernel
theorem dX11_set_15 : decode cX11_set 15 = .ok (.aload 4, 2) := by decide +kernel
theorem dX11_set_17 : decode cX11_set 17 = .ok (.invokevirtual 78, 3) := by decide +kernel
theorem dX11_set_20 : decode cX11_set 20 = .ok (.ifCond .eq 9, 3) := by decide +kernel
theorem dX11_set_23 : decode cX11_set 23 = .ok (.aload_n 0, 1) := by decide +kernel
theorem dX11_set_24 : decode cX11_set 24 = .ok (.iconst 1, 1) := by decide +kernel
theorem dX11_set_25 : decode cX11_set 25 = .ok (.invokevirtual 67, 3) := by decide +kernel
theorem dX11_set_28 : decode cX11_set 28 = .ok (.ireturn, 1) := by decide +kernel
theorem dX11_set_29 : decode cX11_set 29 = .ok (.iload_n 2, 1) := by decide +kernel
theorem dX11_set_30 : decode cX11_set 30 = .ok (.ifCond .lt 12, 3) := by decide +kernel
theorem dX11_set_33 : decode cX11_set 33 = .ok (.iload_n 2, 1) := by decide +kernel
theorem dX11_set_34 : decode cX11_set 34 = .ok (.aload 4, 2) := by decide +kernel
theorem dX11_set_36 : decode cX11_set 36 = .ok (.getfield 82, 3) := by decide +kernel
theorem dX11_set_39 : decode cX11_set 39 = .ok (.if_icmp .lt 9, 3) := by decide +kernel
theorem dX11_set_42 : decode cX11_set 42 = .ok (.aload_n 0, 1) := by decide +kernel
theorem dX11_set_43 : decode cX11_set 43 = .ok (.iconst 2, 1) := by decide +kernel
theorem dX11_set_44 : decode cX11_set 44 = .ok (.invokevirtual 67, 3) := by decide +kernel
theorem dX11_set_47 : decode cX11_set 47 = .ok (.ireturn, 1) := by decide +kernel
theorem dX11_set_48 : decode cX11_set 48 = .ok (.aload 4, 2) := by decide +kernel
theorem dX11_set_50 : decode cX11_set 50 = .ok (.getfield 86, 3) := by decide +kernel
theorem dX11_set_53 : decode cX11_set 53 = .ok (.iload_n 2, 1) := by decide +kernel
theorem dX11_set_54 : decode cX11_set 54 = .ok (.aload 4, 2) := by decide +kernel
theorem dX11_set_56 : decode cX11_set 56 = .ok (.iload_n 3, 1) := by decide +kernel
theorem dX11_set_57 : decode cX11_set 57 = .ok (.invokevirtual 89, 3) := by decide +kernel
theorem dX11_set_60 : decode cX11_set 60 = .ok (.iastore, 1) := by decide +kernel
theorem dX11_set_61 : decode cX11_set 61 = .ok (.aload_n 0, 1) := by decide +kernel
theorem dX11_set_62 : decode cX11_set 62 = .ok (.aload 4, 2) := by decide +kernel
theorem dX11_set_64 : decode cX11_set 64 = .ok (.getfield 86, 3) := by decide +kernel
theorem dX11_set_67 : decode cX11_set 67 = .ok (.iload_n 2, 1) := by decide +kernel
theorem dX11_set_68 : decode cX11_set 68 = .ok (.iaload, 1) := by decide +kernel
theorem dX11_set_69 : decode cX11_set 69 = .ok (.invokevirtual 75, 3) := by decide +kernel
theorem dX11_set_72 : decode cX11_set 72 = .ok (.ireturn, 1) := by decide +kernel
theorem dX11_copy_0 : decode cX11_copy 0 = .ok (.aload_n 0, 1) := by decide +kernel
theorem dX11_copy_1 : decode cX11_copy 1 = .ok (.iload_n 1, 1) := by decide +kernel
theorem dX11_copy_2 : decode cX11_copy 2 = .ok (.invokevirtual 62, 3) := by decide +kernel
theorem dX11_copy_5 : decode cX11_copy 5 = .ok (.astore 6, 2) := by decide +kernel
theorem dX11_copy_7 : decode cX11_copy 7 = .ok (.aload_n 0, 1) := by decide +kernel
theorem dX11_copy_8 : decode cX11_copy 8 = .ok (.iload_n 3, 1) := by decide +kernel
theorem dX11_copy_9 : decode cX11_copy 9 = .ok (.invokevirtual 62, 3) := by decide +kernel
theorem dX11_copy_12 : decode cX11_copy 12 = .ok (.astore 7, 2) := by decide +kernel
theorem dX11_copy_14 : decode cX11_copy 14 = .ok (.aload 6, 2) := by decide +kernel
theorem dX11_copy_16 : decode cX11_copy 16 = .ok (.ifnull 8, 3) := by decide +kernel
theorem dX11_copy_19 : decode cX11_copy 19 = .ok (.aload 7, 2) := by decide +kernel
theorem dX11_copy_21 : decode cX11_copy 21 = .ok (.ifnonnull 6, 3) := by decide +kernel
theorem dX11_copy_24 : decode cX11_copy 24 = .ok (.ldc 66, 2) := by decide +kernel
theorem dX11_copy_26 : decode cX11_copy 26 = .ok (.ireturn, 1) := by decide +kernel
theorem dX11_copy_27 : decode cX11_copy 27 = .ok (.aload 6, 2) := by decide +kernel
theorem dX11_copy_29 : decode cX11_copy 29 = .ok (.invokevirtual 78, 3) := by decide +kernel
theorem dX11_copy_32 : decode cX11_copy 32 = .ok (.ifCond .ne 11, 3) := by decide +kernel
theorem dX11_copy_35 : decode cX11_copy 35 = .ok (.aload 7, 2) := by decide +kernel
theorem dX11_copy_37 : decode cX11_copy 37 = .ok (.invokevirtual 78, 3) := by decide +kernel
theorem dX11_copy_40 : decode cX11_copy 40 = .ok (.ifCond .eq 9, 3) := by decide +kernel
theorem dX11_copy_43 : decode cX11_copy 43 = .ok (.aload_n 0, 1) := by decide +kernel
theorem dX11_copy_44 : decode cX11_copy 44 = .ok (.iconst 1, 1) := by decide +kernel
theorem dX11_copy_45 : decode cX11_copy 45 = .ok (.invokevirtual 67, 3) := by decide +kernel
theorem dX11_copy_48 : decode cX11_copy 48 = .ok (.ireturn, 1) := by decide +kernel
theorem dX11_copy_49 : decode cX11_copy 49 = .ok (.aload 6, 2) := by decide +kernel
theorem dX11_copy_51 : decode cX11_copy 51 = .ok (.getfield 92, 3) := by decide +kernel
theorem dX11_copy_54 : decode cX11_copy 54 = .ok (.aload 7, 2) := by decide +kernel
theorem dX11_copy_56 : decode cX11_copy 56 = .ok (.getfield 92, 3) := by decide +kernel
theorem dX11_copy_59 : decode cX11_copy 59 = .ok (.if_icmp .eq 9, 3) := by decide +kernel
theorem dX11_copy_62 : decode cX11_copy 62 = .ok (.aload_n 0, 1) := by decide +kernel
theorem dX11_copy_63 : decode cX11_copy 63 = .ok (.iconst 5, 1) := by decide +kernel
theorem dX11_copy_64 : decode cX11_copy 64 = .ok (.invokevirtual 67, 3) := by decide +kernel
theorem dX11_copy_67 : decode cX11_copy 67 = .ok (.ireturn, 1) := by decide +kernel
theorem dX11_copy_68 : decode cX11_copy 68 = .ok (.aload 6, 2) := by decide +kernel
theorem dX11_copy_70 : decode cX11_copy 70 = .ok (.iload_n 2, 1) := by decide +kernel
theorem dX11_copy_71 : decode cX11_copy 71 = .ok (.iload 5, 2) := by decide +kernel
theorem dX11_copy_73 : decode cX11_copy 73 = .ok (.invokevirtual 95, 3) := by decide +kernel
theorem dX11_copy_76 : decode cX11_copy 76 = .ok (.ifCond .eq 15, 3) := by decide +kernel
theorem dX11_copy_79 : decode cX11_copy 79 = .ok (.aload 7, 2) := by decide +kernel
theorem dX11_copy_81 : decode cX11_copy 81 = .ok (.iload 4, 2) := by decide +kernel
theorem dX11_copy_83 : decode cX11_copy 83 = .ok (.iload 5, 2) := by decide +kernel
theorem dX11_copy_85 : decode cX11_copy 85 = .ok (.invokevirtual 95, 3) := by decide +kernel
theorem dX11_copy_88 : decode cX11_copy 88 = .ok (.ifCond .ne 9, 3) := by decide +kernel
theorem dX11_copy_91 : decode cX11_copy 91 = .ok (.aload_n 0, 1) := by decide +kernel
theorem dX11_copy_92 : decode cX11_copy 92 = .ok (.iconst 2, 1) := by decide +kernel
theorem dX11_copy_93 : decode cX11_copy 93 = .ok (.invokevirtual 67, 3) := by decide +kernel
theorem dX11_copy_96 : decode cX11_copy 96 = .ok (.ireturn, 1) := by decide +kernel
theorem dX11_copy_97 : decode cX11_copy 97 = .ok (.aload 6, 2) := by decide +kernel
theorem dX11_copy_99 : decode cX11_copy 99 = .ok (.getfield 86, 3) := by decide +kernel
theorem dX11_copy_102 : decode cX11_copy 102 = .ok (.iload_n 2, 1) := by decide +kernel
theorem dX11_copy_103 : decode cX11_copy 103 = .ok (.aload 7, 2) := by decide +kernel
theorem dX11_copy_105 : decode cX11_copy 105 = .ok (.getfield 86, 3) := by decide +kernel
theorem dX11_copy_108 : decode cX11_copy 108 = .ok (.iload 4, 2) := by decide +kernel
theorem dX11_copy_110 : decode cX11_copy 110 = .ok (.iload 5, 2) := by decide +kernel
theorem dX11_copy_112 : decode cX11_copy 112 = .ok (.invokestatic 99, 3) := by decide +kernel
theorem dX11_copy_115 : decode cX11_copy 115 = .ok (.aload_n 0, 1) := by decide +kernel
theorem dX11_copy_116 : decode cX11_copy 116 = .ok (.iload 5, 2) := by decide +kernel
theorem dX11_copy_118 : decode cX11_copy 118 = .ok (.invokevirtual 75, 3) := by decide +kernel
theorem dX11_copy_121 : decode cX11_copy 121 = .ok (.ireturn, 1) := by decide +kernel
theorem dX11_drop_0 : decode cX11_drop 0 = .ok (.aload_n 0, 1) := by decide +kernel
theorem dX11_drop_1 : decode cX11_drop 1 = .ok (.iload_n 1, 1) := by decide +kernel
theorem dX11_drop_2 : decode cX11_drop 2 = .ok (.invokevirtual 62, 3) := by decide +kernel
theorem dX11_drop_5 : decode cX11_drop 5 = .ok (.astore_n 2, 1) := by decide +kernel
theorem dX11_drop_6 : decode cX11_drop 6 = .ok (.aload_n 2, 1) := by decide +kernel
theorem dX11_drop_7 : decode cX11_drop 7 = .ok (.ifnonnull 6, 3) := by decide +kernel
theorem dX11_drop_10 : decode cX11_drop 10 = .ok (.ldc 66, 2) := by decide +kernel
theorem dX11_drop_12 : decode cX11_drop 12 = .ok (.ireturn, 1) := by decide +kernel
theorem dX11_drop_13 : decode cX11_drop 13 = .ok (.aload_n 2, 1) := by decide +kernel
theorem dX11_drop_14 : decode cX11_drop 14 = .ok (.invokevirtual 78, 3) := by decide +kernel
theorem dX11_drop_17 : decode cX11_drop 17 = .ok (.ifCond .eq 9, 3) := by decide +kernel
theorem dX11_drop_20 : decode cX11_drop 20 = .ok (.aload_n 0, 1) := by decide +kernel
theorem dX11_drop_21 : decode cX11_drop 21 = .ok (.iconst 1, 1) := by decide +kernel
theorem dX11_drop_22 : decode cX11_drop 22 = .ok (.invokevirtual 67, 3) := by decide +kernel
theorem dX11_drop_25 : decode cX11_drop 25 = .ok (.ireturn, 1) := by decide +kernel
theorem dX11_drop_26 : decode cX11_drop 26 = .ok (.aload_n 2, 1) := by decide +kernel
theorem dX11_drop_27 : decode cX11_drop 27 = .ok (.getfield 82, 3) := by decide +kernel
theorem dX11_drop_30 : decode cX11_drop 30 = .ok (.istore_n 3, 1) := by decide +kernel
theorem dX11_drop_31 : decode cX11_drop 31 = .ok (.aload_n 2, 1) := by decide +kernel
theorem dX11_drop_32 : decode cX11_drop 32 = .ok (.invokevirtual 105, 3) := by decide +kernel
theorem dX11_drop_35 : decode cX11_drop 35 = .ok (.aload_n 0, 1) := by decide +kernel
theorem dX11_drop_36 : decode cX11_drop 36 = .ok (.iload_n 3, 1) := by decide +kernel
theorem dX11_drop_37 : decode cX11_drop 37 = .ok (.invokevirtual 75, 3) := by decide +kernel
theorem dX11_drop_40 : decode cX11_drop 40 = .ok (.ireturn, 1) := by decide +kernel
theorem dX11_feed_0 : decode cX11_feed 0 = .ok (.iload_n 3, 1) := by decide +kernel
theorem dX11_feed_1 : decode cX11_feed 1 = .ok (.iconst 1, 1) := by decide +kernel
theorem dX11_feed_2 : decode cX11_feed 2 = .ok (.if_icmp .lt 9, 3) := by decide +kernel
theorem dX11_feed_5 : decode cX11_feed 5 = .ok (.iload_n 3, 1) := by decide +kernel
theorem dX11_feed_6 : decode cX11_feed 6 = .ok (.bipush 8, 2) := by decide +kernel
theorem dX11_feed_8 : decode cX11_feed 8 = .ok (.if_icmp .le 6, 3) := by decide +kernel
theorem dX11_feed_11 : decode cX11_feed 11 = .ok (.ldc 66, 2) := by decide +kernel
theorem dX11_feed_13 : decode cX11_feed 13 = .ok (.ireturn, 1) := by decide +kernel
theorem dX11_feed_14 : decode cX11_feed 14 = .ok (.aload_n 0, 1) := by decide +kernel
theorem dX11_feed_15 : decode cX11_feed 15 = .ok (.getfield 18, 3) := by decide +kernel
theorem dX11_feed_18 : decode cX11_feed 18 = .ok (.getfield 108, 3) := by decide +kernel
theorem dX11_feed_21 : decode cX11_feed 21 = .ok (.iload_n 3, 1) := by decide +kernel
theorem dX11_feed_22 : decode cX11_feed 22 = .ok (.iadd, 1) := by decide +kernel
theorem dX11_feed_23 : decode cX11_feed 23 = .ok (.sipush 400, 3) := by decide +kernel
