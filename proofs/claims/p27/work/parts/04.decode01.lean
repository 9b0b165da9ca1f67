theorem dX11_feed_26 : decode cX11_feed 26 = .ok (.if_icmp .le 6, 3) := by decide +kernel
theorem dX11_feed_29 : decode cX11_feed 29 = .ok (.ldc 111, 2) := by decide +kernel
theorem dX11_feed_31 : decode cX11_feed 31 = .ok (.ireturn, 1) := by decide +kernel
theorem dX11_feed_32 : decode cX11_feed 32 = .ok (.iload_n 3, 1) := by decide +kernel
theorem dX11_feed_33 : decode cX11_feed 33 = .ok (.iconst 1, 1) := by decide +kernel
theorem dX11_feed_34 : decode cX11_feed 34 = .ok (.isub, 1) := by decide +kernel
theorem dX11_feed_35 : decode cX11_feed 35 = .ok (.istore 4, 2) := by decide +kernel
theorem dX11_feed_37 : decode cX11_feed 37 = .ok (.iload 4, 2) := by decide +kernel
theorem dX11_feed_39 : decode cX11_feed 39 = .ok (.ifCond .lt 25, 3) := by decide +kernel
theorem dX11_feed_42 : decode cX11_feed 42 = .ok (.aload_n 0, 1) := by decide +kernel
theorem dX11_feed_43 : decode cX11_feed 43 = .ok (.getfield 18, 3) := by decide +kernel
theorem dX11_feed_46 : decode cX11_feed 46 = .ok (.lload_n 1, 1) := by decide +kernel
theorem dX11_feed_47 : decode cX11_feed 47 = .ok (.bipush 8, 2) := by decide +kernel
theorem dX11_feed_49 : decode cX11_feed 49 = .ok (.iload 4, 2) := by decide +kernel
theorem dX11_feed_51 : decode cX11_feed 51 = .ok (.imul, 1) := by decide +kernel
theorem dX11_feed_52 : decode cX11_feed 52 = .ok (.lshr, 1) := by decide +kernel
theorem dX11_feed_53 : decode cX11_feed 53 = .ok (.l2i, 1) := by decide +kernel
theorem dX11_feed_54 : decode cX11_feed 54 = .ok (.i2b, 1) := by decide +kernel
theorem dX11_feed_55 : decode cX11_feed 55 = .ok (.invokevirtual 112, 3) := by decide +kernel
theorem dX11_feed_58 : decode cX11_feed 58 = .ok (.iinc 4 (-1), 3) := by decide +kernel
theorem dX11_feed_61 : decode cX11_feed 61 = .ok (.goto (-24), 3) := by decide +kernel
theorem dX11_feed_64 : decode cX11_feed 64 = .ok (.aload_n 0, 1) := by decide +kernel
theorem dX11_feed_65 : decode cX11_feed 65 = .ok (.getfield 18, 3) := by decide +kernel
theorem dX11_feed_68 : decode cX11_feed 68 = .ok (.getfield 108, 3) := by decide +kernel
theorem dX11_feed_71 : decode cX11_feed 71 = .ok (.ireturn, 1) := by decide +kernel
theorem dX11_tower_0 : decode cX11_tower 0 = .ok (.aload_n 0, 1) := by decide +kernel
theorem dX11_tower_1 : decode cX11_tower 1 = .ok (.getfield 18, 3) := by decide +kernel
theorem dX11_tower_4 : decode cX11_tower 4 = .ok (.aload_n 0, 1) := by decide +kernel
theorem dX11_tower_5 : decode cX11_tower 5 = .ok (.getfield 29, 3) := by decide +kernel
theorem dX11_tower_8 : decode cX11_tower 8 = .ok (.invokevirtual 116, 3) := by decide +kernel
theorem dX11_tower_11 : decode cX11_tower 11 = .ok (.ifCond .ne 14, 3) := by decide +kernel
theorem dX11_tower_14 : decode cX11_tower 14 = .ok (.ldc 120, 2) := by decide +kernel
theorem dX11_tower_16 : decode cX11_tower 16 = .ok (.aload_n 0, 1) := by decide +kernel
theorem dX11_tower_17 : decode cX11_tower 17 = .ok (.getfield 18, 3) := by decide +kernel
theorem dX11_tower_20 : decode cX11_tower 20 = .ok (.getfield 121, 3) := by decide +kernel
theorem dX11_tower_23 : decode cX11_tower 23 = .ok (.isub, 1) := by decide +kernel
theorem dX11_tower_24 : decode cX11_tower 24 = .ok (.ireturn, 1) := by decide +kernel
theorem dX11_tower_25 : decode cX11_tower 25 = .ok (.aload_n 0, 1) := by decide +kernel
theorem dX11_tower_26 : decode cX11_tower 26 = .ok (.getfield 25, 3) := by decide +kernel
theorem dX11_tower_29 : decode cX11_tower 29 = .ok (.aload_n 0, 1) := by decide +kernel
theorem dX11_tower_30 : decode cX11_tower 30 = .ok (.getfield 29, 3) := by decide +kernel
theorem dX11_tower_33 : decode cX11_tower 33 = .ok (.invokevirtual 124, 3) := by decide +kernel
theorem dX11_tower_36 : decode cX11_tower 36 = .ok (.aload_n 0, 1) := by decide +kernel
theorem dX11_tower_37 : decode cX11_tower 37 = .ok (.iconst 0, 1) := by decide +kernel
theorem dX11_tower_38 : decode cX11_tower 38 = .ok (.putfield 128, 3) := by decide +kernel
theorem dX11_tower_41 : decode cX11_tower 41 = .ok (.aload_n 0, 1) := by decide +kernel
theorem dX11_tower_42 : decode cX11_tower 42 = .ok (.getfield 25, 3) := by decide +kernel
theorem dX11_tower_45 : decode cX11_tower 45 = .ok (.getfield 131, 3) := by decide +kernel
theorem dX11_tower_48 : decode cX11_tower 48 = .ok (.ireturn, 1) := by decide +kernel
theorem dX11_fault_0 : decode cX11_fault 0 = .ok (.aload_n 0, 1) := by decide +kernel
theorem dX11_fault_1 : decode cX11_fault 1 = .ok (.getfield 18, 3) := by decide +kernel
theorem dX11_fault_4 : decode cX11_fault 4 = .ok (.getfield 134, 3) := by decide +kernel
theorem dX11_fault_7 : decode cX11_fault 7 = .ok (.ireturn, 1) := by decide +kernel
theorem dX11_go_0 : decode cX11_go 0 = .ok (.aload_n 0, 1) := by decide +kernel
theorem dX11_go_1 : decode cX11_go 1 = .ok (.getfield 25, 3) := by decide +kernel
theorem dX11_go_4 : decode cX11_go 4 = .ok (.iload_n 1, 1) := by decide +kernel
theorem dX11_go_5 : decode cX11_go 5 = .ok (.invokevirtual 137, 3) := by decide +kernel
theorem dX11_go_8 : decode cX11_go 8 = .ok (.ifCond .eq 13, 3) := by decide +kernel
theorem dX11_go_11 : decode cX11_go 11 = .ok (.iload_n 2, 1) := by decide +kernel
theorem dX11_go_12 : decode cX11_go 12 = .ok (.iconst (-1), 1) := by decide +kernel
theorem dX11_go_13 : decode cX11_go 13 = .ok (.if_icmp .lt 8, 3) := by decide +kernel
theorem dX11_go_16 : decode cX11_go 16 = .ok (.iload_n 2, 1) := by decide +kernel
theorem dX11_go_17 : decode cX11_go 17 = .ok (.iconst 1, 1) := by decide +kernel
theorem dX11_go_18 : decode cX11_go 18 = .ok (.if_icmp .le 6, 3) := by decide +kernel
theorem dX11_go_21 : decode cX11_go 21 = .ok (.ldc 66, 2) := by decide +kernel
theorem dX11_go_23 : decode cX11_go 23 = .ok (.ireturn, 1) := by decide +kernel
theorem dX11_go_24 : decode cX11_go 24 = .ok (.aload_n 0, 1) := by decide +kernel
theorem dX11_go_25 : decode cX11_go 25 = .ok (.getfield 25, 3) := by decide +kernel
theorem dX11_go_28 : decode cX11_go 28 = .ok (.getfield 141, 3) := by decide +kernel
theorem dX11_go_31 : decode cX11_go 31 = .ok (.iload_n 1, 1) := by decide +kernel
theorem dX11_go_32 : decode cX11_go 32 = .ok (.iaload, 1) := by decide +kernel
theorem dX11_go_33 : decode cX11_go 33 = .ok (.istore_n 3, 1) := by decide +kernel
theorem dX11_go_34 : decode cX11_go 34 = .ok (.iload_n 2, 1) := by decide +kernel
theorem dX11_go_35 : decode cX11_go 35 = .ok (.iload_n 3, 1) := by decide +kernel
theorem dX11_go_36 : decode cX11_go 36 = .ok (.if_icmp .eq 17, 3) := by decide +kernel
theorem dX11_go_39 : decode cX11_go 39 = .ok (.aload_n 0, 1) := by decide +kernel
theorem dX11_go_40 : decode cX11_go 40 = .ok (.invokevirtual 144, 3) := by decide +kernel
theorem dX11_go_43 : decode cX11_go 43 = .ok (.aload_n 0, 1) := by decide +kernel
theorem dX11_go_44 : decode cX11_go 44 = .ok (.getfield 25, 3) := by decide +kernel
theorem dX11_go_47 : decode cX11_go 47 = .ok (.getfield 141, 3) := by decide +kernel
theorem dX11_go_50 : decode cX11_go 50 = .ok (.iload_n 1, 1) := by decide +kernel
theorem dX11_go_51 : decode cX11_go 51 = .ok (.iload_n 2, 1) := by decide +kernel
theorem dX11_go_52 : decode cX11_go 52 = .ok (.iastore, 1) := by decide +kernel
theorem dX11_go_53 : decode cX11_go 53 = .ok (.iload_n 3, 1) := by decide +kernel
theorem dX11_go_54 : decode cX11_go 54 = .ok (.ireturn, 1) := by decide +kernel
theorem dX11_hang_0 : decode cX11_hang 0 = .ok (.aload_n 0, 1) := by decide +kernel
theorem dX11_hang_1 : decode cX11_hang 1 = .ok (.getfield 25, 3) := by decide +kernel
theorem dX11_hang_4 : decode cX11_hang 4 = .ok (.iload_n 1, 1) := by decide +kernel
theorem dX11_hang_5 : decode cX11_hang 5 = .ok (.invokevirtual 147, 3) := by decide +kernel
theorem dX11_hang_8 : decode cX11_hang 8 = .ok (.ifCond .eq 12, 3) := by decide +kernel
theorem dX11_hang_11 : decode cX11_hang 11 = .ok (.iload_n 2, 1) := by decide +kernel
theorem dX11_hang_12 : decode cX11_hang 12 = .ok (.ifCond .lt 8, 3) := by decide +kernel
theorem dX11_hang_15 : decode cX11_hang 15 = .ok (.iload_n 2, 1) := by decide +kernel
theorem dX11_hang_16 : decode cX11_hang 16 = .ok (.iconst 4, 1) := by decide +kernel
theorem dX11_hang_17 : decode cX11_hang 17 = .ok (.if_icmp .lt 6, 3) := by decide +kernel
theorem dX11_hang_20 : decode cX11_hang 20 = .ok (.ldc 66, 2) := by decide +kernel
theorem dX11_hang_22 : decode cX11_hang 22 = .ok (.ireturn, 1) := by decide +kernel
theorem dX11_hang_23 : decode cX11_hang 23 = .ok (.aload_n 0, 1) := by decide +kernel
theorem dX11_hang_24 : decode cX11_hang 24 = .ok (.getfield 25, 3) := by decide +kernel
theorem dX11_hang_27 : decode cX11_hang 27 = .ok (.getfield 150, 3) := by decide +kernel
theorem dX11_hang_30 : decode cX11_hang 30 = .ok (.iload_n 1, 1) := by decide +kernel
theorem dX11_hang_31 : decode cX11_hang 31 = .ok (.iaload, 1) := by decide +kernel
theorem dX11_hang_32 : decode cX11_hang 32 = .ok (.istore_n 3, 1) := by decide +kernel
theorem dX11_hang_33 : decode cX11_hang 33 = .ok (.iload_n 2, 1) := by decide +kernel
theorem dX11_hang_34 : decode cX11_hang 34 = .ok (.iload_n 3, 1) := by decide +kernel
theorem dX11_hang_35 : decode cX11_hang 35 = .ok (.if_icmp .eq 17, 3) := by decide +kernel
theorem dX11_hang_38 : decode cX11_hang 38 = .ok (.aload_n 0, 1) := by decide +kernel
theorem dX11_hang_39 : decode cX11_hang 39 = .ok (.invokevirtual 144, 3) := by decide +kernel
theorem dX11_hang_42 : decode cX11_hang 42 = .ok (.aload_n 0, 1) := by decide +kernel
theorem dX11_hang_43 : decode cX11_hang 43 = .ok (.getfield 25, 3) := by decide +kernel
theorem dX11_hang_46 : decode cX11_hang 46 = .ok (.getfield 150, 3) := by decide +kernel
theorem dX11_hang_49 : decode cX11_hang 49 = .ok (.iload_n 1, 1) := by decide +kernel
theorem dX11_hang_50 : decode cX11_hang 50 = .ok (.iload_n 2, 1) := by decide +kernel
theorem dX11_hang_51 : decode cX11_hang 51 = .ok (.iastore, 1) := by decide +kernel
theorem dX11_hang_52 : decode cX11_hang 52 = .ok (.iload_n 3, 1) := by decide +kernel
theorem dX11_hang_53 : decode cX11_hang 53 = .ok (.ireturn, 1) := by decide +kernel
theorem dX11_halves_0 : decode cX11_halves 0 = .ok (.aload_n 0, 1) := by decide +kernel
theorem dX11_halves_1 : decode cX11_halves 1 = .ok (.getfield 25, 3) := by decide +kernel
theorem dX11_halves_4 : decode cX11_halves 4 = .ok (.invokevirtual 153, 3) := by decide +kernel
theorem dX11_halves_7 : decode cX11_halves 7 = .ok (.ifCond .ne 6, 3) := by decide +kernel
theorem dX11_halves_10 : decode cX11_halves 10 = .ok (.ldc 156, 2) := by decide +kernel
theorem dX11_halves_12 : decode cX11_halves 12 = .ok (.ireturn, 1) := by decide +kernel
theorem dX11_halves_13 : decode cX11_halves 13 = .ok (.iload_n 1, 1) := by decide +kernel
theorem dX11_halves_14 : decode cX11_halves 14 = .ok (.iconst 1, 1) := by decide +kernel
theorem dX11_halves_15 : decode cX11_halves 15 = .ok (.if_icmp .lt 9, 3) := by decide +kernel
theorem dX11_halves_18 : decode cX11_halves 18 = .ok (.iload_n 1, 1) := by decide +kernel
theorem dX11_halves_19 : decode cX11_halves 19 = .ok (.bipush 64, 2) := by decide +kernel
theorem dX11_halves_21 : decode cX11_halves 21 = .ok (.if_icmp .le 6, 3) := by decide +kernel
theorem dX11_halves_24 : decode cX11_halves 24 = .ok (.ldc 66, 2) := by decide +kernel
theorem dX11_halves_26 : decode cX11_halves 26 = .ok (.ireturn, 1) := by decide +kernel
theorem dX11_halves_27 : decode cX11_halves 27 = .ok (.aload_n 0, 1) := by decide +kernel
theorem dX11_halves_28 : decode cX11_halves 28 = .ok (.getfield 25, 3) := by decide +kernel
theorem dX11_halves_31 : decode cX11_halves 31 = .ok (.getfield 157, 3) := by decide +kernel
theorem dX11_halves_34 : decode cX11_halves 34 = .ok (.iload_n 1, 1) := by decide +kernel
theorem dX11_halves_35 : decode cX11_halves 35 = .ok (.iadd, 1) := by decide +kernel
theorem dX11_halves_36 : decode cX11_halves 36 = .ok (.sipush 9999, 3) := by decide +kernel
theorem dX11_halves_39 : decode cX11_halves 39 = .ok (.if_icmp .le 6, 3) := by decide +kernel
theorem dX11_halves_42 : decode cX11_halves 42 = .ok (.ldc 111, 2) := by decide +kernel
theorem dX11_halves_44 : decode cX11_halves 44 = .ok (.ireturn, 1) := by decide +kernel
theorem dX11_halves_45 : decode cX11_halves 45 = .ok (.aload_n 0, 1) := by decide +kernel
theorem dX11_halves_46 : decode cX11_halves 46 = .ok (.invokevirtual 144, 3) := by decide +kernel
theorem dX11_halves_49 : decode cX11_halves 49 = .ok (.ldc 160, 2) := by decide +kernel
theorem dX11_halves_51 : decode cX11_halves 51 = .ok (.istore_n 2, 1) := by decide +kernel
theorem dX11_halves_52 : decode cX11_halves 52 = .ok (.iconst 1, 1) := by decide +kernel
theorem dX11_halves_53 : decode cX11_halves 53 = .ok (.istore_n 3, 1) := by decide +kernel
theorem dX11_halves_54 : decode cX11_halves 54 = .ok (.iload_n 3, 1) := by decide +kernel
theorem dX11_halves_55 : decode cX11_halves 55 = .ok (.iload_n 1, 1) := by decide +kernel
theorem dX11_halves_56 : decode cX11_halves 56 = .ok (.if_icmp .gt 34, 3) := by decide +kernel
theorem dX11_halves_59 : decode cX11_halves 59 = .ok (.aload_n 0, 1) := by decide +kernel
theorem dX11_halves_60 : decode cX11_halves 60 = .ok (.getfield 25, 3) := by decide +kernel
theorem dX11_halves_63 : decode cX11_halves 63 = .ok (.invokevirtual 161, 3) := by decide +kernel
theorem dX11_halves_66 : decode cX11_halves 66 = .ok (.iload_n 2, 1) := by decide +kernel
theorem dX11_halves_67 : decode cX11_halves 67 = .ok (.ldc 160, 2) := by decide +kernel
theorem dX11_halves_69 : decode cX11_halves 69 = .ok (.if_icmp .ne 15, 3) := by decide +kernel
theorem dX11_halves_72 : decode cX11_halves 72 = .ok (.aload_n 0, 1) := by decide +kernel
theorem dX11_halves_73 : decode cX11_halves 73 = .ok (.getfield 25, 3) := by decide +kernel
theorem dX11_halves_76 : decode cX11_halves 76 = .ok (.invokevirtual 164, 3) := by decide +kernel
theorem dX11_halves_79 : decode cX11_halves 79 = .ok (.ifCond .eq 5, 3) := by decide +kernel
theorem dX11_halves_82 : decode cX11_halves 82 = .ok (.iload_n 3, 1) := by decide +kernel
theorem dX11_halves_83 : decode cX11_halves 83 = .ok (.istore_n 2, 1) := by decide +kernel
theorem dX11_halves_84 : decode cX11_halves 84 = .ok (.iinc 3 1, 3) := by decide +kernel
theorem dX11_halves_87 : decode cX11_halves 87 = .ok (.goto (-33), 3) := by decide +kernel
theorem dX11_halves_90 : decode cX11_halves 90 = .ok (.iload_n 2, 1) := by decide +kernel
theorem dX11_halves_91 : decode cX11_halves 91 = .ok (.ireturn, 1) := by decide +kernel
theorem dX11_year_0 : decode cX11_year 0 = .ok (.aload_n 0, 1) := by decide +kernel
theorem dX11_year_1 : decode cX11_year 1 = .ok (.getfield 25, 3) := by decide +kernel
theorem dX11_year_4 : decode cX11_year 4 = .ok (.invokevirtual 153, 3) := by decide +kernel
theorem dX11_year_7 : decode cX11_year 7 = .ok (.ifCond .ne 6, 3) := by decide +kernel
theorem dX11_year_10 : decode cX11_year 10 = .ok (.ldc 156, 2) := by decide +kernel
theorem dX11_year_12 : decode cX11_year 12 = .ok (.ireturn, 1) := by decide +kernel
theorem dX11_year_13 : decode cX11_year 13 = .ok (.aload_n 0, 1) := by decide +kernel
theorem dX11_year_14 : decode cX11_year 14 = .ok (.getfield 25, 3) := by decide +kernel
theorem dX11_year_17 : decode cX11_year 17 = .ok (.getfield 167, 3) := by decide +kernel
theorem dX11_year_20 : decode cX11_year 20 = .ok (.invokestatic 170, 3) := by decide +kernel
theorem dX11_year_23 : decode cX11_year 23 = .ok (.sipush 9999, 3) := by decide +kernel
theorem dX11_year_26 : decode cX11_year 26 = .ok (.if_icmp .gt 19, 3) := by decide +kernel
theorem dX11_year_29 : decode cX11_year 29 = .ok (.aload_n 0, 1) := by decide +kernel
theorem dX11_year_30 : decode cX11_year 30 = .ok (.getfield 25, 3) := by decide +kernel
theorem dX11_year_33 : decode cX11_year 33 = .ok (.getfield 175, 3) := by decide +kernel
theorem dX11_year_36 : decode cX11_year 36 = .ok (.invokestatic 170, 3) := by decide +kernel
theorem dX11_year_39 : decode cX11_year 39 = .ok (.sipush 9999, 3) := by decide +kernel
theorem dX11_year_42 : decode cX11_year 42 = .ok (.if_icmp .le 6, 3) := by decide +kernel
theorem dX11_year_45 : decode cX11_year 45 = .ok (.ldc 111, 2) := by decide +kernel
theorem dX11_year_47 : decode cX11_year 47 = .ok (.ireturn, 1) := by decide +kernel
theorem dX11_year_48 : decode cX11_year 48 = .ok (.aload_n 0, 1) := by decide +kernel
theorem dX11_year_49 : decode cX11_year 49 = .ok (.invokevirtual 144, 3) := by decide +kernel
theorem dX11_year_52 : decode cX11_year 52 = .ok (.aload_n 0, 1) := by decide +kernel
theorem dX11_year_53 : decode cX11_year 53 = .ok (.getfield 25, 3) := by decide +kernel
theorem dX11_year_56 : decode cX11_year 56 = .ok (.invokevirtual 178, 3) := by decide +kernel
theorem dX11_year_59 : decode cX11_year 59 = .ok (.iconst 1, 1) := by decide +kernel
theorem dX11_year_60 : decode cX11_year 60 = .ok (.ireturn, 1) := by decide +kernel
theorem dX11_undo_0 : decode cX11_undo 0 = .ok (.aload_n 0, 1) := by decide +kernel
theorem dX11_undo_1 : decode cX11_undo 1 = .ok (.getfield 128, 3) := by decide +kernel
theorem dX11_undo_4 : decode cX11_undo 4 = .ok (.ifCond .ne 6, 3) := by decide +kernel
theorem dX11_undo_7 : decode cX11_undo 7 = .ok (.ldc 156, 2) := by decide +kernel
theorem dX11_undo_9 : decode cX11_undo 9 = .ok (.ireturn, 1) := by decide +kernel
theorem dX11_undo_10 : decode cX11_undo 10 = .ok (.aload_n 0, 1) := by decide +kernel
theorem dX11_undo_11 : decode cX11_undo 11 = .ok (.dup, 1) := by decide +kernel
theorem dX11_undo_12 : decode cX11_undo 12 = .ok (.getfield 128, 3) := by decide +kernel
theorem dX11_undo_15 : decode cX11_undo 15 = .ok (.iconst 1, 1) := by decide +kernel
theorem dX11_undo_16 : decode cX11_undo 16 = .ok (.isub, 1) := by decide +kernel
theorem dX11_undo_17 : decode cX11_undo 17 = .ok (.putfield 128, 3) := by decide +kernel
theorem dX11_undo_20 : decode cX11_undo 20 = .ok (.aload_n 0, 1) := by decide +kernel
theorem dX11_undo_21 : decode cX11_undo 21 = .ok (.getfield 25, 3) := by decide +kernel
theorem dX11_undo_24 : decode cX11_undo 24 = .ok (.aload_n 0, 1) := by decide +kernel
theorem dX11_undo_25 : decode cX11_undo 25 = .ok (.getfield 32, 3) := by decide +kernel
theorem dX11_undo_28 : decode cX11_undo 28 = .ok (.aload_n 0, 1) := by decide +kernel
theorem dX11_undo_29 : decode cX11_undo 29 = .ok (.getfield 181, 3) := by decide +kernel
theorem dX11_undo_32 : decode cX11_undo 32 = .ok (.aload_n 0, 1) := by decide +kernel
theorem dX11_undo_33 : decode cX11_undo 33 = .ok (.getfield 128, 3) := by decide +kernel
theorem dX11_undo_36 : decode cX11_undo 36 = .ok (.iadd, 1) := by decide +kernel
theorem dX11_undo_37 : decode cX11_undo 37 = .ok (.bipush 24, 2) := by decide +kernel
theorem dX11_undo_39 : decode cX11_undo 39 = .ok (.irem, 1) := by decide +kernel
theorem dX11_undo_40 : decode cX11_undo 40 = .ok (.aaload, 1) := by decide +kernel
theorem dX11_undo_41 : decode cX11_undo 41 = .ok (.invokevirtual 124, 3) := by decide +kernel
theorem dX11_undo_44 : decode cX11_undo 44 = .ok (.aload_n 0, 1) := by decide +kernel
theorem dX11_undo_45 : decode cX11_undo 45 = .ok (.getfield 128, 3) := by decide +kernel
theorem dX11_undo_48 : decode cX11_undo 48 = .ok (.ireturn, 1) := by decide +kernel
theorem dX11_person_0 : decode cX11_person 0 = .ok (.aload_n 0, 1) := by decide +kernel
theorem dX11_person_1 : decode cX11_person 1 = .ok (.getfield 25, 3) := by decide +kernel
theorem dX11_person_4 : decode cX11_person 4 = .ok (.iload_n 1, 1) := by decide +kernel
theorem dX11_person_5 : decode cX11_person 5 = .ok (.invokevirtual 184, 3) := by decide +kernel
theorem dX11_person_8 : decode cX11_person 8 = .ok (.astore_n 3, 1) := by decide +kernel
theorem dX11_person_9 : decode cX11_person 9 = .ok (.aload_n 3, 1) := by decide +kernel
theorem dX11_person_10 : decode cX11_person 10 = .ok (.ifnonnull 6, 3) := by decide +kernel
theorem dX11_person_13 : decode cX11_person 13 = .ok (.ldc 66, 2) := by decide +kernel
theorem dX11_person_15 : decode cX11_person 15 = .ok (.ireturn, 1) := by decide +kernel
theorem dX11_person_16 : decode cX11_person 16 = .ok (.iload_n 2, 1) := by decide +kernel
theorem dX11_person_17 : decode cX11_person 17 = .ok (.tableswitch 74 0 4 #[35, 45, 55, 60, 65], 35) := by decide +kernel
theorem dX11_person_52 : decode cX11_person 52 = .ok (.aload_n 0, 1) := by decide +kernel
theorem dX11_person_53 : decode cX11_person 53 = .ok (.getfield 25, 3) := by decide +kernel
theorem dX11_person_56 : decode cX11_person 56 = .ok (.getfield 188, 3) := by decide +kernel
theorem dX11_person_59 : decode cX11_person 59 = .ok (.iload_n 1, 1) := by decide +kernel
theorem dX11_person_60 : decode cX11_person 60 = .ok (.iaload, 1) := by decide +kernel
theorem dX11_person_61 : decode cX11_person 61 = .ok (.ireturn, 1) := by decide +kernel
theorem dX11_person_62 : decode cX11_person 62 = .ok (.aload_n 0, 1) := by decide +kernel
theorem dX11_person_63 : decode cX11_person 63 = .ok (.getfield 25, 3) := by decide +kernel
theorem dX11_person_66 : decode cX11_person 66 = .ok (.getfield 141, 3) := by decide +kernel
theorem dX11_person_69 : decode cX11_person 69 = .ok (.iload_n 1, 1) := by decide +kernel
theorem dX11_person_70 : decode cX11_person 70 = .ok (.iaload, 1) := by decide +kernel
theorem dX11_person_71 : decode cX11_person 71 = .ok (.ireturn, 1) := by decide +kernel
theorem dX11_person_72 : decode cX11_person 72 = .ok (.aload_n 3, 1) := by decide +kernel
theorem dX11_person_73 : decode cX11_person 73 = .ok (.getfield 191, 3) := by decide +kernel
theorem dX11_person_76 : decode cX11_person 76 = .ok (.ireturn, 1) := by decide +kernel
theorem dX11_person_77 : decode cX11_person 77 = .ok (.aload_n 3, 1) := by decide +kernel
theorem dX11_person_78 : decode cX11_person 78 = .ok (.getfield 196, 3) := by decide +kernel
theorem dX11_person_81 : decode cX11_person 81 = .ok (.ireturn, 1) := by decide +kernel
theorem dX11_person_82 : decode cX11_person 82 = .ok (.aload_n 0, 1) := by decide +kernel
theorem dX11_person_83 : decode cX11_person 83 = .ok (.getfield 25, 3) := by decide +kernel
theorem dX11_person_86 : decode cX11_person 86 = .ok (.iload_n 1, 1) := by decide +kernel
theorem dX11_person_87 : decode cX11_person 87 = .ok (.invokevirtual 199, 3) := by decide +kernel
theorem dX11_person_90 : decode cX11_person 90 = .ok (.ireturn, 1) := by decide +kernel
theorem dX11_person_91 : decode cX11_person 91 = .ok (.ldc 66, 2) := by decide +kernel
theorem dX11_person_93 : decode cX11_person 93 = .ok (.ireturn, 1) := by decide +kernel
theorem dX11_lean_0 : decode cX11_lean 0 = .ok (.aload_n 0, 1) := by decide +kernel
theorem dX11_lean_1 : decode cX11_lean 1 = .ok (.getfield 25, 3) := by decide +kernel
theorem dX11_lean_4 : decode cX11_lean 4 = .ok (.invokevirtual 153, 3) := by decide +kernel
theorem dX11_lean_7 : decode cX11_lean 7 = .ok (.ifCond .ne 6, 3) := by decide +kernel
theorem dX11_lean_10 : decode cX11_lean 10 = .ok (.ldc 156, 2) := by decide +kernel
theorem dX11_lean_12 : decode cX11_lean 12 = .ok (.ireturn, 1) := by decide +kernel
theorem dX11_lean_13 : decode cX11_lean 13 = .ok (.iload_n 1, 1) := by decide +kernel
theorem dX11_lean_14 : decode cX11_lean 14 = .ok (.tableswitch 88 0 4 #[34, 45, 56, 72, 80], 34) := by decide +kernel
theorem dX11_lean_48 : decode cX11_lean 48 = .ok (.aload_n 0, 1) := by decide +kernel
theorem dX11_lean_49 : decode cX11_lean 49 = .ok (.getfield 25, 3) := by decide +kernel
theorem dX11_lean_52 : decode cX11_lean 52 = .ok (.bipush 127, 2) := by decide +kernel
theorem dX11_lean_54 : decode cX11_lean 54 = .ok (.iconst 0, 1) := by decide +kernel
theorem dX11_lean_55 : decode cX11_lean 55 = .ok (.invokevirtual 202, 3) := by decide +kernel
theorem dX11_lean_58 : decode cX11_lean 58 = .ok (.ireturn, 1) := by decide +kernel
theorem dX11_lean_59 : decode cX11_lean 59 = .ok (.aload_n 0, 1) := by decide +kernel
theorem dX11_lean_60 : decode cX11_lean 60 = .ok (.getfield 25, 3) := by decide +kernel
theorem dX11_lean_63 : decode cX11_lean 63 = .ok (.bipush 127, 2) := by decide +kernel
theorem dX11_lean_65 : decode cX11_lean 65 = .ok (.iconst 1, 1) := by decide +kernel
theorem dX11_lean_66 : decode cX11_lean 66 = .ok (.invokevirtual 202, 3) := by decide +kernel
theorem dX11_lean_69 : decode cX11_lean 69 = .ok (.ireturn, 1) := by decide +kernel
theorem dX11_lean_70 : decode cX11_lean 70 = .ok (.aload_n 0, 1) := by decide +kernel
theorem dX11_lean_71 : decode cX11_lean 71 = .ok (.getfield 25, 3) := by decide +kernel
theorem dX11_lean_74 : decode cX11_lean 74 = .ok (.invokevirtual 164, 3) := by decide +kernel
theorem dX11_lean_77 : decode cX11_lean 77 = .ok (.ifCond .eq 7, 3) := by decide +kernel
theorem dX11_lean_80 : decode cX11_lean 80 = .ok (.iconst 1, 1) := by decide +kernel
theorem dX11_lean_81 : decode cX11_lean 81 = .ok (.goto 4, 3) := by decide +kernel
theorem dX11_lean_84 : decode cX11_lean 84 = .ok (.iconst 0, 1) := by decide +kernel
theorem dX11_lean_85 : decode cX11_lean 85 = .ok (.ireturn, 1) := by decide +kernel
theorem dX11_lean_86 : decode cX11_lean 86 = .ok (.aload_n 0, 1) := by decide +kernel
theorem dX11_lean_87 : decode cX11_lean 87 = .ok (.getfield 25, 3) := by decide +kernel
theorem dX11_lean_90 : decode cX11_lean 90 = .ok (.getfield 167, 3) := by decide +kernel
theorem dX11_lean_93 : decode cX11_lean 93 = .ok (.ireturn, 1) := by decide +kernel
theorem dX11_lean_94 : decode cX11_lean 94 = .ok (.aload_n 0, 1) := by decide +kernel
theorem dX11_lean_95 : decode cX11_lean 95 = .ok (.getfield 25, 3) := by decide +kernel
theorem dX11_lean_98 : decode cX11_lean 98 = .ok (.getfield 175, 3) := by decide +kernel
theorem dX11_lean_101 : decode cX11_lean 101 = .ok (.ireturn, 1) := by decide +kernel
theorem dX11_lean_102 : decode cX11_lean 102 = .ok (.ldc 66, 2) := by decide +kernel
theorem dX11_lean_104 : decode cX11_lean 104 = .ok (.ireturn, 1) := by decide +kernel
theorem dX11_worst_0 : decode cX11_worst 0 = .ok (.aload_n 0, 1) := by decide +kernel
theorem dX11_worst_1 : decode cX11_worst 1 = .ok (.getfield 25, 3) := by decide +kernel
theorem dX11_worst_4 : decode cX11_worst 4 = .ok (.invokevirtual 153, 3) := by decide +kernel
theorem dX11_worst_7 : decode cX11_worst 7 = .ok (.ifCond .ne 6, 3) := by decide +kernel
theorem dX11_worst_10 : decode cX11_worst 10 = .ok (.ldc 156, 2) := by decide +kernel
theorem dX11_worst_12 : decode cX11_worst 12 = .ok (.ireturn, 1) := by decide +kernel
theorem dX11_worst_13 : decode cX11_worst 13 = .ok (.iload_n 1, 1) := by decide +kernel
theorem dX11_worst_14 : decode cX11_worst 14 = .ok (.ifCond .lt 8, 3) := by decide +kernel
theorem dX11_worst_17 : decode cX11_worst 17 = .ok (.iload_n 1, 1) := by decide +kernel
theorem dX11_worst_18 : decode cX11_worst 18 = .ok (.iconst 1, 1) := by decide +kernel
theorem dX11_worst_19 : decode cX11_worst 19 = .ok (.if_icmp .le 6, 3) := by decide +kernel
theorem dX11_worst_22 : decode cX11_worst 22 = .ok (.ldc 66, 2) := by decide +kernel
theorem dX11_worst_24 : decode cX11_worst 24 = .ok (.ireturn, 1) := by decide +kernel
theorem dX11_worst_25 : decode cX11_worst 25 = .ok (.aload_n 0, 1) := by decide +kernel
theorem dX11_worst_26 : decode cX11_worst 26 = .ok (.getfield 29, 3) := by decide +kernel
theorem dX11_worst_29 : decode cX11_worst 29 = .ok (.aload_n 0, 1) := by decide +kernel
theorem dX11_worst_30 : decode cX11_worst 30 = .ok (.getfield 25, 3) := by decide +kernel
theorem dX11_worst_33 : decode cX11_worst 33 = .ok (.invokevirtual 124, 3) := by decide +kernel
theorem dX11_worst_36 : decode cX11_worst 36 = .ok (.iload_n 1, 1) := by decide +kernel
theorem dX11_worst_37 : decode cX11_worst 37 = .ok (.ifCond .ne 15, 3) := by decide +kernel
theorem dX11_worst_40 : decode cX11_worst 40 = .ok (.aload_n 0, 1) := by decide +kernel
theorem dX11_worst_41 : decode cX11_worst 41 = .ok (.getfield 29, 3) := by decide +kernel
theorem dX11_worst_44 : decode cX11_worst 44 = .ok (.bipush 64, 2) := by decide +kernel
theorem dX11_worst_46 : decode cX11_worst 46 = .ok (.invokevirtual 206, 3) := by decide +kernel
theorem dX11_worst_49 : decode cX11_worst 49 = .ok (.goto 12, 3) := by decide +kernel
theorem dX11_worst_52 : decode cX11_worst 52 = .ok (.aload_n 0, 1) := by decide +kernel
theorem dX11_worst_53 : decode cX11_worst 53 = .ok (.getfield 29, 3) := by decide +kernel
theorem dX11_worst_56 : decode cX11_worst 56 = .ok (.bipush 64, 2) := by decide +kernel
theorem dX11_worst_58 : decode cX11_worst 58 = .ok (.invokevirtual 209, 3) := by decide +kernel
theorem dX11_worst_61 : decode cX11_worst 61 = .ok (.ireturn, 1) := by decide +kernel
theorem dX11_most_0 : decode cX11_most 0 = .ok (.aload_n 0, 1) := by decide +kernel
theorem dX11_most_1 : decode cX11_most 1 = .ok (.getfield 25, 3) := by decide +kernel
theorem dX11_most_4 : decode cX11_most 4 = .ok (.invokevirtual 153, 3) := by decide +kernel
theorem dX11_most_7 : decode cX11_most 7 = .ok (.ifCond .ne 6, 3) := by decide +kernel
theorem dX11_most_10 : decode cX11_most 10 = .ok (.ldc 156, 2) := by decide +kernel
theorem dX11_most_12 : decode cX11_most 12 = .ok (.ireturn, 1) := by decide +kernel
theorem dX11_most_13 : decode cX11_most 13 = .ok (.aload_n 0, 1) := by decide +kernel
theorem dX11_most_14 : decode cX11_most 14 = .ok (.getfield 25, 3) := by decide +kernel
theorem dX11_most_17 : decode cX11_most 17 = .ok (.invokevirtual 212, 3) := by decide +kernel
theorem dX11_most_20 : decode cX11_most 20 = .ok (.istore_n 1, 1) := by decide +kernel
theorem dX11_most_21 : decode cX11_most 21 = .ok (.ldc 160, 2) := by decide +kernel
theorem dX11_most_23 : decode cX11_most 23 = .ok (.istore_n 2, 1) := by decide +kernel
theorem dX11_most_24 : decode cX11_most 24 = .ok (.iconst (-1), 1) := by decide +kernel
theorem dX11_most_25 : decode cX11_most 25 = .ok (.istore_n 3, 1) := by decide +kernel
theorem dX11_most_26 : decode cX11_most 26 = .ok (.iconst 0, 1) := by decide +kernel
theorem dX11_most_27 : decode cX11_most 27 = .ok (.istore 4, 2) := by decide +kernel
theorem dX11_most_29 : decode cX11_most 29 = .ok (.iload 4, 2) := by decide +kernel
theorem dX11_most_31 : decode cX11_most 31 = .ok (.iload_n 1, 1) := by decide +kernel
theorem dX11_most_32 : decode cX11_most 32 = .ok (.if_icmp .gt 57, 3) := by decide +kernel
theorem dX11_most_35 : decode cX11_most 35 = .ok (.iload 4, 2) := by decide +kernel
theorem dX11_most_37 : decode cX11_most 37 = .ok (.iload_n 1, 1) := by decide +kernel
theorem dX11_most_38 : decode cX11_most 38 = .ok (.iconst (-1), 1) := by decide +kernel
theorem dX11_most_39 : decode cX11_most 39 = .ok (.ixor, 1) := by decide +kernel
theorem dX11_most_40 : decode cX11_most 40 = .ok (.iand, 1) := by decide +kernel
theorem dX11_most_41 : decode cX11_most 41 = .ok (.ifCond .ne 16, 3) := by decide +kernel
theorem dX11_most_44 : decode cX11_most 44 = .ok (.iload 4, 2) := by decide +kernel
theorem dX11_most_46 : decode cX11_most 46 = .ok (.invokestatic 216, 3) := by decide +kernel
theorem dX11_most_49 : decode cX11_most 49 = .ok (.iload_n 3, 1) := by decide +kernel
theorem dX11_most_50 : decode cX11_most 50 = .ok (.if_icmp .le 7, 3) := by decide +kernel
theorem dX11_most_53 : decode cX11_most 53 = .ok (.iconst 1, 1) := by decide +kernel
theorem dX11_most_54 : decode cX11_most 54 = .ok (.goto 4, 3) := by decide +kernel
theorem dX11_most_57 : decode cX11_most 57 = .ok (.iconst 0, 1) := by decide +kernel
theorem dX11_most_58 : decode cX11_most 58 = .ok (.istore 5, 2) := by decide +kernel
theorem dX11_most_60 : decode cX11_most 60 = .ok (.iload 5, 2) := by decide +kernel
theorem dX11_most_62 : decode cX11_most 62 = .ok (.ifCond .eq 21, 3) := by decide +kernel
theorem dX11_most_65 : decode cX11_most 65 = .ok (.aload_n 0, 1) := by decide +kernel
theorem dX11_most_66 : decode cX11_most 66 = .ok (.iload 4, 2) := by decide +kernel
theorem dX11_most_68 : decode cX11_most 68 = .ok (.invokevirtual 221, 3) := by decide +kernel
theorem dX11_most_71 : decode cX11_most 71 = .ok (.ifCond .eq 12, 3) := by decide +kernel
theorem dX11_most_74 : decode cX11_most 74 = .ok (.iload 4, 2) := by decide +kernel
theorem dX11_most_76 : decode cX11_most 76 = .ok (.istore_n 2, 1) := by decide +kernel
theorem dX11_most_77 : decode cX11_most 77 = .ok (.iload 4, 2) := by decide +kernel
theorem dX11_most_79 : decode cX11_most 79 = .ok (.invokestatic 216, 3) := by decide +kernel
theorem dX11_most_82 : decode cX11_most 82 = .ok (.istore_n 3, 1) := by decide +kernel
theorem dX11_most_83 : decode cX11_most 83 = .ok (.iinc 4 1, 3) := by decide +kernel
theorem dX11_most_86 : decode cX11_most 86 = .ok (.goto (-57), 3) := by decide +kernel
theorem dX11_most_89 : decode cX11_most 89 = .ok (.iload_n 2, 1) := by decide +kernel
theorem dX11_most_90 : decode cX11_most 90 = .ok (.ireturn, 1) := by decide +kernel
theorem dX11_two_0 : decode cX11_two 0 = .ok (.aload_n 0, 1) := by decide +kernel
theorem dX11_two_1 : decode cX11_two 1 = .ok (.getfield 25, 3) := by decide +kernel
theorem dX11_two_4 : decode cX11_two 4 = .ok (.iload_n 1, 1) := by decide +kernel
theorem dX11_two_5 : decode cX11_two 5 = .ok (.invokevirtual 224, 3) := by decide +kernel
theorem dX11_two_8 : decode cX11_two 8 = .ok (.ifCond .eq 28, 3) := by decide +kernel
theorem dX11_two_11 : decode cX11_two 11 = .ok (.aload_n 0, 1) := by decide +kernel
theorem dX11_two_12 : decode cX11_two 12 = .ok (.getfield 25, 3) := by decide +kernel
theorem dX11_two_15 : decode cX11_two 15 = .ok (.iload_n 2, 1) := by decide +kernel
theorem dX11_two_16 : decode cX11_two 16 = .ok (.invokevirtual 224, 3) := by decide +kernel
theorem dX11_two_19 : decode cX11_two 19 = .ok (.ifCond .eq 17, 3) := by decide +kernel
theorem dX11_two_22 : decode cX11_two 22 = .ok (.iload_n 1, 1) := by decide +kernel
theorem dX11_two_23 : decode cX11_two 23 = .ok (.iload_n 2, 1) := by decide +kernel
theorem dX11_two_24 : decode cX11_two 24 = .ok (.if_icmp .eq 12, 3) := by decide +kernel
theorem dX11_two_27 : decode cX11_two 27 = .ok (.iload_n 3, 1) := by decide +kernel
theorem dX11_two_28 : decode cX11_two 28 = .ok (.ifCond .lt 8, 3) := by decide +kernel
theorem dX11_two_31 : decode cX11_two 31 = .ok (.iload_n 3, 1) := by decide +kernel
theorem dX11_two_32 : decode cX11_two 32 = .ok (.iconst 1, 1) := by decide +kernel
theorem dX11_two_33 : decode cX11_two 33 = .ok (.if_icmp .le 6, 3) := by decide +kernel
theorem dX11_two_36 : decode cX11_two 36 = .ok (.ldc 66, 2) := by decide +kernel
theorem dX11_two_38 : decode cX11_two 38 = .ok (.ireturn, 1) := by decide +kernel
theorem dX11_two_39 : decode cX11_two 39 = .ok (.iconst 0, 1) := by decide +kernel
theorem dX11_two_40 : decode cX11_two 40 = .ok (.istore 4, 2) := by decide +kernel
theorem dX11_two_42 : decode cX11_two 42 = .ok (.aload_n 0, 1) := by decide +kernel
theorem dX11_two_43 : decode cX11_two 43 = .ok (.iload_n 1, 1) := by decide +kernel
theorem dX11_two_44 : decode cX11_two 44 = .ok (.iload_n 2, 1) := by decide +kernel
theorem dX11_two_45 : decode cX11_two 45 = .ok (.iconst 0, 1) := by decide +kernel
theorem dX11_two_46 : decode cX11_two 46 = .ok (.invokevirtual 227, 3) := by decide +kernel
theorem dX11_two_49 : decode cX11_two 49 = .ok (.istore 5, 2) := by decide +kernel
theorem dX11_two_51 : decode cX11_two 51 = .ok (.iconst 1, 1) := by decide +kernel
theorem dX11_two_52 : decode cX11_two 52 = .ok (.istore 6, 2) := by decide +kernel
theorem dX11_two_54 : decode cX11_two 54 = .ok (.iload 6, 2) := by decide +kernel
theorem dX11_two_56 : decode cX11_two 56 = .ok (.bipush 9, 2) := by decide +kernel
theorem dX11_two_58 : decode cX11_two 58 = .ok (.if_icmp .gt 34, 3) := by decide +kernel
theorem dX11_two_61 : decode cX11_two 61 = .ok (.aload_n 0, 1) := by decide +kernel
theorem dX11_two_62 : decode cX11_two 62 = .ok (.iload_n 1, 1) := by decide +kernel
theorem dX11_two_63 : decode cX11_two 63 = .ok (.iload_n 2, 1) := by decide +kernel
theorem dX11_two_64 : decode cX11_two 64 = .ok (.iload 6, 2) := by decide +kernel
theorem dX11_two_66 : decode cX11_two 66 = .ok (.invokevirtual 227, 3) := by decide +kernel
theorem dX11_two_69 : decode cX11_two 69 = .ok (.istore 7, 2) := by decide +kernel
theorem dX11_two_71 : decode cX11_two 71 = .ok (.iload 7, 2) := by decide +kernel
theorem dX11_two_73 : decode cX11_two 73 = .ok (.iload 5, 2) := by decide +kernel
theorem dX11_two_75 : decode cX11_two 75 = .ok (.if_icmp .ge 11, 3) := by decide +kernel
theorem dX11_two_78 : decode cX11_two 78 = .ok (.iload 7, 2) := by decide +kernel
theorem dX11_two_80 : decode cX11_two 80 = .ok (.istore 5, 2) := by decide +kernel
theorem dX11_two_82 : decode cX11_two 82 = .ok (.iload 6, 2) := by decide +kernel
theorem dX11_two_84 : decode cX11_two 84 = .ok (.istore 4, 2) := by decide +kernel
theorem dX11_two_86 : decode cX11_two 86 = .ok (.iinc 6 1, 3) := by decide +kernel
theorem dX11_two_89 : decode cX11_two 89 = .ok (.goto (-35), 3) := by decide +kernel
theorem dX11_two_92 : decode cX11_two 92 = .ok (.iload_n 3, 1) := by decide +kernel
theorem dX11_two_93 : decode cX11_two 93 = .ok (.ifCond .ne 8, 3) := by decide +kernel
theorem dX11_two_96 : decode cX11_two 96 = .ok (.iload 4, 2) := by decide +kernel
theorem dX11_two_98 : decode cX11_two 98 = .ok (.goto 5, 3) := by decide +kernel
theorem dX11_two_101 : decode cX11_two 101 = .ok (.iload 5, 2) := by decide +kernel
theorem dX11_two_103 : decode cX11_two 103 = .ok (.ireturn, 1) := by decide +kernel
theorem dX11_stones_0 : decode cX11_stones 0 = .ok (.aload_n 0, 1) := by decide +kernel
theorem dX11_stones_1 : decode cX11_stones 1 = .ok (.getfield 25, 3) := by decide +kernel
theorem dX11_stones_4 : decode cX11_stones 4 = .ok (.invokevirtual 153, 3) := by decide +kernel
theorem dX11_stones_7 : decode cX11_stones 7 = .ok (.ifCond .ne 6, 3) := by decide +kernel
theorem dX11_stones_10 : decode cX11_stones 10 = .ok (.ldc 156, 2) := by decide +kernel
theorem dX11_stones_12 : decode cX11_stones 12 = .ok (.ireturn, 1) := by decide +kernel
theorem dX11_stones_13 : decode cX11_stones 13 = .ok (.iload_n 1, 1) := by decide +kernel
theorem dX11_stones_14 : decode cX11_stones 14 = .ok (.iconst (-1), 1) := by decide +kernel
theorem dX11_stones_15 : decode cX11_stones 15 = .ok (.if_icmp .eq 17, 3) := by decide +kernel
theorem dX11_stones_18 : decode cX11_stones 18 = .ok (.aload_n 0, 1) := by decide +kernel
theorem dX11_stones_19 : decode cX11_stones 19 = .ok (.getfield 25, 3) := by decide +kernel
theorem dX11_stones_22 : decode cX11_stones 22 = .ok (.iload_n 1, 1) := by decide +kernel
theorem dX11_stones_23 : decode cX11_stones 23 = .ok (.invokevirtual 147, 3) := by decide +kernel
theorem dX11_stones_26 : decode cX11_stones 26 = .ok (.ifCond .ne 6, 3) := by decide +kernel
theorem dX11_stones_29 : decode cX11_stones 29 = .ok (.ldc 66, 2) := by decide +kernel
theorem dX11_stones_31 : decode cX11_stones 31 = .ok (.ireturn, 1) := by decide +kernel
theorem dX11_stones_32 : decode cX11_stones 32 = .ok (.aload_n 0, 1) := by decide +kernel
theorem dX11_stones_33 : decode cX11_stones 33 = .ok (.invokevirtual 231, 3) := by decide +kernel
theorem dX11_stones_36 : decode cX11_stones 36 = .ok (.iconst 1, 1) := by decide +kernel
theorem dX11_stones_37 : decode cX11_stones 37 = .ok (.iconst 2, 1) := by decide +kernel
theorem dX11_stones_38 : decode cX11_stones 38 = .ok (.aload_n 0, 1) := by decide +kernel
theorem dX11_stones_39 : decode cX11_stones 39 = .ok (.getfield 25, 3) := by decide +kernel
theorem dX11_stones_42 : decode cX11_stones 42 = .ok (.getfield 234, 3) := by decide +kernel
theorem dX11_stones_45 : decode cX11_stones 45 = .ok (.imul, 1) := by decide +kernel
theorem dX11_stones_46 : decode cX11_stones 46 = .ok (.ishl, 1) := by decide +kernel
theorem dX11_stones_47 : decode cX11_stones 47 = .ok (.istore_n 2, 1) := by decide +kernel
theorem dX11_stones_48 : decode cX11_stones 48 = .ok (.iconst 0, 1) := by decide +kernel
theorem dX11_stones_49 : decode cX11_stones 49 = .ok (.istore_n 3, 1) := by decide +kernel
theorem dX11_stones_50 : decode cX11_stones 50 = .ok (.aload_n 0, 1) := by decide +kernel
theorem dX11_stones_51 : decode cX11_stones 51 = .ok (.iconst 0, 1) := by decide +kernel
theorem dX11_stones_52 : decode cX11_stones 52 = .ok (.invokevirtual 237, 3) := by decide +kernel
theorem dX11_stones_55 : decode cX11_stones 55 = .ok (.istore 4, 2) := by decide +kernel
theorem dX11_stones_57 : decode cX11_stones 57 = .ok (.iconst 1, 1) := by decide +kernel
theorem dX11_stones_58 : decode cX11_stones 58 = .ok (.istore 5, 2) := by decide +kernel
theorem dX11_stones_60 : decode cX11_stones 60 = .ok (.iload 5, 2) := by decide +kernel
theorem dX11_stones_62 : decode cX11_stones 62 = .ok (.iload_n 2, 1) := by decide +kernel
theorem dX11_stones_63 : decode cX11_stones 63 = .ok (.if_icmp .ge 31, 3) := by decide +kernel
theorem dX11_stones_66 : decode cX11_stones 66 = .ok (.aload_n 0, 1) := by decide +kernel
theorem dX11_stones_67 : decode cX11_stones 67 = .ok (.iload 5, 2) := by decide +kernel
theorem dX11_stones_69 : decode cX11_stones 69 = .ok (.invokevirtual 237, 3) := by decide +kernel
theorem dX11_stones_72 : decode cX11_stones 72 = .ok (.istore 6, 2) := by decide +kernel
theorem dX11_stones_74 : decode cX11_stones 74 = .ok (.iload 6, 2) := by decide +kernel
theorem dX11_stones_76 : decode cX11_stones 76 = .ok (.iload 4, 2) := by decide +kernel
theorem dX11_stones_78 : decode cX11_stones 78 = .ok (.if_icmp .ge 10, 3) := by decide +kernel
theorem dX11_stones_81 : decode cX11_stones 81 = .ok (.iload 6, 2) := by decide +kernel
theorem dX11_stones_83 : decode cX11_stones 83 = .ok (.istore 4, 2) := by decide +kernel
theorem dX11_stones_85 : decode cX11_stones 85 = .ok (.iload 5, 2) := by decide +kernel
theorem dX11_stones_87 : decode cX11_stones 87 = .ok (.istore_n 3, 1) := by decide +kernel
theorem dX11_stones_88 : decode cX11_stones 88 = .ok (.iinc 5 1, 3) := by decide +kernel
theorem dX11_stones_91 : decode cX11_stones 91 = .ok (.goto (-31), 3) := by decide +kernel
theorem dX11_stones_94 : decode cX11_stones 94 = .ok (.iload_n 1, 1) := by decide +kernel
theorem dX11_stones_95 : decode cX11_stones 95 = .ok (.iconst (-1), 1) := by decide +kernel
theorem dX11_stones_96 : decode cX11_stones 96 = .ok (.if_icmp .ne 8, 3) := by decide +kernel
theorem dX11_stones_99 : decode cX11_stones 99 = .ok (.iload 4, 2) := by decide +kernel
theorem dX11_stones_101 : decode cX11_stones 101 = .ok (.goto 9, 3) := by decide +kernel
theorem dX11_stones_104 : decode cX11_stones 104 = .ok (.aload_n 0, 1) := by decide +kernel
theorem dX11_stones_105 : decode cX11_stones 105 = .ok (.iload_n 3, 1) := by decide +kernel
theorem dX11_stones_106 : decode cX11_stones 106 = .ok (.iload_n 1, 1) := by decide +kernel
theorem dX11_stones_107 : decode cX11_stones 107 = .ok (.invokevirtual 240, 3) := by decide +kernel
theorem dX11_stones_110 : decode cX11_stones 110 = .ok (.ireturn, 1) := by decide +kernel
theorem dX11_marks_0 : decode cX11_marks 0 = .ok (.aload_n 0, 1) := by decide +kernel
theorem dX11_marks_1 : decode cX11_marks 1 = .ok (.getfield 25, 3) := by decide +kernel
theorem dX11_marks_4 : decode cX11_marks 4 = .ok (.invokevirtual 153, 3) := by decide +kernel
theorem dX11_marks_7 : decode cX11_marks 7 = .ok (.ifCond .ne 6, 3) := by decide +kernel
theorem dX11_marks_10 : decode cX11_marks 10 = .ok (.ldc 156, 2) := by decide +kernel
theorem dX11_marks_12 : decode cX11_marks 12 = .ok (.ireturn, 1) := by decide +kernel
theorem dX11_marks_13 : decode cX11_marks 13 = .ok (.aload_n 0, 1) := by decide +kernel
theorem dX11_marks_14 : decode cX11_marks 14 = .ok (.iload_n 1, 1) := by decide +kernel
theorem dX11_marks_15 : decode cX11_marks 15 = .ok (.invokevirtual 62, 3) := by decide +kernel
theorem dX11_marks_18 : decode cX11_marks 18 = .ok (.astore 5, 2) := by decide +kernel
theorem dX11_marks_20 : decode cX11_marks 20 = .ok (.aload 5, 2) := by decide +kernel
theorem dX11_marks_22 : decode cX11_marks 22 = .ok (.ifnull 23, 3) := by decide +kernel
theorem dX11_marks_25 : decode cX11_marks 25 = .ok (.iload_n 2, 1) := by decide +kernel
theorem dX11_marks_26 : decode cX11_marks 26 = .ok (.invokestatic 243, 3) := by decide +kernel
theorem dX11_marks_29 : decode cX11_marks 29 = .ok (.ifCond .eq 16, 3) := by decide +kernel
theorem dX11_marks_32 : decode cX11_marks 32 = .ok (.iload_n 3, 1) := by decide +kernel
theorem dX11_marks_33 : decode cX11_marks 33 = .ok (.invokestatic 243, 3) := by decide +kernel
theorem dX11_marks_36 : decode cX11_marks 36 = .ok (.ifCond .eq 9, 3) := by decide +kernel
theorem dX11_marks_39 : decode cX11_marks 39 = .ok (.iload 4, 2) := by decide +kernel
theorem dX11_marks_41 : decode cX11_marks 41 = .ok (.iconst (-1), 1) := by decide +kernel
theorem dX11_marks_42 : decode cX11_marks 42 = .ok (.if_icmp .ge 6, 3) := by decide +kernel
theorem dX11_marks_45 : decode cX11_marks 45 = .ok (.ldc 66, 2) := by decide +kernel
theorem dX11_marks_47 : decode cX11_marks 47 = .ok (.ireturn, 1) := by decide +kernel
theorem dX11_marks_48 : decode cX11_marks 48 = .ok (.aload 5, 2) := by decide +kernel
theorem dX11_marks_50 : decode cX11_marks 50 = .ok (.invokevirtual 78, 3) := by decide +kernel
theorem dX11_marks_53 : decode cX11_marks 53 = .ok (.ifCond .eq 9, 3) := by decide +kernel
theorem dX11_marks_56 : decode cX11_marks 56 = .ok (.aload_n 0, 1) := by decide +kernel
theorem dX11_marks_57 : decode cX11_marks 57 = .ok (.iconst 1, 1) := by decide +kernel
theorem dX11_marks_58 : decode cX11_marks 58 = .ok (.invokevirtual 67, 3) := by decide +kernel
theorem dX11_marks_61 : decode cX11_marks 61 = .ok (.ireturn, 1) := by decide +kernel
theorem dX11_marks_62 : decode cX11_marks 62 = .ok (.aload 5, 2) := by decide +kernel
theorem dX11_marks_64 : decode cX11_marks 64 = .ok (.getfield 82, 3) := by decide +kernel
theorem dX11_marks_67 : decode cX11_marks 67 = .ok (.aload_n 0, 1) := by decide +kernel
theorem dX11_marks_68 : decode cX11_marks 68 = .ok (.getfield 25, 3) := by decide +kernel
theorem dX11_marks_71 : decode cX11_marks 71 = .ok (.getfield 131, 3) := by decide +kernel
theorem dX11_marks_74 : decode cX11_marks 74 = .ok (.if_icmp .ge 9, 3) := by decide +kernel
theorem dX11_marks_77 : decode cX11_marks 77 = .ok (.aload_n 0, 1) := by decide +kernel
theorem dX11_marks_78 : decode cX11_marks 78 = .ok (.iconst 2, 1) := by decide +kernel
theorem dX11_marks_79 : decode cX11_marks 79 = .ok (.invokevirtual 67, 3) := by decide +kernel
theorem dX11_marks_82 : decode cX11_marks 82 = .ok (.ireturn, 1) := by decide +kernel
theorem dX11_marks_83 : decode cX11_marks 83 = .ok (.aload 5, 2) := by decide +kernel
theorem dX11_marks_85 : decode cX11_marks 85 = .ok (.aload_n 0, 1) := by decide +kernel
theorem dX11_marks_86 : decode cX11_marks 86 = .ok (.getfield 25, 3) := by decide +kernel
theorem dX11_marks_89 : decode cX11_marks 89 = .ok (.getfield 131, 3) := by decide +kernel
theorem dX11_marks_92 : decode cX11_marks 92 = .ok (.iconst (-1), 1) := by decide +kernel
theorem dX11_marks_93 : decode cX11_marks 93 = .ok (.aload_n 0, 1) := by decide +kernel
theorem dX11_marks_94 : decode cX11_marks 94 = .ok (.getfield 25, 3) := by decide +kernel
theorem dX11_marks_97 : decode cX11_marks 97 = .ok (.getfield 246, 3) := by decide +kernel
theorem dX11_marks_100 : decode cX11_marks 100 = .ok (.iconst 1, 1) := by decide +kernel
theorem dX11_marks_101 : decode cX11_marks 101 = .ok (.isub, 1) := by decide +kernel
theorem dX11_marks_102 : decode cX11_marks 102 = .ok (.invokevirtual 249, 3) := by decide +kernel
theorem dX11_marks_105 : decode cX11_marks 105 = .ok (.ifCond .ne 6, 3) := by decide +kernel
theorem dX11_marks_108 : decode cX11_marks 108 = .ok (.ldc 66, 2) := by decide +kernel
theorem dX11_marks_110 : decode cX11_marks 110 = .ok (.ireturn, 1) := by decide +kernel
theorem dX11_marks_111 : decode cX11_marks 111 = .ok (.aload_n 0, 1) := by decide +kernel
theorem dX11_marks_112 : decode cX11_marks 112 = .ok (.getfield 29, 3) := by decide +kernel
theorem dX11_marks_115 : decode cX11_marks 115 = .ok (.aload_n 0, 1) := by decide +kernel
theorem dX11_marks_116 : decode cX11_marks 116 = .ok (.getfield 25, 3) := by decide +kernel
theorem dX11_marks_119 : decode cX11_marks 119 = .ok (.invokevirtual 124, 3) := by decide +kernel
theorem dX11_marks_122 : decode cX11_marks 122 = .ok (.aload 5, 2) := by decide +kernel
theorem dX11_marks_124 : decode cX11_marks 124 = .ok (.getfield 86, 3) := by decide +kernel
theorem dX11_marks_127 : decode cX11_marks 127 = .ok (.iconst 0, 1) := by decide +kernel
theorem dX11_marks_128 : decode cX11_marks 128 = .ok (.aload_n 0, 1) := by decide +kernel
theorem dX11_marks_129 : decode cX11_marks 129 = .ok (.getfield 29, 3) := by decide +kernel
theorem dX11_marks_132 : decode cX11_marks 132 = .ok (.getfield 188, 3) := by decide +kernel
theorem dX11_marks_135 : decode cX11_marks 135 = .ok (.iconst 0, 1) := by decide +kernel
theorem dX11_marks_136 : decode cX11_marks 136 = .ok (.aload_n 0, 1) := by decide +kernel
theorem dX11_marks_137 : decode cX11_marks 137 = .ok (.getfield 25, 3) := by decide +kernel
theorem dX11_marks_140 : decode cX11_marks 140 = .ok (.getfield 131, 3) := by decide +kernel
theorem dX11_marks_143 : decode cX11_marks 143 = .ok (.invokestatic 99, 3) := by decide +kernel
theorem dX11_marks_146 : decode cX11_marks 146 = .ok (.aload_n 0, 1) := by decide +kernel
theorem dX11_marks_147 : decode cX11_marks 147 = .ok (.aload_n 0, 1) := by decide +kernel
theorem dX11_marks_148 : decode cX11_marks 148 = .ok (.iload_n 2, 1) := by decide +kernel
theorem dX11_marks_149 : decode cX11_marks 149 = .ok (.iload_n 3, 1) := by decide +kernel
theorem dX11_marks_150 : decode cX11_marks 150 = .ok (.iload 4, 2) := by decide +kernel
theorem dX11_marks_152 : decode cX11_marks 152 = .ok (.invokevirtual 253, 3) := by decide +kernel
theorem dX11_marks_155 : decode cX11_marks 155 = .ok (.invokevirtual 75, 3) := by decide +kernel
theorem dX11_marks_158 : decode cX11_marks 158 = .ok (.ireturn, 1) := by decide +kernel
theorem dX11_rescue_0 : decode cX11_rescue 0 = .ok (.aload_n 0, 1) := by decide +kernel
theorem dX11_rescue_1 : decode cX11_rescue 1 = .ok (.getfield 25, 3) := by decide +kernel
theorem dX11_rescue_4 : decode cX11_rescue 4 = .ok (.invokevirtual 153, 3) := by decide +kernel
theorem dX11_rescue_7 : decode cX11_rescue 7 = .ok (.ifCond .ne 6, 3) := by decide +kernel
theorem dX11_rescue_10 : decode cX11_rescue 10 = .ok (.ldc 156, 2) := by decide +kernel
theorem dX11_rescue_12 : decode cX11_rescue 12 = .ok (.ireturn, 1) := by decide +kernel
theorem dX11_rescue_13 : decode cX11_rescue 13 = .ok (.iload_n 1, 1) := by decide +kernel
theorem dX11_rescue_14 : decode cX11_rescue 14 = .ok (.ifCond .ge 6, 3) := by decide +kernel
theorem dX11_rescue_17 : decode cX11_rescue 17 = .ok (.ldc 66, 2) := by decide +kernel
theorem dX11_rescue_19 : decode cX11_rescue 19 = .ok (.ireturn, 1) := by decide +kernel
theorem dX11_rescue_20 : decode cX11_rescue 20 = .ok (.aload_n 0, 1) := by decide +kernel
theorem dX11_rescue_21 : decode cX11_rescue 21 = .ok (.getfield 25, 3) := by decide +kernel
theorem dX11_rescue_24 : decode cX11_rescue 24 = .ok (.invokevirtual 256, 3) := by decide +kernel
theorem dX11_rescue_27 : decode cX11_rescue 27 = .ok (.istore_n 2, 1) := by decide +kernel
theorem dX11_rescue_28 : decode cX11_rescue 28 = .ok (.aload_n 0, 1) := by decide +kernel
theorem dX11_rescue_29 : decode cX11_rescue 29 = .ok (.iload_n 2, 1) := by decide +kernel
theorem dX11_rescue_30 : decode cX11_rescue 30 = .ok (.invokevirtual 259, 3) := by decide +kernel
theorem dX11_rescue_33 : decode cX11_rescue 33 = .ok (.aload_n 0, 1) := by decide +kernel
theorem dX11_rescue_34 : decode cX11_rescue 34 = .ok (.getfield 53, 3) := by decide +kernel
theorem dX11_rescue_37 : decode cX11_rescue 37 = .ok (.iload_n 2, 1) := by decide +kernel
theorem dX11_rescue_38 : decode cX11_rescue 38 = .ok (.baload, 1) := by decide +kernel
theorem dX11_rescue_39 : decode cX11_rescue 39 = .ok (.ifCond .ne 6, 3) := by decide +kernel
theorem dX11_rescue_42 : decode cX11_rescue 42 = .ok (.ldc 160, 2) := by decide +kernel
theorem dX11_rescue_44 : decode cX11_rescue 44 = .ok (.ireturn, 1) := by decide +kernel
theorem dX11_rescue_45 : decode cX11_rescue 45 = .ok (.iconst 0, 1) := by decide +kernel
theorem dX11_rescue_46 : decode cX11_rescue 46 = .ok (.istore_n 3, 1) := by decide +kernel
theorem dX11_rescue_47 : decode cX11_rescue 47 = .ok (.iload_n 2, 1) := by decide +kernel
theorem dX11_rescue_48 : decode cX11_rescue 48 = .ok (.ifCond .eq 39, 3) := by decide +kernel
theorem dX11_rescue_51 : decode cX11_rescue 51 = .ok (.iload_n 3, 1) := by decide +kernel
theorem dX11_rescue_52 : decode cX11_rescue 52 = .ok (.bipush 7, 2) := by decide +kernel
theorem dX11_rescue_54 : decode cX11_rescue 54 = .ok (.if_icmp .ge 33, 3) := by decide +kernel
theorem dX11_rescue_57 : decode cX11_rescue 57 = .ok (.aload_n 0, 1) := by decide +kernel
theorem dX11_rescue_58 : decode cX11_rescue 58 = .ok (.iload_n 2, 1) := by decide +kernel
theorem dX11_rescue_59 : decode cX11_rescue 59 = .ok (.invokevirtual 263, 3) := by decide +kernel
theorem dX11_rescue_62 : decode cX11_rescue 62 = .ok (.istore 4, 2) := by decide +kernel
theorem dX11_rescue_64 : decode cX11_rescue 64 = .ok (.iload_n 3, 1) := by decide +kernel
theorem dX11_rescue_65 : decode cX11_rescue 65 = .ok (.iload_n 1, 1) := by decide +kernel
theorem dX11_rescue_66 : decode cX11_rescue 66 = .ok (.if_icmp .ne 6, 3) := by decide +kernel
theorem dX11_rescue_69 : decode cX11_rescue 69 = .ok (.iload 4, 2) := by decide +kernel
theorem dX11_rescue_71 : decode cX11_rescue 71 = .ok (.ireturn, 1) := by decide +kernel
theorem dX11_rescue_72 : decode cX11_rescue 72 = .ok (.iload_n 2, 1) := by decide +kernel
theorem dX11_rescue_73 : decode cX11_rescue 73 = .ok (.iconst 1, 1) := by decide +kernel
theorem dX11_rescue_74 : decode cX11_rescue 74 = .ok (.iload 4, 2) := by decide +kernel
theorem dX11_rescue_76 : decode cX11_rescue 76 = .ok (.ishl, 1) := by decide +kernel
theorem dX11_rescue_77 : decode cX11_rescue 77 = .ok (.iconst (-1), 1) := by decide +kernel
theorem dX11_rescue_78 : decode cX11_rescue 78 = .ok (.ixor, 1) := by decide +kernel
theorem dX11_rescue_79 : decode cX11_rescue 79 = .ok (.iand, 1) := by decide +kernel
theorem dX11_rescue_80 : decode cX11_rescue 80 = .ok (.istore_n 2, 1) := by decide +kernel
theorem dX11_rescue_81 : decode cX11_rescue 81 = .ok (.iinc 3 1, 3) := by decide +kernel
theorem dX11_rescue_84 : decode cX11_rescue 84 = .ok (.goto (-37), 3) := by decide +kernel
theorem dX11_rescue_87 : decode cX11_rescue 87 = .ok (.ldc 160, 2) := by decide +kernel
theorem dX11_rescue_89 : decode cX11_rescue 89 = .ok (.ireturn, 1) := by decide +kernel
theorem dX11_fall_0 : decode cX11_fall 0 = .ok (.aload_n 0, 1) := by decide +kernel
theorem dX11_fall_1 : decode cX11_fall 1 = .ok (.getfield 25, 3) := by decide +kernel
theorem dX11_fall_4 : decode cX11_fall 4 = .ok (.invokevirtual 153, 3) := by decide +kernel
theorem dX11_fall_7 : decode cX11_fall 7 = .ok (.ifCond .ne 6, 3) := by decide +kernel
theorem dX11_fall_10 : decode cX11_fall 10 = .ok (.ldc 156, 2) := by decide +kernel
theorem dX11_fall_12 : decode cX11_fall 12 = .ok (.ireturn, 1) := by decide +kernel
theorem dX11_fall_13 : decode cX11_fall 13 = .ok (.aload_n 0, 1) := by decide +kernel
theorem dX11_fall_14 : decode cX11_fall 14 = .ok (.getfield 29, 3) := by decide +kernel
theorem dX11_fall_17 : decode cX11_fall 17 = .ok (.aload_n 0, 1) := by decide +kernel
theorem dX11_fall_18 : decode cX11_fall 18 = .ok (.getfield 25, 3) := by decide +kernel
theorem dX11_fall_21 : decode cX11_fall 21 = .ok (.invokevirtual 124, 3) := by decide +kernel
theorem dX11_fall_24 : decode cX11_fall 24 = .ok (.iconst 0, 1) := by decide +kernel
theorem dX11_fall_25 : decode cX11_fall 25 = .ok (.istore_n 1, 1) := by decide +kernel
theorem dX11_fall_26 : decode cX11_fall 26 = .ok (.iload_n 1, 1) := by decide +kernel
theorem dX11_fall_27 : decode cX11_fall 27 = .ok (.bipush 99, 2) := by decide +kernel
theorem dX11_fall_29 : decode cX11_fall 29 = .ok (.if_icmp .gt 28, 3) := by decide +kernel
theorem dX11_fall_32 : decode cX11_fall 32 = .ok (.aload_n 0, 1) := by decide +kernel
theorem dX11_fall_33 : decode cX11_fall 33 = .ok (.getfield 29, 3) := by decide +kernel
theorem dX11_fall_36 : decode cX11_fall 36 = .ok (.invokevirtual 164, 3) := by decide +kernel
theorem dX11_fall_39 : decode cX11_fall 39 = .ok (.ifCond .eq 5, 3) := by decide +kernel
theorem dX11_fall_42 : decode cX11_fall 42 = .ok (.iload_n 1, 1) := by decide +kernel
theorem dX11_fall_43 : decode cX11_fall 43 = .ok (.ireturn, 1) := by decide +kernel
theorem dX11_fall_44 : decode cX11_fall 44 = .ok (.aload_n 0, 1) := by decide +kernel
theorem dX11_fall_45 : decode cX11_fall 45 = .ok (.getfield 29, 3) := by decide +kernel
theorem dX11_fall_48 : decode cX11_fall 48 = .ok (.invokevirtual 178, 3) := by decide +kernel
theorem dX11_fall_51 : decode cX11_fall 51 = .ok (.iinc 1 1, 3) := by decide +kernel
theorem dX11_fall_54 : decode cX11_fall 54 = .ok (.goto (-28), 3) := by decide +kernel
theorem dX11_fall_57 : decode cX11_fall 57 = .ok (.ldc 160, 2) := by decide +kernel
theorem dX11_fall_59 : decode cX11_fall 59 = .ok (.ireturn, 1) := by decide +kernel
theorem dX11_bells_0 : decode cX11_bells 0 = .ok (.aload_n 0, 1) := by decide +kernel
theorem dX11_bells_1 : decode cX11_bells 1 = .ok (.iload_n 1, 1) := by decide +kernel
theorem dX11_bells_2 : decode cX11_bells 2 = .ok (.invokevirtual 62, 3) := by decide +kernel
theorem dX11_bells_5 : decode cX11_bells 5 = .ok (.astore 4, 2) := by decide +kernel
theorem dX11_bells_7 : decode cX11_bells 7 = .ok (.aload 4, 2) := by decide +kernel
theorem dX11_bells_9 : decode cX11_bells 9 = .ok (.ifnull 18, 3) := by decide +kernel
theorem dX11_bells_12 : decode cX11_bells 12 = .ok (.iload_n 2, 1) := by decide +kernel
theorem dX11_bells_13 : decode cX11_bells 13 = .ok (.iconst 1, 1) := by decide +kernel
theorem dX11_bells_14 : decode cX11_bells 14 = .ok (.if_icmp .lt 13, 3) := by decide +kernel
theorem dX11_bells_17 : decode cX11_bells 17 = .ok (.iload_n 2, 1) := by decide +kernel
theorem dX11_bells_18 : decode cX11_bells 18 = .ok (.iconst 5, 1) := by decide +kernel
theorem dX11_bells_19 : decode cX11_bells 19 = .ok (.if_icmp .gt 8, 3) := by decide +kernel
theorem dX11_bells_22 : decode cX11_bells 22 = .ok (.iload_n 3, 1) := by decide +kernel
theorem dX11_bells_23 : decode cX11_bells 23 = .ok (.iconst (-1), 1) := by decide +kernel
theorem dX11_bells_24 : decode cX11_bells 24 = .ok (.if_icmp .ge 6, 3) := by decide +kernel
theorem dX11_bells_27 : decode cX11_bells 27 = .ok (.ldc 66, 2) := by decide +kernel
theorem dX11_bells_29 : decode cX11_bells 29 = .ok (.ireturn, 1) := by decide +kernel
theorem dX11_bells_30 : decode cX11_bells 30 = .ok (.aload 4, 2) := by decide +kernel
theorem dX11_bells_32 : decode cX11_bells 32 = .ok (.invokevirtual 78, 3) := by decide +kernel
theorem dX11_bells_35 : decode cX11_bells 35 = .ok (.ifCond .eq 9, 3) := by decide +kernel
theorem dX11_bells_38 : decode cX11_bells 38 = .ok (.aload_n 0, 1) := by decide +kernel
theorem dX11_bells_39 : decode cX11_bells 39 = .ok (.iconst 1, 1) := by decide +kernel
theorem dX11_bells_40 : decode cX11_bells 40 = .ok (.invokevirtual 67, 3) := by decide +kernel
theorem dX11_bells_43 : decode cX11_bells 43 = .ok (.ireturn, 1) := by decide +kernel
theorem dX11_bells_44 : decode cX11_bells 44 = .ok (.aload 4, 2) := by decide +kernel
theorem dX11_bells_46 : decode cX11_bells 46 = .ok (.getfield 82, 3) := by decide +kernel
theorem dX11_bells_49 : decode cX11_bells 49 = .ok (.iload_n 2, 1) := by decide +kernel
theorem dX11_bells_50 : decode cX11_bells 50 = .ok (.if_icmp .ge 9, 3) := by decide +kernel
theorem dX11_bells_53 : decode cX11_bells 53 = .ok (.aload_n 0, 1) := by decide +kernel
theorem dX11_bells_54 : decode cX11_bells 54 = .ok (.iconst 2, 1) := by decide +kernel
theorem dX11_bells_55 : decode cX11_bells 55 = .ok (.invokevirtual 67, 3) := by decide +kernel
theorem dX11_bells_58 : decode cX11_bells 58 = .ok (.ireturn, 1) := by decide +kernel
theorem dX11_bells_59 : decode cX11_bells 59 = .ok (.aload 4, 2) := by decide +kernel
theorem dX11_bells_61 : decode cX11_bells 61 = .ok (.iload_n 2, 1) := by decide +kernel
theorem dX11_bells_62 : decode cX11_bells 62 = .ok (.iconst 1, 1) := by decide +kernel
theorem dX11_bells_63 : decode cX11_bells 63 = .ok (.bipush 20, 2) := by decide +kernel
theorem dX11_bells_65 : decode cX11_bells 65 = .ok (.invokevirtual 249, 3) := by decide +kernel
theorem dX11_bells_68 : decode cX11_bells 68 = .ok (.ifCond .ne 6, 3) := by decide +kernel
theorem dX11_bells_71 : decode cX11_bells 71 = .ok (.ldc 66, 2) := by decide +kernel
theorem dX11_bells_73 : decode cX11_bells 73 = .ok (.ireturn, 1) := by decide +kernel
theorem dX11_bells_74 : decode cX11_bells 74 = .ok (.iload_n 3, 1) := by decide +kernel
theorem dX11_bells_75 : decode cX11_bells 75 = .ok (.iload_n 2, 1) := by decide +kernel
theorem dX11_bells_76 : decode cX11_bells 76 = .ok (.if_icmp .lt 10, 3) := by decide +kernel
theorem dX11_bells_79 : decode cX11_bells 79 = .ok (.aload_n 0, 1) := by decide +kernel
theorem dX11_bells_80 : decode cX11_bells 80 = .ok (.ldc 160, 2) := by decide +kernel
theorem dX11_bells_82 : decode cX11_bells 82 = .ok (.invokevirtual 75, 3) := by decide +kernel
theorem dX11_bells_85 : decode cX11_bells 85 = .ok (.ireturn, 1) := by decide +kernel
theorem dX11_bells_86 : decode cX11_bells 86 = .ok (.aload_n 0, 1) := by decide +kernel
theorem dX11_bells_87 : decode cX11_bells 87 = .ok (.getfield 49, 3) := by decide +kernel
theorem dX11_bells_90 : decode cX11_bells 90 = .ok (.aload 4, 2) := by decide +kernel
theorem dX11_bells_92 : decode cX11_bells 92 = .ok (.getfield 86, 3) := by decide +kernel
theorem dX11_bells_95 : decode cX11_bells 95 = .ok (.iload_n 2, 1) := by decide +kernel
theorem dX11_bells_96 : decode cX11_bells 96 = .ok (.invokevirtual 266, 3) := by decide +kernel
theorem dX11_bells_99 : decode cX11_bells 99 = .ok (.aload_n 0, 1) := by decide +kernel
theorem dX11_bells_100 : decode cX11_bells 100 = .ok (.iload_n 3, 1) := by decide +kernel
theorem dX11_bells_101 : decode cX11_bells 101 = .ok (.iconst (-1), 1) := by decide +kernel
theorem dX11_bells_102 : decode cX11_bells 102 = .ok (.if_icmp .ne 13, 3) := by decide +kernel
theorem dX11_bells_105 : decode cX11_bells 105 = .ok (.aload_n 0, 1) := by decide +kernel
theorem dX11_bells_106 : decode cX11_bells 106 = .ok (.getfield 49, 3) := by decide +kernel
theorem dX11_bells_109 : decode cX11_bells 109 = .ok (.getfield 270, 3) := by decide +kernel
theorem dX11_bells_112 : decode cX11_bells 112 = .ok (.goto 12, 3) := by decide +kernel
theorem dX11_bells_115 : decode cX11_bells 115 = .ok (.aload_n 0, 1) := by decide +kernel
theorem dX11_bells_116 : decode cX11_bells 116 = .ok (.getfield 49, 3) := by decide +kernel
theorem dX11_bells_119 : decode cX11_bells 119 = .ok (.getfield 273, 3) := by decide +kernel
theorem dX11_bells_122 : decode cX11_bells 122 = .ok (.iload_n 3, 1) := by decide +kernel
theorem dX11_bells_123 : decode cX11_bells 123 = .ok (.iaload, 1) := by decide +kernel
theorem dX11_bells_124 : decode cX11_bells 124 = .ok (.invokevirtual 75, 3) := by decide +kernel
theorem dX11_bells_127 : decode cX11_bells 127 = .ok (.ireturn, 1) := by decide +kernel
theorem dX11_image_0 : decode cX11_image 0 = .ok (.iload_n 1, 1) := by decide +kernel
theorem dX11_image_1 : decode cX11_image 1 = .ok (.ifCond .lt 8, 3) := by decide +kernel
theorem dX11_image_4 : decode cX11_image 4 = .ok (.iload_n 1, 1) := by decide +kernel
theorem dX11_image_5 : decode cX11_image 5 = .ok (.iconst 2, 1) := by decide +kernel
theorem dX11_image_6 : decode cX11_image 6 = .ok (.if_icmp .lt 6, 3) := by decide +kernel
theorem dX11_image_9 : decode cX11_image 9 = .ok (.ldc 66, 2) := by decide +kernel
theorem dX11_image_11 : decode cX11_image 11 = .ok (.ireturn, 1) := by decide +kernel
theorem dX11_image_12 : decode cX11_image 12 = .ok (.aload_n 0, 1) := by decide +kernel
theorem dX11_image_13 : decode cX11_image 13 = .ok (.getfield 25, 3) := by decide +kernel
theorem dX11_image_16 : decode cX11_image 16 = .ok (.invokevirtual 153, 3) := by decide +kernel
theorem dX11_image_19 : decode cX11_image 19 = .ok (.ifCond .ne 6, 3) := by decide +kernel
theorem dX11_image_22 : decode cX11_image 22 = .ok (.ldc 156, 2) := by decide +kernel
theorem dX11_image_24 : decode cX11_image 24 = .ok (.ireturn, 1) := by decide +kernel
theorem dX11_image_25 : decode cX11_image 25 = .ok (.aload_n 0, 1) := by decide +kernel
theorem dX11_image_26 : decode cX11_image 26 = .ok (.getfield 36, 3) := by decide +kernel
theorem dX11_image_29 : decode cX11_image 29 = .ok (.iload_n 1, 1) := by decide +kernel
theorem dX11_image_30 : decode cX11_image 30 = .ok (.aaload, 1) := by decide +kernel
theorem dX11_image_31 : decode cX11_image 31 = .ok (.aload_n 0, 1) := by decide +kernel
theorem dX11_image_32 : decode cX11_image 32 = .ok (.getfield 25, 3) := by decide +kernel
theorem dX11_image_35 : decode cX11_image 35 = .ok (.invokevirtual 124, 3) := by decide +kernel
theorem dX11_image_38 : decode cX11_image 38 = .ok (.iconst 1, 1) := by decide +kernel
theorem dX11_image_39 : decode cX11_image 39 = .ok (.ireturn, 1) := by decide +kernel
theorem dX11_restore_0 : decode cX11_restore 0 = .ok (.iload_n 1, 1) := by decide +kernel
theorem dX11_restore_1 : decode cX11_restore 1 = .ok (.ifCond .lt 8, 3) := by decide +kernel
theorem dX11_restore_4 : decode cX11_restore 4 = .ok (.iload_n 1, 1) := by decide +kernel
theorem dX11_restore_5 : decode cX11_restore 5 = .ok (.iconst 2, 1) := by decide +kernel
theorem dX11_restore_6 : decode cX11_restore 6 = .ok (.if_icmp .lt 6, 3) := by decide +kernel
theorem dX11_restore_9 : decode cX11_restore 9 = .ok (.ldc 66, 2) := by decide +kernel
theorem dX11_restore_11 : decode cX11_restore 11 = .ok (.ireturn, 1) := by decide +kernel
theorem dX11_restore_12 : decode cX11_restore 12 = .ok (.aload_n 0, 1) := by decide +kernel
theorem dX11_restore_13 : decode cX11_restore 13 = .ok (.getfield 36, 3) := by decide +kernel
theorem dX11_restore_16 : decode cX11_restore 16 = .ok (.iload_n 1, 1) := by decide +kernel
theorem dX11_restore_17 : decode cX11_restore 17 = .ok (.aaload, 1) := by decide +kernel
theorem dX11_restore_18 : decode cX11_restore 18 = .ok (.invokevirtual 153, 3) := by decide +kernel
theorem dX11_restore_21 : decode cX11_restore 21 = .ok (.ifCond .ne 6, 3) := by decide +kernel
theorem dX11_restore_24 : decode cX11_restore 24 = .ok (.ldc 156, 2) := by decide +kernel
theorem dX11_restore_26 : decode cX11_restore 26 = .ok (.ireturn, 1) := by decide +kernel
theorem dX11_restore_27 : decode cX11_restore 27 = .ok (.aload_n 0, 1) := by decide +kernel
theorem dX11_restore_28 : decode cX11_restore 28 = .ok (.getfield 25, 3) := by decide +kernel
theorem dX11_restore_31 : decode cX11_restore 31 = .ok (.aload_n 0, 1) := by decide +kernel
theorem dX11_restore_32 : decode cX11_restore 32 = .ok (.getfield 36, 3) := by decide +kernel
theorem dX11_restore_35 : decode cX11_restore 35 = .ok (.iload_n 1, 1) := by decide +kernel
theorem dX11_restore_36 : decode cX11_restore 36 = .ok (.aaload, 1) := by decide +kernel
theorem dX11_restore_37 : decode cX11_restore 37 = .ok (.invokevirtual 124, 3) := by decide +kernel
theorem dX11_restore_40 : decode cX11_restore 40 = .ok (.aload_n 0, 1) := by decide +kernel
theorem dX11_restore_41 : decode cX11_restore 41 = .ok (.iconst 0, 1) := by decide +kernel
theorem dX11_restore_42 : decode cX11_restore 42 = .ok (.putfield 128, 3) := by decide +kernel
theorem dX11_restore_45 : decode cX11_restore 45 = .ok (.iconst 1, 1) := by decide +kernel
theorem dX11_restore_46 : decode cX11_restore 46 = .ok (.ireturn, 1) := by decide +kernel
theorem dX11_kind_0 : decode cX11_kind 0 = .ok (.aload_n 0, 1) := by decide +kernel
theorem dX11_kind_1 : decode cX11_kind 1 = .ok (.getfield 25, 3) := by decide +kernel
theorem dX11_kind_4 : decode cX11_kind 4 = .ok (.iload_n 1, 1) := by decide +kernel
theorem dX11_kind_5 : decode cX11_kind 5 = .ok (.invokevirtual 184, 3) := by decide +kernel
theorem dX11_kind_8 : decode cX11_kind 8 = .ok (.astore_n 2, 1) := by decide +kernel
theorem dX11_kind_9 : decode cX11_kind 9 = .ok (.aload_n 2, 1) := by decide +kernel
theorem dX11_kind_10 : decode cX11_kind 10 = .ok (.ifnonnull 8, 3) := by decide +kernel
theorem dX11_kind_13 : decode cX11_kind 13 = .ok (.ldc 66, 2) := by decide +kernel
theorem dX11_kind_15 : decode cX11_kind 15 = .ok (.goto 7, 3) := by decide +kernel
theorem dX11_kind_18 : decode cX11_kind 18 = .ok (.aload_n 2, 1) := by decide +kernel
theorem dX11_kind_19 : decode cX11_kind 19 = .ok (.invokevirtual 276, 3) := by decide +kernel
theorem dX11_kind_22 : decode cX11_kind 22 = .ok (.ireturn, 1) := by decide +kernel
theorem dX11_as_0 : decode cX11_as 0 = .ok (.aload_n 0, 1) := by decide +kernel
theorem dX11_as_1 : decode cX11_as 1 = .ok (.getfield 25, 3) := by decide +kernel
theorem dX11_as_4 : decode cX11_as 4 = .ok (.iload_n 1, 1) := by decide +kernel
theorem dX11_as_5 : decode cX11_as 5 = .ok (.invokevirtual 184, 3) := by decide +kernel
theorem dX11_as_8 : decode cX11_as 8 = .ok (.astore_n 3, 1) := by decide +kernel
theorem dX11_as_9 : decode cX11_as 9 = .ok (.aload_n 3, 1) := by decide +kernel
theorem dX11_as_10 : decode cX11_as 10 = .ok (.ifnull 12, 3) := by decide +kernel
theorem dX11_as_13 : decode cX11_as 13 = .ok (.iload_n 2, 1) := by decide +kernel
theorem dX11_as_14 : decode cX11_as 14 = .ok (.ifCond .lt 8, 3) := by decide +kernel
theorem dX11_as_17 : decode cX11_as 17 = .ok (.iload_n 2, 1) := by decide +kernel
theorem dX11_as_18 : decode cX11_as 18 = .ok (.iconst 5, 1) := by decide +kernel
theorem dX11_as_19 : decode cX11_as 19 = .ok (.if_icmp .le 6, 3) := by decide +kernel
theorem dX11_as_22 : decode cX11_as 22 = .ok (.ldc 66, 2) := by decide +kernel
theorem dX11_as_24 : decode cX11_as 24 = .ok (.ireturn, 1) := by decide +kernel
theorem dX11_as_25 : decode cX11_as 25 = .ok (.aload_n 3, 1) := by decide +kernel
theorem dX11_as_26 : decode cX11_as 26 = .ok (.iload_n 2, 1) := by decide +kernel
theorem dX11_as_27 : decode cX11_as 27 = .ok (.invokestatic 279, 3) := by decide +kernel
theorem dX11_as_30 : decode cX11_as 30 = .ok (.ifCond .eq 11, 3) := by decide +kernel
theorem dX11_as_33 : decode cX11_as 33 = .ok (.aload_n 0, 1) := by decide +kernel
theorem dX11_as_34 : decode cX11_as 34 = .ok (.iload_n 1, 1) := by decide +kernel
theorem dX11_as_35 : decode cX11_as 35 = .ok (.invokevirtual 75, 3) := by decide +kernel
theorem dX11_as_38 : decode cX11_as 38 = .ok (.goto 8, 3) := by decide +kernel
theorem dX11_as_41 : decode cX11_as 41 = .ok (.aload_n 0, 1) := by decide +kernel
theorem dX11_as_42 : decode cX11_as 42 = .ok (.iconst 3, 1) := by decide +kernel
theorem dX11_as_43 : decode cX11_as 43 = .ok (.invokevirtual 67, 3) := by decide +kernel
theorem dX11_as_46 : decode cX11_as 46 = .ok (.ireturn, 1) := by decide +kernel
theorem dX11_ask_0 : decode cX11_ask 0 = .ok (.aload_n 0, 1) := by decide +kernel
theorem dX11_ask_1 : decode cX11_ask 1 = .ok (.getfield 25, 3) := by decide +kernel
theorem dX11_ask_4 : decode cX11_ask 4 = .ok (.iload_n 1, 1) := by decide +kernel
theorem dX11_ask_5 : decode cX11_ask 5 = .ok (.invokevirtual 184, 3) := by decide +kernel
theorem dX11_ask_8 : decode cX11_ask 8 = .ok (.astore_n 3, 1) := by decide +kernel
theorem dX11_ask_9 : decode cX11_ask 9 = .ok (.aload_n 3, 1) := by decide +kernel
theorem dX11_ask_10 : decode cX11_ask 10 = .ok (.ifnull 12, 3) := by decide +kernel
theorem dX11_ask_13 : decode cX11_ask 13 = .ok (.iload_n 2, 1) := by decide +kernel
theorem dX11_ask_14 : decode cX11_ask 14 = .ok (.ifCond .lt 8, 3) := by decide +kernel
theorem dX11_ask_17 : decode cX11_ask 17 = .ok (.iload_n 2, 1) := by decide +kernel
theorem dX11_ask_18 : decode cX11_ask 18 = .ok (.iconst 1, 1) := by decide +kernel
theorem dX11_ask_19 : decode cX11_ask 19 = .ok (.if_icmp .le 6, 3) := by decide +kernel
theorem dX11_ask_22 : decode cX11_ask 22 = .ok (.ldc 66, 2) := by decide +kernel
theorem dX11_ask_24 : decode cX11_ask 24 = .ok (.ireturn, 1) := by decide +kernel
theorem dX11_ask_25 : decode cX11_ask 25 = .ok (.aload_n 0, 1) := by decide +kernel
theorem dX11_ask_26 : decode cX11_ask 26 = .ok (.getfield 42, 3) := by decide +kernel
theorem dX11_ask_29 : decode cX11_ask 29 = .ok (.iconst 0, 1) := by decide +kernel
theorem dX11_ask_30 : decode cX11_ask 30 = .ok (.putfield 283, 3) := by decide +kernel
theorem dX11_ask_33 : decode cX11_ask 33 = .ok (.iload_n 2, 1) := by decide +kernel
theorem dX11_ask_34 : decode cX11_ask 34 = .ok (.ifCond .ne 14, 3) := by decide +kernel
theorem dX11_ask_37 : decode cX11_ask 37 = .ok (.aload_n 3, 1) := by decide +kernel
theorem dX11_ask_38 : decode cX11_ask 38 = .ok (.aload_n 0, 1) := by decide +kernel
theorem dX11_ask_39 : decode cX11_ask 39 = .ok (.getfield 42, 3) := by decide +kernel
theorem dX11_ask_42 : decode cX11_ask 42 = .ok (.invokevirtual 284, 3) := by decide +kernel
theorem dX11_ask_45 : decode cX11_ask 45 = .ok (.goto 11, 3) := by decide +kernel
theorem dX11_ask_48 : decode cX11_ask 48 = .ok (.aload_n 3, 1) := by decide +kernel
theorem dX11_ask_49 : decode cX11_ask 49 = .ok (.aload_n 0, 1) := by decide +kernel
theorem dX11_ask_50 : decode cX11_ask 50 = .ok (.getfield 42, 3) := by decide +kernel
theorem dX11_ask_53 : decode cX11_ask 53 = .ok (.invokevirtual 288, 3) := by decide +kernel
theorem dX11_ask_56 : decode cX11_ask 56 = .ok (.ireturn, 1) := by decide +kernel
theorem dX11_trace_0 : decode cX11_trace 0 = .ok (.iload_n 1, 1) := by decide +kernel
theorem dX11_trace_1 : decode cX11_trace 1 = .ok (.ifCond .lt 14, 3) := by decide +kernel
theorem dX11_trace_4 : decode cX11_trace 4 = .ok (.iload_n 1, 1) := by decide +kernel
theorem dX11_trace_5 : decode cX11_trace 5 = .ok (.aload_n 0, 1) := by decide +kernel
theorem dX11_trace_6 : decode cX11_trace 6 = .ok (.getfield 42, 3) := by decide +kernel
theorem dX11_trace_9 : decode cX11_trace 9 = .ok (.getfield 283, 3) := by decide +kernel
theorem dX11_trace_12 : decode cX11_trace 12 = .ok (.if_icmp .lt 8, 3) := by decide +kernel
theorem dX11_trace_15 : decode cX11_trace 15 = .ok (.ldc 160, 2) := by decide +kernel
theorem dX11_trace_17 : decode cX11_trace 17 = .ok (.goto 12, 3) := by decide +kernel
theorem dX11_trace_20 : decode cX11_trace 20 = .ok (.aload_n 0, 1) := by decide +kernel
theorem dX11_trace_21 : decode cX11_trace 21 = .ok (.getfield 42, 3) := by decide +kernel
theorem dX11_trace_24 : decode cX11_trace 24 = .ok (.getfield 291, 3) := by decide +kernel
theorem dX11_trace_27 : decode cX11_trace 27 = .ok (.iload_n 1, 1) := by decide +kernel
theorem dX11_trace_28 : decode cX11_trace 28 = .ok (.iaload, 1) := by decide +kernel
theorem dX11_trace_29 : decode cX11_trace 29 = .ok (.ireturn, 1) := by decide +kernel
theorem dX11_count_0 : decode cX11_count 0 = .ok (.iload_n 1, 1) := by decide +kernel
theorem dX11_count_1 : decode cX11_count 1 = .ok (.tableswitch 96 0 6 #[43, 48, 56, 64, 72, 77, 88], 43) := by decide +kernel
theorem dX11_count_44 : decode cX11_count 44 = .ok (.aload_n 0, 1) := by decide +kernel
theorem dX11_count_45 : decode cX11_count 45 = .ok (.invokevirtual 294, 3) := by decide +kernel
theorem dX11_count_48 : decode cX11_count 48 = .ok (.ireturn, 1) := by decide +kernel
theorem dX11_count_49 : decode cX11_count 49 = .ok (.aload_n 0, 1) := by decide +kernel
theorem dX11_count_50 : decode cX11_count 50 = .ok (.getfield 25, 3) := by decide +kernel
theorem dX11_count_53 : decode cX11_count 53 = .ok (.getfield 131, 3) := by decide +kernel
theorem dX11_count_56 : decode cX11_count 56 = .ok (.ireturn, 1) := by decide +kernel
theorem dX11_count_57 : decode cX11_count 57 = .ok (.aload_n 0, 1) := by decide +kernel
theorem dX11_count_58 : decode cX11_count 58 = .ok (.getfield 25, 3) := by decide +kernel
theorem dX11_count_61 : decode cX11_count 61 = .ok (.getfield 234, 3) := by decide +kernel
theorem dX11_count_64 : decode cX11_count 64 = .ok (.ireturn, 1) := by decide +kernel
theorem dX11_count_65 : decode cX11_count 65 = .ok (.aload_n 0, 1) := by decide +kernel
theorem dX11_count_66 : decode cX11_count 66 = .ok (.getfield 25, 3) := by decide +kernel
theorem dX11_count_69 : decode cX11_count 69 = .ok (.getfield 157, 3) := by decide +kernel
theorem dX11_count_72 : decode cX11_count 72 = .ok (.ireturn, 1) := by decide +kernel
theorem dX11_count_73 : decode cX11_count 73 = .ok (.aload_n 0, 1) := by decide +kernel
theorem dX11_count_74 : decode cX11_count 74 = .ok (.getfield 128, 3) := by decide +kernel
theorem dX11_count_77 : decode cX11_count 77 = .ok (.ireturn, 1) := by decide +kernel
theorem dX11_count_78 : decode cX11_count 78 = .ok (.aload_n 0, 1) := by decide +kernel
theorem dX11_count_79 : decode cX11_count 79 = .ok (.getfield 25, 3) := by decide +kernel
theorem dX11_count_82 : decode cX11_count 82 = .ok (.invokevirtual 256, 3) := by decide +kernel
theorem dX11_count_85 : decode cX11_count 85 = .ok (.invokestatic 216, 3) := by decide +kernel
theorem dX11_count_88 : decode cX11_count 88 = .ok (.ireturn, 1) := by decide +kernel
theorem dX11_count_89 : decode cX11_count 89 = .ok (.aload_n 0, 1) := by decide +kernel
theorem dX11_count_90 : decode cX11_count 90 = .ok (.getfield 18, 3) := by decide +kernel
theorem dX11_count_93 : decode cX11_count 93 = .ok (.getfield 108, 3) := by decide +kernel
theorem dX11_count_96 : decode cX11_count 96 = .ok (.ireturn, 1) := by decide +kernel
theorem dX11_count_97 : decode cX11_count 97 = .ok (.ldc 66, 2) := by decide +kernel
theorem dX11_count_99 : decode cX11_count 99 = .ok (.ireturn, 1) := by decide +kernel
theorem dX11_status_0 : decode cX11_status 0 = .ok (.aload_n 0, 1) := by decide +kernel
theorem dX11_status_1 : decode cX11_status 1 = .ok (.getfield 297, 3) := by decide +kernel
theorem dX11_status_4 : decode cX11_status 4 = .ok (.ireturn, 1) := by decide +kernel
theorem dX11_rowAt_0 : decode cX11_rowAt 0 = .ok (.iload_n 1, 1) := by decide +kernel
theorem dX11_rowAt_1 : decode cX11_rowAt 1 = .ok (.ifCond .lt 9, 3) := by decide +kernel
theorem dX11_rowAt_4 : decode cX11_rowAt 4 = .ok (.iload_n 1, 1) := by decide +kernel
theorem dX11_rowAt_5 : decode cX11_rowAt 5 = .ok (.bipush 8, 2) := by decide +kernel
theorem dX11_rowAt_7 : decode cX11_rowAt 7 = .ok (.if_icmp .lt 7, 3) := by decide +kernel
theorem dX11_rowAt_10 : decode cX11_rowAt 10 = .ok (.aconst_null, 1) := by decide +kernel
theorem dX11_rowAt_11 : decode cX11_rowAt 11 = .ok (.goto 9, 3) := by decide +kernel
theorem dX11_rowAt_14 : decode cX11_rowAt 14 = .ok (.aload_n 0, 1) := by decide +kernel
theorem dX11_rowAt_15 : decode cX11_rowAt 15 = .ok (.getfield 11, 3) := by decide +kernel
theorem dX11_rowAt_18 : decode cX11_rowAt 18 = .ok (.iload_n 1, 1) := by decide +kernel
theorem dX11_rowAt_19 : decode cX11_rowAt 19 = .ok (.aaload, 1) := by decide +kernel
theorem dX11_rowAt_20 : decode cX11_rowAt 20 = .ok (.areturn, 1) := by decide +kernel
theorem dX11_rowsThere_0 : decode cX11_rowsThere 0 = .ok (.iconst 0, 1) := by decide +kernel
theorem dX11_rowsThere_1 : decode cX11_rowsThere 1 = .ok (.istore_n 1, 1) := by decide +kernel
theorem dX11_rowsThere_2 : decode cX11_rowsThere 2 = .ok (.iconst 0, 1) := by decide +kernel
theorem dX11_rowsThere_3 : decode cX11_rowsThere 3 = .ok (.istore_n 2, 1) := by decide +kernel
theorem dX11_rowsThere_4 : decode cX11_rowsThere 4 = .ok (.iload_n 2, 1) := by decide +kernel
theorem dX11_rowsThere_5 : decode cX11_rowsThere 5 = .ok (.bipush 8, 2) := by decide +kernel
theorem dX11_rowsThere_7 : decode cX11_rowsThere 7 = .ok (.if_icmp .ge 24, 3) := by decide +kernel
theorem dX11_rowsThere_10 : decode cX11_rowsThere 10 = .ok (.aload_n 0, 1) := by decide +kernel
theorem dX11_rowsThere_11 : decode cX11_rowsThere 11 = .ok (.getfield 11, 3) := by decide +kernel
theorem dX11_rowsThere_14 : decode cX11_rowsThere 14 = .ok (.iload_n 2, 1) := by decide +kernel
theorem dX11_rowsThere_15 : decode cX11_rowsThere 15 = .ok (.aaload, 1) := by decide +kernel
theorem dX11_rowsThere_16 : decode cX11_rowsThere 16 = .ok (.invokevirtual 78, 3) := by decide +kernel
theorem dX11_rowsThere_19 : decode cX11_rowsThere 19 = .ok (.ifCond .ne 6, 3) := by decide +kernel
theorem dX11_rowsThere_22 : decode cX11_rowsThere 22 = .ok (.iinc 1 1, 3) := by decide +kernel
theorem dX11_rowsThere_25 : decode cX11_rowsThere 25 = .ok (.iinc 2 1, 3) := by decide +kernel
theorem dX11_rowsThere_28 : decode cX11_rowsThere 28 = .ok (.goto (-24), 3) := by decide +kernel
theorem dX11_rowsThere_31 : decode cX11_rowsThere 31 = .ok (.iload_n 1, 1) := by decide +kernel
theorem dX11_rowsThere_32 : decode cX11_rowsThere 32 = .ok (.ireturn, 1) := by decide +kernel
theorem dX11_found_0 : decode cX11_found 0 = .ok (.aload_n 0, 1) := by decide +kernel
theorem dX11_found_1 : decode cX11_found 1 = .ok (.iload_n 1, 1) := by decide +kernel
theorem dX11_found_2 : decode cX11_found 2 = .ok (.putfield 297, 3) := by decide +kernel
theorem dX11_found_5 : decode cX11_found 5 = .ok (.ldc_w 300, 3) := by decide +kernel
theorem dX11_found_8 : decode cX11_found 8 = .ok (.iload_n 1, 1) := by decide +kernel
theorem dX11_found_9 : decode cX11_found 9 = .ok (.isub, 1) := by decide +kernel
theorem dX11_found_10 : decode cX11_found 10 = .ok (.ireturn, 1) := by decide +kernel
theorem dX11_clean_0 : decode cX11_clean 0 = .ok (.aload_n 0, 1) := by decide +kernel
theorem dX11_clean_1 : decode cX11_clean 1 = .ok (.iconst 0, 1) := by decide +kernel
theorem dX11_clean_2 : decode cX11_clean 2 = .ok (.putfield 297, 3) := by decide +kernel
theorem dX11_clean_5 : decode cX11_clean 5 = .ok (.iload_n 1, 1) := by decide +kernel
theorem dX11_clean_6 : decode cX11_clean 6 = .ok (.ireturn, 1) := by decide +kernel
theorem dX11_keepAct_0 : decode cX11_keepAct 0 = .ok (.aload_n 0, 1) := by decide +kernel
theorem dX11_keepAct_1 : decode cX11_keepAct 1 = .ok (.getfield 32, 3) := by decide +kernel
theorem dX11_keepAct_4 : decode cX11_keepAct 4 = .ok (.aload_n 0, 1) := by decide +kernel
theorem dX11_keepAct_5 : decode cX11_keepAct 5 = .ok (.getfield 181, 3) := by decide +kernel
theorem dX11_keepAct_8 : decode cX11_keepAct 8 = .ok (.aload_n 0, 1) := by decide +kernel
theorem dX11_keepAct_9 : decode cX11_keepAct 9 = .ok (.getfield 128, 3) := by decide +kernel
theorem dX11_keepAct_12 : decode cX11_keepAct 12 = .ok (.iadd, 1) := by decide +kernel
theorem dX11_keepAct_13 : decode cX11_keepAct 13 = .ok (.bipush 24, 2) := by decide +kernel
theorem dX11_keepAct_15 : decode cX11_keepAct 15 = .ok (.irem, 1) := by decide +kernel
theorem dX11_keepAct_16 : decode cX11_keepAct 16 = .ok (.aaload, 1) := by decide +kernel
theorem dX11_keepAct_17 : decode cX11_keepAct 17 = .ok (.aload_n 0, 1) := by decide +kernel
theorem dX11_keepAct_18 : decode cX11_keepAct 18 = .ok (.getfield 25, 3) := by decide +kernel
theorem dX11_keepAct_21 : decode cX11_keepAct 21 = .ok (.invokevirtual 124, 3) := by decide +kernel
theorem dX11_keepAct_24 : decode cX11_keepAct 24 = .ok (.aload_n 0, 1) := by decide +kernel
theorem dX11_keepAct_25 : decode cX11_keepAct 25 = .ok (.getfield 128, 3) := by decide +kernel
theorem dX11_keepAct_28 : decode cX11_keepAct 28 = .ok (.bipush 24, 2) := by decide +kernel
theorem dX11_keepAct_30 : decode cX11_keepAct 30 = .ok (.if_icmp .ne 19, 3) := by decide +kernel
theorem dX11_keepAct_33 : decode cX11_keepAct 33 = .ok (.aload_n 0, 1) := by decide +kernel
theorem dX11_keepAct_34 : decode cX11_keepAct 34 = .ok (.aload_n 0, 1) := by decide +kernel
theorem dX11_keepAct_35 : decode cX11_keepAct 35 = .ok (.getfield 181, 3) := by decide +kernel
theorem dX11_keepAct_38 : decode cX11_keepAct 38 = .ok (.iconst 1, 1) := by decide +kernel
theorem dX11_keepAct_39 : decode cX11_keepAct 39 = .ok (.iadd, 1) := by decide +kernel
theorem dX11_keepAct_40 : decode cX11_keepAct 40 = .ok (.bipush 24, 2) := by decide +kernel
theorem dX11_keepAct_42 : decode cX11_keepAct 42 = .ok (.irem, 1) := by decide +kernel
theorem dX11_keepAct_43 : decode cX11_keepAct 43 = .ok (.putfield 181, 3) := by decide +kernel
theorem dX11_keepAct_46 : decode cX11_keepAct 46 = .ok (.goto 13, 3) := by decide +kernel
theorem dX11_keepAct_49 : decode cX11_keepAct 49 = .ok (.aload_n 0, 1) := by decide +kernel
theorem dX11_keepAct_50 : decode cX11_keepAct 50 = .ok (.dup, 1) := by decide +kernel
theorem dX11_keepAct_51 : decode cX11_keepAct 51 = .ok (.getfield 128, 3) := by decide +kernel
theorem dX11_keepAct_54 : decode cX11_keepAct 54 = .ok (.iconst 1, 1) := by decide +kernel
theorem dX11_keepAct_55 : decode cX11_keepAct 55 = .ok (.iadd, 1) := by decide +kernel
theorem dX11_keepAct_56 : decode cX11_keepAct 56 = .ok (.putfield 128, 3) := by decide +kernel
theorem dX11_keepAct_59 : decode cX11_keepAct 59 = .ok (.return_, 1) := by decide +kernel
theorem dX11_mayGoUp_0 : decode cX11_mayGoUp 0 = .ok (.aload_n 0, 1) := by decide +kernel
theorem dX11_mayGoUp_1 : decode cX11_mayGoUp 1 = .ok (.getfield 29, 3) := by decide +kernel
theorem dX11_mayGoUp_4 : decode cX11_mayGoUp 4 = .ok (.aload_n 0, 1) := by decide +kernel
theorem dX11_mayGoUp_5 : decode cX11_mayGoUp 5 = .ok (.getfield 25, 3) := by decide +kernel
theorem dX11_mayGoUp_8 : decode cX11_mayGoUp 8 = .ok (.invokevirtual 124, 3) := by decide +kernel
theorem dX11_mayGoUp_11 : decode cX11_mayGoUp 11 = .ok (.iconst 0, 1) := by decide +kernel
theorem dX11_mayGoUp_12 : decode cX11_mayGoUp 12 = .ok (.istore_n 2, 1) := by decide +kernel
theorem dX11_mayGoUp_13 : decode cX11_mayGoUp 13 = .ok (.iload_n 2, 1) := by decide +kernel
theorem dX11_mayGoUp_14 : decode cX11_mayGoUp 14 = .ok (.aload_n 0, 1) := by decide +kernel
theorem dX11_mayGoUp_15 : decode cX11_mayGoUp 15 = .ok (.getfield 29, 3) := by decide +kernel
theorem dX11_mayGoUp_18 : decode cX11_mayGoUp 18 = .ok (.getfield 131, 3) := by decide +kernel
theorem dX11_mayGoUp_21 : decode cX11_mayGoUp 21 = .ok (.if_icmp .ge 28, 3) := by decide +kernel
theorem dX11_mayGoUp_24 : decode cX11_mayGoUp 24 = .ok (.iload_n 1, 1) := by decide +kernel
theorem dX11_mayGoUp_25 : decode cX11_mayGoUp 25 = .ok (.iload_n 2, 1) := by decide +kernel
theorem dX11_mayGoUp_26 : decode cX11_mayGoUp 26 = .ok (.ishr, 1) := by decide +kernel
theorem dX11_mayGoUp_27 : decode cX11_mayGoUp 27 = .ok (.iconst 1, 1) := by decide +kernel
theorem dX11_mayGoUp_28 : decode cX11_mayGoUp 28 = .ok (.iand, 1) := by decide +kernel
theorem dX11_mayGoUp_29 : decode cX11_mayGoUp 29 = .ok (.iconst 1, 1) := by decide +kernel
theorem dX11_mayGoUp_30 : decode cX11_mayGoUp 30 = .ok (.if_icmp .ne 13, 3) := by decide +kernel
theorem dX11_mayGoUp_33 : decode cX11_mayGoUp 33 = .ok (.aload_n 0, 1) := by decide +kernel
theorem dX11_mayGoUp_34 : decode cX11_mayGoUp 34 = .ok (.getfield 29, 3) := by decide +kernel
theorem dX11_mayGoUp_37 : decode cX11_mayGoUp 37 = .ok (.getfield 141, 3) := by decide +kernel
theorem dX11_mayGoUp_40 : decode cX11_mayGoUp 40 = .ok (.iload_n 2, 1) := by decide +kernel
theorem dX11_mayGoUp_41 : decode cX11_mayGoUp 41 = .ok (.iconst 1, 1) := by decide +kernel
theorem dX11_mayGoUp_42 : decode cX11_mayGoUp 42 = .ok (.iastore, 1) := by decide +kernel
theorem dX11_mayGoUp_43 : decode cX11_mayGoUp 43 = .ok (.iinc 2 1, 3) := by decide +kernel
theorem dX11_mayGoUp_46 : decode cX11_mayGoUp 46 = .ok (.goto (-33), 3) := by decide +kernel
theorem dX11_mayGoUp_49 : decode cX11_mayGoUp 49 = .ok (.aload_n 0, 1) := by decide +kernel
theorem dX11_mayGoUp_50 : decode cX11_mayGoUp 50 = .ok (.getfield 29, 3) := by decide +kernel
theorem dX11_mayGoUp_53 : decode cX11_mayGoUp 53 = .ok (.bipush 64, 2) := by decide +kernel
theorem dX11_mayGoUp_55 : decode cX11_mayGoUp 55 = .ok (.invokevirtual 209, 3) := by decide +kernel
theorem dX11_mayGoUp_58 : decode cX11_mayGoUp 58 = .ok (.ldc 160, 2) := by decide +kernel
theorem dX11_mayGoUp_60 : decode cX11_mayGoUp 60 = .ok (.if_icmp .ne 7, 3) := by decide +kernel
theorem dX11_mayGoUp_63 : decode cX11_mayGoUp 63 = .ok (.iconst 1, 1) := by decide +kernel
theorem dX11_mayGoUp_64 : decode cX11_mayGoUp 64 = .ok (.goto 4, 3) := by decide +kernel
theorem dX11_mayGoUp_67 : decode cX11_mayGoUp 67 = .ok (.iconst 0, 1) := by decide +kernel
theorem dX11_mayGoUp_68 : decode cX11_mayGoUp 68 = .ok (.ireturn, 1) := by decide +kernel
theorem dX11_worstOfTwo_0 : decode cX11_worstOfTwo 0 = .ok (.aload_n 0, 1) := by decide +kernel
theorem dX11_worstOfTwo_1 : decode cX11_worstOfTwo 1 = .ok (.getfield 29, 3) := by decide +kernel
theorem dX11_worstOfTwo_4 : decode cX11_worstOfTwo 4 = .ok (.aload_n 0, 1) := by decide +kernel
theorem dX11_worstOfTwo_5 : decode cX11_worstOfTwo 5 = .ok (.getfield 25, 3) := by decide +kernel
theorem dX11_worstOfTwo_8 : decode cX11_worstOfTwo 8 = .ok (.invokevirtual 124, 3) := by decide +kernel
theorem dX11_worstOfTwo_11 : decode cX11_worstOfTwo 11 = .ok (.aload_n 0, 1) := by decide +kernel
theorem dX11_worstOfTwo_12 : decode cX11_worstOfTwo 12 = .ok (.getfield 29, 3) := by decide +kernel
theorem dX11_worstOfTwo_15 : decode cX11_worstOfTwo 15 = .ok (.getfield 141, 3) := by decide +kernel
theorem dX11_worstOfTwo_18 : decode cX11_worstOfTwo 18 = .ok (.iload_n 1, 1) := by decide +kernel
theorem dX11_worstOfTwo_19 : decode cX11_worstOfTwo 19 = .ok (.iconst 1, 1) := by decide +kernel
theorem dX11_worstOfTwo_20 : decode cX11_worstOfTwo 20 = .ok (.iastore, 1) := by decide +kernel
theorem dX11_worstOfTwo_21 : decode cX11_worstOfTwo 21 = .ok (.aload_n 0, 1) := by decide +kernel
theorem dX11_worstOfTwo_22 : decode cX11_worstOfTwo 22 = .ok (.getfield 29, 3) := by decide +kernel
theorem dX11_worstOfTwo_25 : decode cX11_worstOfTwo 25 = .ok (.getfield 141, 3) := by decide +kernel
theorem dX11_worstOfTwo_28 : decode cX11_worstOfTwo 28 = .ok (.iload_n 2, 1) := by decide +kernel
theorem dX11_worstOfTwo_29 : decode cX11_worstOfTwo 29 = .ok (.iconst 0, 1) := by decide +kernel
theorem dX11_worstOfTwo_30 : decode cX11_worstOfTwo 30 = .ok (.iastore, 1) := by decide +kernel
theorem dX11_worstOfTwo_31 : decode cX11_worstOfTwo 31 = .ok (.aload_n 0, 1) := by decide +kernel
theorem dX11_worstOfTwo_32 : decode cX11_worstOfTwo 32 = .ok (.getfield 29, 3) := by decide +kernel
theorem dX11_worstOfTwo_35 : decode cX11_worstOfTwo 35 = .ok (.iload_n 3, 1) := by decide +kernel
theorem dX11_worstOfTwo_36 : decode cX11_worstOfTwo 36 = .ok (.invokevirtual 206, 3) := by decide +kernel
theorem dX11_worstOfTwo_39 : decode cX11_worstOfTwo 39 = .ok (.istore 4, 2) := by decide +kernel
theorem dX11_worstOfTwo_41 : decode cX11_worstOfTwo 41 = .ok (.aload_n 0, 1) := by decide +kernel
theorem dX11_worstOfTwo_42 : decode cX11_worstOfTwo 42 = .ok (.getfield 29, 3) := by decide +kernel
theorem dX11_worstOfTwo_45 : decode cX11_worstOfTwo 45 = .ok (.getfield 141, 3) := by decide +kernel
theorem dX11_worstOfTwo_48 : decode cX11_worstOfTwo 48 = .ok (.iload_n 2, 1) := by decide +kernel
theorem dX11_worstOfTwo_49 : decode cX11_worstOfTwo 49 = .ok (.iconst 1, 1) := by decide +kernel
theorem dX11_worstOfTwo_50 : decode cX11_worstOfTwo 50 = .ok (.iastore, 1) := by decide +kernel
theorem dX11_worstOfTwo_51 : decode cX11_worstOfTwo 51 = .ok (.iload 4, 2) := by decide +kernel
theorem dX11_worstOfTwo_53 : decode cX11_worstOfTwo 53 = .ok (.aload_n 0, 1) := by decide +kernel
theorem dX11_worstOfTwo_54 : decode cX11_worstOfTwo 54 = .ok (.getfield 29, 3) := by decide +kernel
theorem dX11_worstOfTwo_57 : decode cX11_worstOfTwo 57 = .ok (.bipush 64, 2) := by decide +kernel
theorem dX11_worstOfTwo_59 : decode cX11_worstOfTwo 59 = .ok (.iload_n 3, 1) := by decide +kernel
theorem dX11_worstOfTwo_60 : decode cX11_worstOfTwo 60 = .ok (.isub, 1) := by decide +kernel
theorem dX11_worstOfTwo_61 : decode cX11_worstOfTwo 61 = .ok (.invokevirtual 206, 3) := by decide +kernel
theorem dX11_worstOfTwo_64 : decode cX11_worstOfTwo 64 = .ok (.invokestatic 301, 3) := by decide +kernel
theorem dX11_worstOfTwo_67 : decode cX11_worstOfTwo 67 = .ok (.ireturn, 1) := by decide +kernel
theorem dX11_measureReach_0 : decode cX11_measureReach 0 = .ok (.aload_n 0, 1) := by decide +kernel
theorem dX11_measureReach_1 : decode cX11_measureReach 1 = .ok (.getfield 29, 3) := by decide +kernel
theorem dX11_measureReach_4 : decode cX11_measureReach 4 = .ok (.aload_n 0, 1) := by decide +kernel
theorem dX11_measureReach_5 : decode cX11_measureReach 5 = .ok (.getfield 25, 3) := by decide +kernel
theorem dX11_measureReach_8 : decode cX11_measureReach 8 = .ok (.invokevirtual 124, 3) := by decide +kernel
theorem dX11_measureReach_11 : decode cX11_measureReach 11 = .ok (.aload_n 0, 1) := by decide +kernel
theorem dX11_measureReach_12 : decode cX11_measureReach 12 = .ok (.getfield 29, 3) := by decide +kernel
theorem dX11_measureReach_15 : decode cX11_measureReach 15 = .ok (.iconst 0, 1) := by decide +kernel
theorem dX11_measureReach_16 : decode cX11_measureReach 16 = .ok (.putfield 234, 3) := by decide +kernel
theorem dX11_measureReach_19 : decode cX11_measureReach 19 = .ok (.iconst 0, 1) := by decide +kernel
theorem dX11_measureReach_20 : decode cX11_measureReach 20 = .ok (.istore_n 1, 1) := by decide +kernel
theorem dX11_measureReach_21 : decode cX11_measureReach 21 = .ok (.iload_n 1, 1) := by decide +kernel
theorem dX11_measureReach_22 : decode cX11_measureReach 22 = .ok (.bipush 64, 2) := by decide +kernel
theorem dX11_measureReach_24 : decode cX11_measureReach 24 = .ok (.if_icmp .gt 64, 3) := by decide +kernel
theorem dX11_measureReach_27 : decode cX11_measureReach 27 = .ok (.iconst 0, 1) := by decide +kernel
theorem dX11_measureReach_28 : decode cX11_measureReach 28 = .ok (.istore_n 2, 1) := by decide +kernel
theorem dX11_measureReach_29 : decode cX11_measureReach 29 = .ok (.iload_n 2, 1) := by decide +kernel
theorem dX11_measureReach_30 : decode cX11_measureReach 30 = .ok (.iconst 4, 1) := by decide +kernel
theorem dX11_measureReach_31 : decode cX11_measureReach 31 = .ok (.if_icmp .ge 44, 3) := by decide +kernel
theorem dX11_measureReach_34 : decode cX11_measureReach 34 = .ok (.aload_n 0, 1) := by decide +kernel
theorem dX11_measureReach_35 : decode cX11_measureReach 35 = .ok (.getfield 29, 3) := by decide +kernel
theorem dX11_measureReach_38 : decode cX11_measureReach 38 = .ok (.bipush 127, 2) := by decide +kernel
theorem dX11_measureReach_40 : decode cX11_measureReach 40 = .ok (.iload_n 2, 1) := by decide +kernel
theorem dX11_measureReach_41 : decode cX11_measureReach 41 = .ok (.invokevirtual 202, 3) := by decide +kernel
theorem dX11_measureReach_44 : decode cX11_measureReach 44 = .ok (.istore_n 3, 1) := by decide +kernel
theorem dX11_measureReach_45 : decode cX11_measureReach 45 = .ok (.aload_n 0, 1) := by decide +kernel
theorem dX11_measureReach_46 : decode cX11_measureReach 46 = .ok (.getfield 57, 3) := by decide +kernel
theorem dX11_measureReach_49 : decode cX11_measureReach 49 = .ok (.iload_n 2, 1) := by decide +kernel
theorem dX11_measureReach_50 : decode cX11_measureReach 50 = .ok (.iload_n 1, 1) := by decide +kernel
theorem dX11_measureReach_51 : decode cX11_measureReach 51 = .ok (.ifCond .ne 7, 3) := by decide +kernel
theorem dX11_measureReach_54 : decode cX11_measureReach 54 = .ok (.iload_n 3, 1) := by decide +kernel
theorem dX11_measureReach_55 : decode cX11_measureReach 55 = .ok (.goto 13, 3) := by decide +kernel
theorem dX11_measureReach_58 : decode cX11_measureReach 58 = .ok (.aload_n 0, 1) := by decide +kernel
theorem dX11_measureReach_59 : decode cX11_measureReach 59 = .ok (.getfield 57, 3) := by decide +kernel
theorem dX11_measureReach_62 : decode cX11_measureReach 62 = .ok (.iload_n 2, 1) := by decide +kernel
theorem dX11_measureReach_63 : decode cX11_measureReach 63 = .ok (.iaload, 1) := by decide +kernel
theorem dX11_measureReach_64 : decode cX11_measureReach 64 = .ok (.iload_n 3, 1) := by decide +kernel
theorem dX11_measureReach_65 : decode cX11_measureReach 65 = .ok (.invokestatic 301, 3) := by decide +kernel
theorem dX11_measureReach_68 : decode cX11_measureReach 68 = .ok (.iastore, 1) := by decide +kernel
theorem dX11_measureReach_69 : decode cX11_measureReach 69 = .ok (.iinc 2 1, 3) := by decide +kernel
theorem dX11_measureReach_72 : decode cX11_measureReach 72 = .ok (.goto (-43), 3) := by decide +kernel
theorem dX11_measureReach_75 : decode cX11_measureReach 75 = .ok (.aload_n 0, 1) := by decide +kernel
theorem dX11_measureReach_76 : decode cX11_measureReach 76 = .ok (.getfield 29, 3) := by decide +kernel
theorem dX11_measureReach_79 : decode cX11_measureReach 79 = .ok (.invokevirtual 161, 3) := by decide +kernel
theorem dX11_measureReach_82 : decode cX11_measureReach 82 = .ok (.iinc 1 1, 3) := by decide +kernel
theorem dX11_measureReach_85 : decode cX11_measureReach 85 = .ok (.goto (-64), 3) := by decide +kernel
theorem dX11_measureReach_88 : decode cX11_measureReach 88 = .ok (.return_, 1) := by decide +kernel
theorem dX11_worstOfHanging_0 : decode cX11_worstOfHanging 0 = .ok (.iconst 0, 1) := by decide +kernel
theorem dX11_worstOfHanging_1 : decode cX11_worstOfHanging 1 = .ok (.istore_n 2, 1) := by decide +kernel
theorem dX11_worstOfHanging_2 : decode cX11_worstOfHanging 2 = .ok (.iconst 0, 1) := by decide +kernel
theorem dX11_worstOfHanging_3 : decode cX11_worstOfHanging 3 = .ok (.istore_n 3, 1) := by decide +kernel
theorem dX11_worstOfHanging_4 : decode cX11_worstOfHanging 4 = .ok (.iload_n 3, 1) := by decide +kernel
theorem dX11_worstOfHanging_5 : decode cX11_worstOfHanging 5 = .ok (.iconst 4, 1) := by decide +kernel
theorem dX11_worstOfHanging_6 : decode cX11_worstOfHanging 6 = .ok (.if_icmp .ge 71, 3) := by decide +kernel
theorem dX11_worstOfHanging_9 : decode cX11_worstOfHanging 9 = .ok (.aload_n 0, 1) := by decide +kernel
theorem dX11_worstOfHanging_10 : decode cX11_worstOfHanging 10 = .ok (.getfield 57, 3) := by decide +kernel
theorem dX11_worstOfHanging_13 : decode cX11_worstOfHanging 13 = .ok (.iload_n 3, 1) := by decide +kernel
theorem dX11_worstOfHanging_14 : decode cX11_worstOfHanging 14 = .ok (.iaload, 1) := by decide +kernel
theorem dX11_worstOfHanging_15 : decode cX11_worstOfHanging 15 = .ok (.istore 4, 2) := by decide +kernel
theorem dX11_worstOfHanging_17 : decode cX11_worstOfHanging 17 = .ok (.iconst 0, 1) := by decide +kernel
theorem dX11_worstOfHanging_18 : decode cX11_worstOfHanging 18 = .ok (.istore 5, 2) := by decide +kernel
theorem dX11_worstOfHanging_20 : decode cX11_worstOfHanging 20 = .ok (.iload 5, 2) := by decide +kernel
theorem dX11_worstOfHanging_22 : decode cX11_worstOfHanging 22 = .ok (.aload_n 0, 1) := by decide +kernel
theorem dX11_worstOfHanging_23 : decode cX11_worstOfHanging 23 = .ok (.getfield 25, 3) := by decide +kernel
theorem dX11_worstOfHanging_26 : decode cX11_worstOfHanging 26 = .ok (.getfield 234, 3) := by decide +kernel
theorem dX11_worstOfHanging_29 : decode cX11_worstOfHanging 29 = .ok (.if_icmp .ge 35, 3) := by decide +kernel
theorem dX11_worstOfHanging_32 : decode cX11_worstOfHanging 32 = .ok (.iload 4, 2) := by decide +kernel
theorem dX11_worstOfHanging_34 : decode cX11_worstOfHanging 34 = .ok (.aload_n 0, 1) := by decide +kernel
theorem dX11_worstOfHanging_35 : decode cX11_worstOfHanging 35 = .ok (.getfield 25, 3) := by decide +kernel
theorem dX11_worstOfHanging_38 : decode cX11_worstOfHanging 38 = .ok (.getfield 304, 3) := by decide +kernel
theorem dX11_worstOfHanging_41 : decode cX11_worstOfHanging 41 = .ok (.iload 5, 2) := by decide +kernel
theorem dX11_worstOfHanging_43 : decode cX11_worstOfHanging 43 = .ok (.iaload, 1) := by decide +kernel
theorem dX11_worstOfHanging_44 : decode cX11_worstOfHanging 44 = .ok (.aload_n 0, 1) := by decide +kernel
theorem dX11_worstOfHanging_45 : decode cX11_worstOfHanging 45 = .ok (.iload_n 1, 1) := by decide +kernel
theorem dX11_worstOfHanging_46 : decode cX11_worstOfHanging 46 = .ok (.iload 5, 2) := by decide +kernel
theorem dX11_worstOfHanging_48 : decode cX11_worstOfHanging 48 = .ok (.invokevirtual 240, 3) := by decide +kernel
theorem dX11_worstOfHanging_51 : decode cX11_worstOfHanging 51 = .ok (.iload_n 3, 1) := by decide +kernel
theorem dX11_worstOfHanging_52 : decode cX11_worstOfHanging 52 = .ok (.invokestatic 307, 3) := by decide +kernel
theorem dX11_worstOfHanging_55 : decode cX11_worstOfHanging 55 = .ok (.iadd, 1) := by decide +kernel
theorem dX11_worstOfHanging_56 : decode cX11_worstOfHanging 56 = .ok (.istore 4, 2) := by decide +kernel
theorem dX11_worstOfHanging_58 : decode cX11_worstOfHanging 58 = .ok (.iinc 5 1, 3) := by decide +kernel
theorem dX11_worstOfHanging_61 : decode cX11_worstOfHanging 61 = .ok (.goto (-41), 3) := by decide +kernel
theorem dX11_worstOfHanging_64 : decode cX11_worstOfHanging 64 = .ok (.iload_n 2, 1) := by decide +kernel
theorem dX11_worstOfHanging_65 : decode cX11_worstOfHanging 65 = .ok (.iload 4, 2) := by decide +kernel
theorem dX11_worstOfHanging_67 : decode cX11_worstOfHanging 67 = .ok (.invokestatic 301, 3) := by decide +kernel
theorem dX11_worstOfHanging_70 : decode cX11_worstOfHanging 70 = .ok (.istore_n 2, 1) := by decide +kernel
theorem dX11_worstOfHanging_71 : decode cX11_worstOfHanging 71 = .ok (.iinc 3 1, 3) := by decide +kernel
theorem dX11_worstOfHanging_74 : decode cX11_worstOfHanging 74 = .ok (.goto (-70), 3) := by decide +kernel
theorem dX11_worstOfHanging_77 : decode cX11_worstOfHanging 77 = .ok (.iload_n 2, 1) := by decide +kernel
theorem dX11_worstOfHanging_78 : decode cX11_worstOfHanging 78 = .ok (.ireturn, 1) := by decide +kernel
theorem dX11_sideIn_0 : decode cX11_sideIn 0 = .ok (.iload_n 1, 1) := by decide +kernel
theorem dX11_sideIn_1 : decode cX11_sideIn 1 = .ok (.iconst 2, 1) := by decide +kernel
theorem dX11_sideIn_2 : decode cX11_sideIn 2 = .ok (.aload_n 0, 1) := by decide +kernel
theorem dX11_sideIn_3 : decode cX11_sideIn 3 = .ok (.getfield 25, 3) := by decide +kernel
theorem dX11_sideIn_6 : decode cX11_sideIn 6 = .ok (.getfield 234, 3) := by decide +kernel
theorem dX11_sideIn_9 : decode cX11_sideIn 9 = .ok (.iconst 1, 1) := by decide +kernel
theorem dX11_sideIn_10 : decode cX11_sideIn 10 = .ok (.isub, 1) := by decide +kernel
theorem dX11_sideIn_11 : decode cX11_sideIn 11 = .ok (.iload_n 2, 1) := by decide +kernel
theorem dX11_sideIn_12 : decode cX11_sideIn 12 = .ok (.isub, 1) := by decide +kernel
theorem dX11_sideIn_13 : decode cX11_sideIn 13 = .ok (.imul, 1) := by decide +kernel
theorem dX11_sideIn_14 : decode cX11_sideIn 14 = .ok (.ishr, 1) := by decide +kernel
theorem dX11_sideIn_15 : decode cX11_sideIn 15 = .ok (.iconst 3, 1) := by decide +kernel
theorem dX11_sideIn_16 : decode cX11_sideIn 16 = .ok (.iand, 1) := by decide +kernel
theorem dX11_sideIn_17 : decode cX11_sideIn 17 = .ok (.ireturn, 1) := by decide +kernel
theorem dX11_isMark_0 : decode cX11_isMark 0 = .ok (.iload_n 0, 1) := by decide +kernel
theorem dX11_isMark_1 : decode cX11_isMark 1 = .ok (.sipush (-999), 3) := by decide +kernel
theorem dX11_isMark_4 : decode cX11_isMark 4 = .ok (.if_icmp .lt 14, 3) := by decide +kernel
theorem dX11_isMark_7 : decode cX11_isMark 7 = .ok (.iload_n 0, 1) := by decide +kernel
theorem dX11_isMark_8 : decode cX11_isMark 8 = .ok (.sipush 999, 3) := by decide +kernel
theorem dX11_isMark_11 : decode cX11_isMark 11 = .ok (.if_icmp .gt 7, 3) := by decide +kernel
theorem dX11_isMark_14 : decode cX11_isMark 14 = .ok (.iconst 1, 1) := by decide +kernel
theorem dX11_isMark_15 : decode cX11_isMark 15 = .ok (.goto 4, 3) := by decide +kernel
theorem dX11_isMark_18 : decode cX11_isMark 18 = .ok (.iconst 0, 1) := by decide +kernel
theorem dX11_isMark_19 : decode cX11_isMark 19 = .ok (.ireturn, 1) := by decide +kernel
theorem dX11_setThatMakes_0 : decode cX11_setThatMakes 0 = .ok (.iconst 0, 1) := by decide +kernel
theorem dX11_setThatMakes_1 : decode cX11_setThatMakes 1 = .ok (.istore 4, 2) := by decide +kernel
theorem dX11_setThatMakes_3 : decode cX11_setThatMakes 3 = .ok (.iconst 0, 1) := by decide +kernel
theorem dX11_setThatMakes_4 : decode cX11_setThatMakes 4 = .ok (.istore 5, 2) := by decide +kernel
theorem dX11_setThatMakes_6 : decode cX11_setThatMakes 6 = .ok (.iload 5, 2) := by decide +kernel
theorem dX11_setThatMakes_8 : decode cX11_setThatMakes 8 = .ok (.iconst 1, 1) := by decide +kernel
theorem dX11_setThatMakes_9 : decode cX11_setThatMakes 9 = .ok (.aload_n 0, 1) := by decide +kernel
theorem dX11_setThatMakes_10 : decode cX11_setThatMakes 10 = .ok (.getfield 29, 3) := by decide +kernel
theorem dX11_setThatMakes_13 : decode cX11_setThatMakes 13 = .ok (.getfield 131, 3) := by decide +kernel
theorem dX11_setThatMakes_16 : decode cX11_setThatMakes 16 = .ok (.ishl, 1) := by decide +kernel
theorem dX11_setThatMakes_17 : decode cX11_setThatMakes 17 = .ok (.if_icmp .ge 49, 3) := by decide +kernel
theorem dX11_setThatMakes_20 : decode cX11_setThatMakes 20 = .ok (.aload_n 0, 1) := by decide +kernel
theorem dX11_setThatMakes_21 : decode cX11_setThatMakes 21 = .ok (.getfield 29, 3) := by decide +kernel
theorem dX11_setThatMakes_24 : decode cX11_setThatMakes 24 = .ok (.iload 5, 2) := by decide +kernel
theorem dX11_setThatMakes_26 : decode cX11_setThatMakes 26 = .ok (.iconst 0, 1) := by decide +kernel
theorem dX11_setThatMakes_27 : decode cX11_setThatMakes 27 = .ok (.invokevirtual 202, 3) := by decide +kernel
theorem dX11_setThatMakes_30 : decode cX11_setThatMakes 30 = .ok (.iload_n 1, 1) := by decide +kernel
theorem dX11_setThatMakes_31 : decode cX11_setThatMakes 31 = .ok (.if_icmp .ne 29, 3) := by decide +kernel
theorem dX11_setThatMakes_34 : decode cX11_setThatMakes 34 = .ok (.aload_n 0, 1) := by decide +kernel
theorem dX11_setThatMakes_35 : decode cX11_setThatMakes 35 = .ok (.getfield 29, 3) := by decide +kernel
theorem dX11_setThatMakes_38 : decode cX11_setThatMakes 38 = .ok (.iload 5, 2) := by decide +kernel
theorem dX11_setThatMakes_40 : decode cX11_setThatMakes 40 = .ok (.iconst 1, 1) := by decide +kernel
theorem dX11_setThatMakes_41 : decode cX11_setThatMakes 41 = .ok (.invokevirtual 202, 3) := by decide +kernel
theorem dX11_setThatMakes_44 : decode cX11_setThatMakes 44 = .ok (.iload_n 2, 1) := by decide +kernel
theorem dX11_setThatMakes_45 : decode cX11_setThatMakes 45 = .ok (.if_icmp .ne 15, 3) := by decide +kernel
theorem dX11_setThatMakes_48 : decode cX11_setThatMakes 48 = .ok (.iload 4, 2) := by decide +kernel
theorem dX11_setThatMakes_50 : decode cX11_setThatMakes 50 = .ok (.iload_n 3, 1) := by decide +kernel
theorem dX11_setThatMakes_51 : decode cX11_setThatMakes 51 = .ok (.if_icmp .ne 6, 3) := by decide +kernel
theorem dX11_setThatMakes_54 : decode cX11_setThatMakes 54 = .ok (.iload 5, 2) := by decide +kernel
theorem dX11_setThatMakes_56 : decode cX11_setThatMakes 56 = .ok (.ireturn, 1) := by decide +kernel
theorem dX11_setThatMakes_57 : decode cX11_setThatMakes 57 = .ok (.iinc 4 1, 3) := by decide +kernel
theorem dX11_setThatMakes_60 : decode cX11_setThatMakes 60 = .ok (.iinc 5 1, 3) := by decide +kernel
theorem dX11_setThatMakes_63 : decode cX11_setThatMakes 63 = .ok (.goto (-57), 3) := by decide +kernel
theorem dX11_setThatMakes_66 : decode cX11_setThatMakes 66 = .ok (.iload_n 3, 1) := by decide +kernel
theorem dX11_setThatMakes_67 : decode cX11_setThatMakes 67 = .ok (.iconst (-1), 1) := by decide +kernel
theorem dX11_setThatMakes_68 : decode cX11_setThatMakes 68 = .ok (.if_icmp .ne 8, 3) := by decide +kernel
theorem dX11_setThatMakes_71 : decode cX11_setThatMakes 71 = .ok (.iload 4, 2) := by decide +kernel
theorem dX11_setThatMakes_73 : decode cX11_setThatMakes 73 = .ok (.goto 5, 3) := by decide +kernel
theorem dX11_setThatMakes_76 : decode cX11_setThatMakes 76 = .ok (.ldc 160, 2) := by decide +kernel
theorem dX11_setThatMakes_78 : decode cX11_setThatMakes 78 = .ok (.ireturn, 1) := by decide +kernel
theorem dX11_findRescuable_0 : decode cX11_findRescuable 0 = .ok (.iconst 0, 1) := by decide +kernel
theorem dX11_findRescuable_1 : decode cX11_findRescuable 1 = .ok (.istore_n 2, 1) := by decide +kernel
theorem dX11_findRescuable_2 : decode cX11_findRescuable 2 = .ok (.iload_n 2, 1) := by decide +kernel
theorem dX11_findRescuable_3 : decode cX11_findRescuable 3 = .ok (.iload_n 1, 1) := by decide +kernel
theorem dX11_findRescuable_4 : decode cX11_findRescuable 4 = .ok (.if_icmp .gt 70, 3) := by decide +kernel
theorem dX11_findRescuable_7 : decode cX11_findRescuable 7 = .ok (.iload_n 2, 1) := by decide +kernel
theorem dX11_findRescuable_8 : decode cX11_findRescuable 8 = .ok (.iload_n 1, 1) := by decide +kernel
theorem dX11_findRescuable_9 : decode cX11_findRescuable 9 = .ok (.iconst (-1), 1) := by decide +kernel
theorem dX11_findRescuable_10 : decode cX11_findRescuable 10 = .ok (.ixor, 1) := by decide +kernel
theorem dX11_findRescuable_11 : decode cX11_findRescuable 11 = .ok (.iand, 1) := by decide +kernel
theorem dX11_findRescuable_12 : decode cX11_findRescuable 12 = .ok (.ifCond .ne 25, 3) := by decide +kernel
theorem dX11_findRescuable_15 : decode cX11_findRescuable 15 = .ok (.aload_n 0, 1) := by decide +kernel
theorem dX11_findRescuable_16 : decode cX11_findRescuable 16 = .ok (.getfield 25, 3) := by decide +kernel
theorem dX11_findRescuable_19 : decode cX11_findRescuable 19 = .ok (.iload_n 2, 1) := by decide +kernel
theorem dX11_findRescuable_20 : decode cX11_findRescuable 20 = .ok (.invokevirtual 310, 3) := by decide +kernel
theorem dX11_findRescuable_23 : decode cX11_findRescuable 23 = .ok (.aload_n 0, 1) := by decide +kernel
theorem dX11_findRescuable_24 : decode cX11_findRescuable 24 = .ok (.getfield 25, 3) := by decide +kernel
theorem dX11_findRescuable_27 : decode cX11_findRescuable 27 = .ok (.getfield 313, 3) := by decide +kernel
theorem dX11_findRescuable_30 : decode cX11_findRescuable 30 = .ok (.if_icmp .gt 7, 3) := by decide +kernel
theorem dX11_findRescuable_33 : decode cX11_findRescuable 33 = .ok (.iconst 1, 1) := by decide +kernel
theorem dX11_findRescuable_34 : decode cX11_findRescuable 34 = .ok (.goto 4, 3) := by decide +kernel
theorem dX11_findRescuable_37 : decode cX11_findRescuable 37 = .ok (.iconst 0, 1) := by decide +kernel
theorem dX11_findRescuable_38 : decode cX11_findRescuable 38 = .ok (.istore_n 3, 1) := by decide +kernel
theorem dX11_findRescuable_39 : decode cX11_findRescuable 39 = .ok (.aload_n 0, 1) := by decide +kernel
theorem dX11_findRescuable_40 : decode cX11_findRescuable 40 = .ok (.getfield 53, 3) := by decide +kernel
theorem dX11_findRescuable_43 : decode cX11_findRescuable 43 = .ok (.iload_n 2, 1) := by decide +kernel
theorem dX11_findRescuable_44 : decode cX11_findRescuable 44 = .ok (.iload_n 3, 1) := by decide +kernel
theorem dX11_findRescuable_45 : decode cX11_findRescuable 45 = .ok (.ifCond .eq 21, 3) := by decide +kernel
theorem dX11_findRescuable_48 : decode cX11_findRescuable 48 = .ok (.iload_n 2, 1) := by decide +kernel
theorem dX11_findRescuable_49 : decode cX11_findRescuable 49 = .ok (.ifCond .eq 13, 3) := by decide +kernel
theorem dX11_findRescuable_52 : decode cX11_findRescuable 52 = .ok (.aload_n 0, 1) := by decide +kernel
theorem dX11_findRescuable_53 : decode cX11_findRescuable 53 = .ok (.iload_n 2, 1) := by decide +kernel
theorem dX11_findRescuable_54 : decode cX11_findRescuable 54 = .ok (.invokevirtual 263, 3) := by decide +kernel
theorem dX11_findRescuable_57 : decode cX11_findRescuable 57 = .ok (.ldc 160, 2) := by decide +kernel
theorem dX11_findRescuable_59 : decode cX11_findRescuable 59 = .ok (.if_icmp .eq 7, 3) := by decide +kernel
theorem dX11_findRescuable_62 : decode cX11_findRescuable 62 = .ok (.iconst 1, 1) := by decide +kernel
theorem dX11_findRescuable_63 : decode cX11_findRescuable 63 = .ok (.goto 4, 3) := by decide +kernel
theorem dX11_findRescuable_66 : decode cX11_findRescuable 66 = .ok (.iconst 0, 1) := by decide +kernel
theorem dX11_findRescuable_67 : decode cX11_findRescuable 67 = .ok (.bastore, 1) := by decide +kernel
theorem dX11_findRescuable_68 : decode cX11_findRescuable 68 = .ok (.iinc 2 1, 3) := by decide +kernel
theorem dX11_findRescuable_71 : decode cX11_findRescuable 71 = .ok (.goto (-69), 3) := by decide +kernel
theorem dX11_findRescuable_74 : decode cX11_findRescuable 74 = .ok (.return_, 1) := by decide +kernel
theorem dX11_nextOut_0 : decode cX11_nextOut 0 = .ok (.iconst 0, 1) := by decide +kernel
theorem dX11_nextOut_1 : decode cX11_nextOut 1 = .ok (.istore_n 2, 1) := by decide +kernel
theorem dX11_nextOut_2 : decode cX11_nextOut 2 = .ok (.iload_n 2, 1) := by decide +kernel
theorem dX11_nextOut_3 : decode cX11_nextOut 3 = .ok (.bipush 7, 2) := by decide +kernel
theorem dX11_nextOut_5 : decode cX11_nextOut 5 = .ok (.if_icmp .ge 35, 3) := by decide +kernel
theorem dX11_nextOut_8 : decode cX11_nextOut 8 = .ok (.iload_n 1, 1) := by decide +kernel
theorem dX11_nextOut_9 : decode cX11_nextOut 9 = .ok (.iload_n 2, 1) := by decide +kernel
theorem dX11_nextOut_10 : decode cX11_nextOut 10 = .ok (.ishr, 1) := by decide +kernel
theorem dX11_nextOut_11 : decode cX11_nextOut 11 = .ok (.iconst 1, 1) := by decide +kernel
theorem dX11_nextOut_12 : decode cX11_nextOut 12 = .ok (.iand, 1) := by decide +kernel
theorem dX11_nextOut_13 : decode cX11_nextOut 13 = .ok (.iconst 1, 1) := by decide +kernel
theorem dX11_nextOut_14 : decode cX11_nextOut 14 = .ok (.if_icmp .ne 20, 3) := by decide +kernel
theorem dX11_nextOut_17 : decode cX11_nextOut 17 = .ok (.aload_n 0, 1) := by decide +kernel
theorem dX11_nextOut_18 : decode cX11_nextOut 18 = .ok (.getfield 53, 3) := by decide +kernel
theorem dX11_nextOut_21 : decode cX11_nextOut 21 = .ok (.iload_n 1, 1) := by decide +kernel
theorem dX11_nextOut_22 : decode cX11_nextOut 22 = .ok (.iconst 1, 1) := by decide +kernel
theorem dX11_nextOut_23 : decode cX11_nextOut 23 = .ok (.iload_n 2, 1) := by decide +kernel
theorem dX11_nextOut_24 : decode cX11_nextOut 24 = .ok (.ishl, 1) := by decide +kernel
theorem dX11_nextOut_25 : decode cX11_nextOut 25 = .ok (.iconst (-1), 1) := by decide +kernel
theorem dX11_nextOut_26 : decode cX11_nextOut 26 = .ok (.ixor, 1) := by decide +kernel
theorem dX11_nextOut_27 : decode cX11_nextOut 27 = .ok (.iand, 1) := by decide +kernel
theorem dX11_nextOut_28 : decode cX11_nextOut 28 = .ok (.baload, 1) := by decide +kernel
theorem dX11_nextOut_29 : decode cX11_nextOut 29 = .ok (.ifCond .eq 5, 3) := by decide +kernel
theorem dX11_nextOut_32 : decode cX11_nextOut 32 = .ok (.iload_n 2, 1) := by decide +kernel
theorem dX11_nextOut_33 : decode cX11_nextOut 33 = .ok (.ireturn, 1) := by decide +kernel
theorem dX11_nextOut_34 : decode cX11_nextOut 34 = .ok (.iinc 2 1, 3) := by decide +kernel
theorem dX11_nextOut_37 : decode cX11_nextOut 37 = .ok (.goto (-35), 3) := by decide +kernel
theorem dX11_nextOut_40 : decode cX11_nextOut 40 = .ok (.ldc 160, 2) := by decide +kernel
theorem dX11_nextOut_42 : decode cX11_nextOut 42 = .ok (.ireturn, 1) := by decide +kernel
theorem dX11_isOne_0 : decode cX11_isOne 0 = .ok (.iload_n 1, 1) := by decide +kernel
theorem dX11_isOne_1 : decode cX11_isOne 1 = .ok (.tableswitch 66 0 5 #[39, 41, 46, 51, 56, 61], 39) := by decide +kernel
theorem dX11_isOne_40 : decode cX11_isOne 40 = .ok (.iconst 1, 1) := by decide +kernel
theorem dX11_isOne_41 : decode cX11_isOne 41 = .ok (.ireturn, 1) := by decide +kernel
theorem dX11_isOne_42 : decode cX11_isOne 42 = .ok (.aload_n 0, 1) := by decide +kernel
theorem dX11_isOne_43 : decode cX11_isOne 43 = .ok (.instanceof 316, 3) := by decide +kernel
theorem dX11_isOne_46 : decode cX11_isOne 46 = .ok (.ireturn, 1) := by decide +kernel
theorem dX11_isOne_47 : decode cX11_isOne 47 = .ok (.aload_n 0, 1) := by decide +kernel
theorem dX11_isOne_48 : decode cX11_isOne 48 = .ok (.instanceof 318, 3) := by decide +kernel
theorem dX11_isOne_51 : decode cX11_isOne 51 = .ok (.ireturn, 1) := by decide +kernel
theorem dX11_isOne_52 : decode cX11_isOne 52 = .ok (.aload_n 0, 1) := by decide +kernel
theorem dX11_isOne_53 : decode cX11_isOne 53 = .ok (.instanceof 320, 3) := by decide +kernel
theorem dX11_isOne_56 : decode cX11_isOne 56 = .ok (.ireturn, 1) := by decide +kernel
theorem dX11_isOne_57 : decode cX11_isOne 57 = .ok (.aload_n 0, 1) := by decide +kernel
theorem dX11_isOne_58 : decode cX11_isOne 58 = .ok (.instanceof 322, 3) := by decide +kernel
theorem dX11_isOne_61 : decode cX11_isOne 61 = .ok (.ireturn, 1) := by decide +kernel
theorem dX11_isOne_62 : decode cX11_isOne 62 = .ok (.aload_n 0, 1) := by decide +kernel
theorem dX11_isOne_63 : decode cX11_isOne 63 = .ok (.instanceof 324, 3) := by decide +kernel
theorem dX11_isOne_66 : decode cX11_isOne 66 = .ok (.ireturn, 1) := by decide +kernel
theorem dX11_isOne_67 : decode cX11_isOne 67 = .ok (.iconst 0, 1) := by decide +kernel
theorem dX11_isOne_68 : decode cX11_isOne 68 = .ok (.ireturn, 1) := by decide +kernel
theorem dX12_init_0 : decode cX12_init 0 = .ok (.aload_n 0, 1) := by decide +kernel
theorem dX12_init_1 : decode cX12_init 1 = .ok (.invokespecial 1, 3) := by decide +kernel
theorem dX12_init_4 : decode cX12_init 4 = .ok (.aload_n 0, 1) := by decide +kernel
theorem dX12_init_5 : decode cX12_init 5 = .ok (.sipush 1450, 3) := by decide +kernel
theorem dX12_init_8 : decode cX12_init 8 = .ok (.newarray .int, 2) := by decide +kernel
theorem dX12_init_10 : decode cX12_init 10 = .ok (.putfield 7, 3) := by decide +kernel
theorem dX12_init_13 : decode cX12_init 13 = .ok (.aload_n 0, 1) := by decide +kernel
theorem dX12_init_14 : decode cX12_init 14 = .ok (.iconst 2, 1) := by decide +kernel
theorem dX12_init_15 : decode cX12_init 15 = .ok (.newarray .boolean, 2) := by decide +kernel
theorem dX12_init_17 : decode cX12_init 17 = .ok (.putfield 13, 3) := by decide +kernel
theorem dX12_init_20 : decode cX12_init 20 = .ok (.aload_n 0, 1) := by decide +kernel
theorem dX12_init_21 : decode cX12_init 21 = .ok (.sipush 320, 3) := by decide +kernel
theorem dX12_init_24 : decode cX12_init 24 = .ok (.newarray .int, 2) := by decide +kernel
theorem dX12_init_26 : decode cX12_init 26 = .ok (.putfield 17, 3) := by decide +kernel
theorem dX12_init_29 : decode cX12_init 29 = .ok (.aload_n 0, 1) := by decide +kernel
theorem dX12_init_30 : decode cX12_init 30 = .ok (.bipush 8, 2) := by decide +kernel
theorem dX12_init_32 : decode cX12_init 32 = .ok (.newarray .int, 2) := by decide +kernel
theorem dX12_init_34 : decode cX12_init 34 = .ok (.putfield 20, 3) := by decide +kernel
theorem dX12_init_37 : decode cX12_init 37 = .ok (.aload_n 0, 1) := by decide +kernel
theorem dX12_init_38 : decode cX12_init 38 = .ok (.bipush 8, 2) := by decide +kernel
theorem dX12_init_40 : decode cX12_init 40 = .ok (.newarray .int, 2) := by decide +kernel
theorem dX12_init_42 : decode cX12_init 42 = .ok (.putfield 23, 3) := by decide +kernel
theorem dX12_init_45 : decode cX12_init 45 = .ok (.aload_n 0, 1) := by decide +kernel
theorem dX12_init_46 : decode cX12_init 46 = .ok (.sipush 400, 3) := by decide +kernel
theorem dX12_init_49 : decode cX12_init 49 = .ok (.newarray .int, 2) := by decide +kernel
theorem dX12_init_51 : decode cX12_init 51 = .ok (.putfield 26, 3) := by decide +kernel
theorem dX12_init_54 : decode cX12_init 54 = .ok (.aload_n 0, 1) := by decide +kernel
theorem dX12_init_55 : decode cX12_init 55 = .ok (.bipush 40, 2) := by decide +kernel
theorem dX12_init_57 : decode cX12_init 57 = .ok (.newarray .int, 2) := by decide +kernel
theorem dX12_init_59 : decode cX12_init 59 = .ok (.putfield 29, 3) := by decide +kernel
theorem dX12_init_62 : decode cX12_init 62 = .ok (.aload_n 0, 1) := by decide +kernel
theorem dX12_init_63 : decode cX12_init 63 = .ok (.sipush 128, 3) := by decide +kernel
theorem dX12_init_66 : decode cX12_init 66 = .ok (.newarray .boolean, 2) := by decide +kernel
theorem dX12_init_68 : decode cX12_init 68 = .ok (.putfield 32, 3) := by decide +kernel
theorem dX12_init_71 : decode cX12_init 71 = .ok (.aload_n 0, 1) := by decide +kernel
theorem dX12_init_72 : decode cX12_init 72 = .ok (.bipush 16, 2) := by decide +kernel
theorem dX12_init_74 : decode cX12_init 74 = .ok (.newarray .int, 2) := by decide +kernel
theorem dX12_init_76 : decode cX12_init 76 = .ok (.putfield 35, 3) := by decide +kernel
theorem dX12_init_79 : decode cX12_init 79 = .ok (.iconst 0, 1) := by decide +kernel
theorem dX12_init_80 : decode cX12_init 80 = .ok (.istore_n 1, 1) := by decide +kernel
theorem dX12_init_81 : decode cX12_init 81 = .ok (.iload_n 1, 1) := by decide +kernel
theorem dX12_init_82 : decode cX12_init 82 = .ok (.bipush 8, 2) := by decide +kernel
theorem dX12_init_84 : decode cX12_init 84 = .ok (.if_icmp .ge 16, 3) := by decide +kernel
theorem dX12_init_87 : decode cX12_init 87 = .ok (.aload_n 0, 1) := by decide +kernel
theorem dX12_init_88 : decode cX12_init 88 = .ok (.getfield 20, 3) := by decide +kernel
theorem dX12_init_91 : decode cX12_init 91 = .ok (.iload_n 1, 1) := by decide +kernel
theorem dX12_init_92 : decode cX12_init 92 = .ok (.iconst (-1), 1) := by decide +kernel
theorem dX12_init_93 : decode cX12_init 93 = .ok (.iastore, 1) := by decide +kernel
theorem dX12_init_94 : decode cX12_init 94 = .ok (.iinc 1 1, 3) := by decide +kernel
theorem dX12_init_97 : decode cX12_init 97 = .ok (.goto (-16), 3) := by decide +kernel
theorem dX12_init_100 : decode cX12_init 100 = .ok (.return_, 1) := by decide +kernel
theorem dX12_in_0 : decode cX12_in 0 = .ok (.lload_n 0, 1) := by decide +kernel
theorem dX12_in_1 : decode cX12_in 1 = .ok (.lload_n 2, 1) := by decide +kernel
theorem dX12_in_2 : decode cX12_in 2 = .ok (.lcmp, 1) := by decide +kernel
theorem dX12_in_3 : decode cX12_in 3 = .ok (.ifCond .lt 14, 3) := by decide +kernel
theorem dX12_in_6 : decode cX12_in 6 = .ok (.lload_n 0, 1) := by decide +kernel
theorem dX12_in_7 : decode cX12_in 7 = .ok (.lload 4, 2) := by decide +kernel
theorem dX12_in_9 : decode cX12_in 9 = .ok (.lcmp, 1) := by decide +kernel
theorem dX12_in_10 : decode cX12_in 10 = .ok (.ifCond .gt 7, 3) := by decide +kernel
theorem dX12_in_13 : decode cX12_in 13 = .ok (.iconst 1, 1) := by decide +kernel
theorem dX12_in_14 : decode cX12_in 14 = .ok (.goto 4, 3) := by decide +kernel
theorem dX12_in_17 : decode cX12_in 17 = .ok (.iconst 0, 1) := by decide +kernel
theorem dX12_in_18 : decode cX12_in 18 = .ok (.ireturn, 1) := by decide +kernel
theorem dX12_has_0 : decode cX12_has 0 = .ok (.iload_n 0, 1) := by decide +kernel
theorem dX12_has_1 : decode cX12_has 1 = .ok (.iload_n 1, 1) := by decide +kernel
theorem dX12_has_2 : decode cX12_has 2 = .ok (.ishr, 1) := by decide +kernel
theorem dX12_has_3 : decode cX12_has 3 = .ok (.iconst 1, 1) := by decide +kernel
theorem dX12_has_4 : decode cX12_has 4 = .ok (.iand, 1) := by decide +kernel
theorem dX12_has_5 : decode cX12_has 5 = .ok (.iconst 1, 1) := by decide +kernel
theorem dX12_has_6 : decode cX12_has 6 = .ok (.if_icmp .ne 7, 3) := by decide +kernel
theorem dX12_has_9 : decode cX12_has 9 = .ok (.iconst 1, 1) := by decide +kernel
theorem dX12_has_10 : decode cX12_has 10 = .ok (.goto 4, 3) := by decide +kernel
theorem dX12_has_13 : decode cX12_has 13 = .ok (.iconst 0, 1) := by decide +kernel
theorem dX12_has_14 : decode cX12_has 14 = .ok (.ireturn, 1) := by decide +kernel
theorem dX12_sizeOf_0 : decode cX12_sizeOf 0 = .ok (.iload_n 0, 1) := by decide +kernel
theorem dX12_sizeOf_1 : decode cX12_sizeOf 1 = .ok (.ifCond .ge 8, 3) := by decide +kernel
theorem dX12_sizeOf_4 : decode cX12_sizeOf 4 = .ok (.iload_n 0, 1) := by decide +kernel
theorem dX12_sizeOf_5 : decode cX12_sizeOf 5 = .ok (.ineg, 1) := by decide +kernel
theorem dX12_sizeOf_6 : decode cX12_sizeOf 6 = .ok (.goto 4, 3) := by decide +kernel
theorem dX12_sizeOf_9 : decode cX12_sizeOf 9 = .ok (.iload_n 0, 1) := by decide +kernel
theorem dX12_sizeOf_10 : decode cX12_sizeOf 10 = .ok (.ireturn, 1) := by decide +kernel
theorem dX12_greater_0 : decode cX12_greater 0 = .ok (.iload_n 0, 1) := by decide +kernel
theorem dX12_greater_1 : decode cX12_greater 1 = .ok (.iload_n 1, 1) := by decide +kernel
theorem dX12_greater_2 : decode cX12_greater 2 = .ok (.if_icmp .le 7, 3) := by decide +kernel
theorem dX12_greater_5 : decode cX12_greater 5 = .ok (.iload_n 0, 1) := by decide +kernel
theorem dX12_greater_6 : decode cX12_greater 6 = .ok (.goto 4, 3) := by decide +kernel
theorem dX12_greater_9 : decode cX12_greater 9 = .ok (.iload_n 1, 1) := by decide +kernel
theorem dX12_greater_10 : decode cX12_greater 10 = .ok (.ireturn, 1) := by decide +kernel
theorem dX12_ones_0 : decode cX12_ones 0 = .ok (.iconst 0, 1) := by decide +kernel
theorem dX12_ones_1 : decode cX12_ones 1 = .ok (.istore_n 1, 1) := by decide +kernel
theorem dX12_ones_2 : decode cX12_ones 2 = .ok (.iconst 0, 1) := by decide +kernel
theorem dX12_ones_3 : decode cX12_ones 3 = .ok (.istore_n 2, 1) := by decide +kernel
theorem dX12_ones_4 : decode cX12_ones 4 = .ok (.iload_n 2, 1) := by decide +kernel
theorem dX12_ones_5 : decode cX12_ones 5 = .ok (.bipush 7, 2) := by decide +kernel
theorem dX12_ones_7 : decode cX12_ones 7 = .ok (.if_icmp .ge 17, 3) := by decide +kernel
theorem dX12_ones_10 : decode cX12_ones 10 = .ok (.iload_n 1, 1) := by decide +kernel
theorem dX12_ones_11 : decode cX12_ones 11 = .ok (.iload_n 0, 1) := by decide +kernel
theorem dX12_ones_12 : decode cX12_ones 12 = .ok (.iload_n 2, 1) := by decide +kernel
theorem dX12_ones_13 : decode cX12_ones 13 = .ok (.ishr, 1) := by decide +kernel
theorem dX12_ones_14 : decode cX12_ones 14 = .ok (.iconst 1, 1) := by decide +kernel
theorem dX12_ones_15 : decode cX12_ones 15 = .ok (.iand, 1) := by decide +kernel
theorem dX12_ones_16 : decode cX12_ones 16 = .ok (.iadd, 1) := by decide +kernel
theorem dX12_ones_17 : decode cX12_ones 17 = .ok (.istore_n 1, 1) := by decide +kernel
theorem dX12_ones_18 : decode cX12_ones 18 = .ok (.iinc 2 1, 3) := by decide +kernel
theorem dX12_ones_21 : decode cX12_ones 21 = .ok (.goto (-17), 3) := by decide +kernel
theorem dX12_ones_24 : decode cX12_ones 24 = .ok (.iload_n 1, 1) := by decide +kernel
theorem dX12_ones_25 : decode cX12_ones 25 = .ok (.ireturn, 1) := by decide +kernel
theorem dX12_copyAll_0 : decode cX12_copyAll 0 = .ok (.iconst 0, 1) := by decide +kernel
theorem dX12_copyAll_1 : decode cX12_copyAll 1 = .ok (.istore_n 3, 1) := by decide +kernel
theorem dX12_copyAll_2 : decode cX12_copyAll 2 = .ok (.iload_n 3, 1) := by decide +kernel
theorem dX12_copyAll_3 : decode cX12_copyAll 3 = .ok (.bipush 50, 2) := by decide +kernel
theorem dX12_copyAll_5 : decode cX12_copyAll 5 = .ok (.if_icmp .ge 25, 3) := by decide +kernel
theorem dX12_copyAll_8 : decode cX12_copyAll 8 = .ok (.aload_n 0, 1) := by decide +kernel
theorem dX12_copyAll_9 : decode cX12_copyAll 9 = .ok (.getfield 7, 3) := by decide +kernel
theorem dX12_copyAll_12 : decode cX12_copyAll 12 = .ok (.iload_n 2, 1) := by decide +kernel
theorem dX12_copyAll_13 : decode cX12_copyAll 13 = .ok (.iload_n 3, 1) := by decide +kernel
theorem dX12_copyAll_14 : decode cX12_copyAll 14 = .ok (.iadd, 1) := by decide +kernel
theorem dX12_copyAll_15 : decode cX12_copyAll 15 = .ok (.aload_n 0, 1) := by decide +kernel
theorem dX12_copyAll_16 : decode cX12_copyAll 16 = .ok (.getfield 7, 3) := by decide +kernel
theorem dX12_copyAll_19 : decode cX12_copyAll 19 = .ok (.iload_n 1, 1) := by decide +kernel
theorem dX12_copyAll_20 : decode cX12_copyAll 20 = .ok (.iload_n 3, 1) := by decide +kernel
theorem dX12_copyAll_21 : decode cX12_copyAll 21 = .ok (.iadd, 1) := by decide +kernel
theorem dX12_copyAll_22 : decode cX12_copyAll 22 = .ok (.iaload, 1) := by decide +kernel
theorem dX12_copyAll_23 : decode cX12_copyAll 23 = .ok (.iastore, 1) := by decide +kernel
theorem dX12_copyAll_24 : decode cX12_copyAll 24 = .ok (.iinc 3 1, 3) := by decide +kernel
theorem dX12_copyAll_27 : decode cX12_copyAll 27 = .ok (.goto (-25), 3) := by decide +kernel
theorem dX12_copyAll_30 : decode cX12_copyAll 30 = .ok (.return_, 1) := by decide +kernel
theorem dX12_isRow_0 : decode cX12_isRow 0 = .ok (.iload_n 0, 1) := by decide +kernel
theorem dX12_isRow_1 : decode cX12_isRow 1 = .ok (.i2l, 1) := by decide +kernel
theorem dX12_isRow_2 : decode cX12_isRow 2 = .ok (.lconst 0, 1) := by decide +kernel
theorem dX12_isRow_3 : decode cX12_isRow 3 = .ok (.ldc2_w 38, 3) := by decide +kernel
theorem dX12_isRow_6 : decode cX12_isRow 6 = .ok (.invokestatic 40, 3) := by decide +kernel
theorem dX12_isRow_9 : decode cX12_isRow 9 = .ok (.ireturn, 1) := by decide +kernel
theorem dX12_met_0 : decode cX12_met 0 = .ok (.aload_n 0, 1) := by decide +kernel
theorem dX12_met_1 : decode cX12_met 1 = .ok (.iload_n 1, 1) := by decide +kernel
theorem dX12_met_2 : decode cX12_met 2 = .ok (.putfield 44, 3) := by decide +kernel
theorem dX12_met_5 : decode cX12_met 5 = .ok (.ldc 48, 2) := by decide +kernel
theorem dX12_met_7 : decode cX12_met 7 = .ok (.iload_n 1, 1) := by decide +kernel
theorem dX12_met_8 : decode cX12_met 8 = .ok (.isub, 1) := by decide +kernel
theorem dX12_met_9 : decode cX12_met 9 = .ok (.ireturn, 1) := by decide +kernel
theorem dX12_fine_0 : decode cX12_fine 0 = .ok (.aload_n 0, 1) := by decide +kernel
theorem dX12_fine_1 : decode cX12_fine 1 = .ok (.iconst 0, 1) := by decide +kernel
theorem dX12_fine_2 : decode cX12_fine 2 = .ok (.putfield 44, 3) := by decide +kernel
theorem dX12_fine_5 : decode cX12_fine 5 = .ok (.iload_n 1, 1) := by decide +kernel
theorem dX12_fine_6 : decode cX12_fine 6 = .ok (.ireturn, 1) := by decide +kernel
theorem dX12_cut_0 : decode cX12_cut 0 = .ok (.iload_n 0, 1) := by decide +kernel
theorem dX12_cut_1 : decode cX12_cut 1 = .ok (.ifCond .ne 8, 3) := by decide +kernel
theorem dX12_cut_4 : decode cX12_cut 4 = .ok (.iload_n 1, 1) := by decide +kernel
theorem dX12_cut_5 : decode cX12_cut 5 = .ok (.i2b, 1) := by decide +kernel
theorem dX12_cut_6 : decode cX12_cut 6 = .ok (.goto 14, 3) := by decide +kernel
theorem dX12_cut_9 : decode cX12_cut 9 = .ok (.iload_n 0, 1) := by decide +kernel
theorem dX12_cut_10 : decode cX12_cut 10 = .ok (.iconst 1, 1) := by decide +kernel
theorem dX12_cut_11 : decode cX12_cut 11 = .ok (.if_icmp .ne 8, 3) := by decide +kernel
theorem dX12_cut_14 : decode cX12_cut 14 = .ok (.iload_n 1, 1) := by decide +kernel
theorem dX12_cut_15 : decode cX12_cut 15 = .ok (.i2s, 1) := by decide +kernel
theorem dX12_cut_16 : decode cX12_cut 16 = .ok (.goto 4, 3) := by decide +kernel
theorem dX12_cut_19 : decode cX12_cut 19 = .ok (.iload_n 1, 1) := by decide +kernel
theorem dX12_cut_20 : decode cX12_cut 20 = .ok (.ireturn, 1) := by decide +kernel
theorem dX12_row_0 : decode cX12_row 0 = .ok (.iload_n 1, 1) := by decide +kernel
theorem dX12_row_1 : decode cX12_row 1 = .ok (.invokestatic 49, 3) := by decide +kernel
theorem dX12_row_4 : decode cX12_row 4 = .ok (.ifCond .eq 21, 3) := by decide +kernel
theorem dX12_row_7 : decode cX12_row 7 = .ok (.iload_n 2, 1) := by decide +kernel
theorem dX12_row_8 : decode cX12_row 8 = .ok (.i2l, 1) := by decide +kernel
theorem dX12_row_9 : decode cX12_row 9 = .ok (.lconst 0, 1) := by decide +kernel
theorem dX12_row_10 : decode cX12_row 10 = .ok (.ldc2_w 53, 3) := by decide +kernel
theorem dX12_row_13 : decode cX12_row 13 = .ok (.invokestatic 40, 3) := by decide +kernel
theorem dX12_row_16 : decode cX12_row 16 = .ok (.ifCond .eq 9, 3) := by decide +kernel
theorem dX12_row_19 : decode cX12_row 19 = .ok (.iload_n 3, 1) := by decide +kernel
theorem dX12_row_20 : decode cX12_row 20 = .ok (.bipush 40, 2) := by decide +kernel
theorem dX12_row_22 : decode cX12_row 22 = .ok (.if_icmp .le 6, 3) := by decide +kernel
theorem dX12_row_25 : decode cX12_row 25 = .ok (.ldc 55, 2) := by decide +kernel
theorem dX12_row_27 : decode cX12_row 27 = .ok (.ireturn, 1) := by decide +kernel
theorem dX12_row_28 : decode cX12_row 28 = .ok (.iload_n 3, 1) := by decide +kernel
theorem dX12_row_29 : decode cX12_row 29 = .ok (.ifCond .ge 9, 3) := by decide +kernel
theorem dX12_row_32 : decode cX12_row 32 = .ok (.aload_n 0, 1) := by decide +kernel
theorem dX12_row_33 : decode cX12_row 33 = .ok (.iconst 4, 1) := by decide +kernel
theorem dX12_row_34 : decode cX12_row 34 = .ok (.invokevirtual 56, 3) := by decide +kernel
theorem dX12_row_37 : decode cX12_row 37 = .ok (.ireturn, 1) := by decide +kernel
theorem dX12_row_38 : decode cX12_row 38 = .ok (.aload_n 0, 1) := by decide +kernel
theorem dX12_row_39 : decode cX12_row 39 = .ok (.getfield 20, 3) := by decide +kernel
theorem dX12_row_42 : decode cX12_row 42 = .ok (.iload_n 1, 1) := by decide +kernel
theorem dX12_row_43 : decode cX12_row 43 = .ok (.iload_n 2, 1) := by decide +kernel
theorem dX12_row_44 : decode cX12_row 44 = .ok (.iastore, 1) := by decide +kernel
theorem dX12_row_45 : decode cX12_row 45 = .ok (.aload_n 0, 1) := by decide +kernel
theorem dX12_row_46 : decode cX12_row 46 = .ok (.getfield 23, 3) := by decide +kernel
theorem dX12_row_49 : decode cX12_row 49 = .ok (.iload_n 1, 1) := by decide +kernel
theorem dX12_row_50 : decode cX12_row 50 = .ok (.iload_n 3, 1) := by decide +kernel
theorem dX12_row_51 : decode cX12_row 51 = .ok (.iastore, 1) := by decide +kernel
theorem dX12_row_52 : decode cX12_row 52 = .ok (.iconst 0, 1) := by decide +kernel
theorem dX12_row_53 : decode cX12_row 53 = .ok (.istore 4, 2) := by decide +kernel
theorem dX12_row_55 : decode cX12_row 55 = .ok (.iload 4, 2) := by decide +kernel
theorem dX12_row_57 : decode cX12_row 57 = .ok (.iload_n 3, 1) := by decide +kernel
theorem dX12_row_58 : decode cX12_row 58 = .ok (.if_icmp .ge 22, 3) := by decide +kernel
theorem dX12_row_61 : decode cX12_row 61 = .ok (.aload_n 0, 1) := by decide +kernel
theorem dX12_row_62 : decode cX12_row 62 = .ok (.getfield 17, 3) := by decide +kernel
theorem dX12_row_65 : decode cX12_row 65 = .ok (.bipush 40, 2) := by decide +kernel
theorem dX12_row_67 : decode cX12_row 67 = .ok (.iload_n 1, 1) := by decide +kernel
theorem dX12_row_68 : decode cX12_row 68 = .ok (.imul, 1) := by decide +kernel
theorem dX12_row_69 : decode cX12_row 69 = .ok (.iload 4, 2) := by decide +kernel
theorem dX12_row_71 : decode cX12_row 71 = .ok (.iadd, 1) := by decide +kernel
theorem dX12_row_72 : decode cX12_row 72 = .ok (.iconst 0, 1) := by decide +kernel
theorem dX12_row_73 : decode cX12_row 73 = .ok (.iastore, 1) := by decide +kernel
theorem dX12_row_74 : decode cX12_row 74 = .ok (.iinc 4 1, 3) := by decide +kernel
theorem dX12_row_77 : decode cX12_row 77 = .ok (.goto (-22), 3) := by decide +kernel
theorem dX12_row_80 : decode cX12_row 80 = .ok (.aload_n 0, 1) := by decide +kernel
theorem dX12_row_81 : decode cX12_row 81 = .ok (.iload_n 3, 1) := by decide +kernel
theorem dX12_row_82 : decode cX12_row 82 = .ok (.invokevirtual 60, 3) := by decide +kernel
theorem dX12_row_85 : decode cX12_row 85 = .ok (.ireturn, 1) := by decide +kernel
theorem dX12_set_0 : decode cX12_set 0 = .ok (.iload_n 1, 1) := by decide +kernel
theorem dX12_set_1 : decode cX12_set 1 = .ok (.invokestatic 49, 3) := by decide +kernel
theorem dX12_set_4 : decode cX12_set 4 = .ok (.ifCond .ne 6, 3) := by decide +kernel
theorem dX12_set_7 : decode cX12_set 7 = .ok (.ldc 55, 2) := by decide +kernel
theorem dX12_set_9 : decode cX12_set 9 = .ok (.ireturn, 1) := by decide +kernel
theorem dX12_set_10 : decode cX12_set 10 = .ok (.aload_n 0, 1) := by decide +kernel
theorem dX12_set_11 : decode cX12_set 11 = .ok (.getfield 20, 3) := by decide +kernel
theorem dX12_set_14 : decode cX12_set 14 = .ok (.iload_n 1, 1) := by decide +kernel
theorem dX12_set_15 : decode cX12_set 15 = .ok (.iaload, 1) := by decide +kernel
theorem dX12_set_16 : decode cX12_set 16 = .ok (.ifCond .ge 9, 3) := by decide +kernel
theorem dX12_set_19 : decode cX12_set 19 = .ok (.aload_n 0, 1) := by decide +kernel
theorem dX12_set_20 : decode cX12_set 20 = .ok (.iconst 1, 1) := by decide +kernel
theorem dX12_set_21 : decode cX12_set 21 = .ok (.invokevirtual 56, 3) := by decide +kernel
theorem dX12_set_24 : decode cX12_set 24 = .ok (.ireturn, 1) := by decide +kernel
theorem dX12_set_25 : decode cX12_set 25 = .ok (.iload_n 2, 1) := by decide +kernel
theorem dX12_set_26 : decode cX12_set 26 = .ok (.i2l, 1) := by decide +kernel
theorem dX12_set_27 : decode cX12_set 27 = .ok (.lconst 0, 1) := by decide +kernel
theorem dX12_set_28 : decode cX12_set 28 = .ok (.aload_n 0, 1) := by decide +kernel
theorem dX12_set_29 : decode cX12_set 29 = .ok (.getfield 23, 3) := by decide +kernel
theorem dX12_set_32 : decode cX12_set 32 = .ok (.iload_n 1, 1) := by decide +kernel
theorem dX12_set_33 : decode cX12_set 33 = .ok (.iaload, 1) := by decide +kernel
theorem dX12_set_34 : decode cX12_set 34 = .ok (.iconst 1, 1) := by decide +kernel
theorem dX12_set_35 : decode cX12_set 35 = .ok (.isub, 1) := by decide +kernel
theorem dX12_set_36 : decode cX12_set 36 = .ok (.i2l, 1) := by decide +kernel
theorem dX12_set_37 : decode cX12_set 37 = .ok (.invokestatic 40, 3) := by decide +kernel
theorem dX12_set_40 : decode cX12_set 40 = .ok (.ifCond .ne 9, 3) := by decide +kernel
theorem dX12_set_43 : decode cX12_set 43 = .ok (.aload_n 0, 1) := by decide +kernel
theorem dX12_set_44 : decode cX12_set 44 = .ok (.iconst 2, 1) := by decide +kernel
theorem dX12_set_45 : decode cX12_set 45 = .ok (.invokevirtual 56, 3) := by decide +kernel
theorem dX12_set_48 : decode cX12_set 48 = .ok (.ireturn, 1) := by decide +kernel
theorem dX12_set_49 : decode cX12_set 49 = .ok (.aload_n 0, 1) := by decide +kernel
theorem dX12_set_50 : decode cX12_set 50 = .ok (.getfield 17, 3) := by decide +kernel
theorem dX12_set_53 : decode cX12_set 53 = .ok (.bipush 40, 2) := by decide +kernel
theorem dX12_set_55 : decode cX12_set 55 = .ok (.iload_n 1, 1) := by decide +kernel
theorem dX12_set_56 : decode cX12_set 56 = .ok (.imul, 1) := by decide +kernel
theorem dX12_set_57 : decode cX12_set 57 = .ok (.iload_n 2, 1) := by decide +kernel
theorem dX12_set_58 : decode cX12_set 58 = .ok (.iadd, 1) := by decide +kernel
theorem dX12_set_59 : decode cX12_set 59 = .ok (.aload_n 0, 1) := by decide +kernel
theorem dX12_set_60 : decode cX12_set 60 = .ok (.getfield 20, 3) := by decide +kernel
theorem dX12_set_63 : decode cX12_set 63 = .ok (.iload_n 1, 1) := by decide +kernel
theorem dX12_set_64 : decode cX12_set 64 = .ok (.iaload, 1) := by decide +kernel
theorem dX12_set_65 : decode cX12_set 65 = .ok (.iload_n 3, 1) := by decide +kernel
theorem dX12_set_66 : decode cX12_set 66 = .ok (.invokestatic 63, 3) := by decide +kernel
theorem dX12_set_69 : decode cX12_set 69 = .ok (.iastore, 1) := by decide +kernel
theorem dX12_set_70 : decode cX12_set 70 = .ok (.aload_n 0, 1) := by decide +kernel
theorem dX12_set_71 : decode cX12_set 71 = .ok (.aload_n 0, 1) := by decide +kernel
theorem dX12_set_72 : decode cX12_set 72 = .ok (.getfield 17, 3) := by decide +kernel
theorem dX12_set_75 : decode cX12_set 75 = .ok (.bipush 40, 2) := by decide +kernel
theorem dX12_set_77 : decode cX12_set 77 = .ok (.iload_n 1, 1) := by decide +kernel
theorem dX12_set_78 : decode cX12_set 78 = .ok (.imul, 1) := by decide +kernel
theorem dX12_set_79 : decode cX12_set 79 = .ok (.iload_n 2, 1) := by decide +kernel
theorem dX12_set_80 : decode cX12_set 80 = .ok (.iadd, 1) := by decide +kernel
theorem dX12_set_81 : decode cX12_set 81 = .ok (.iaload, 1) := by decide +kernel
theorem dX12_set_82 : decode cX12_set 82 = .ok (.invokevirtual 60, 3) := by decide +kernel
theorem dX12_set_85 : decode cX12_set 85 = .ok (.ireturn, 1) := by decide +kernel
theorem dX12_copy_0 : decode cX12_copy 0 = .ok (.iload_n 1, 1) := by decide +kernel
theorem dX12_copy_1 : decode cX12_copy 1 = .ok (.invokestatic 49, 3) := by decide +kernel
theorem dX12_copy_4 : decode cX12_copy 4 = .ok (.ifCond .eq 10, 3) := by decide +kernel
theorem dX12_copy_7 : decode cX12_copy 7 = .ok (.iload_n 3, 1) := by decide +kernel
theorem dX12_copy_8 : decode cX12_copy 8 = .ok (.invokestatic 49, 3) := by decide +kernel
theorem dX12_copy_11 : decode cX12_copy 11 = .ok (.ifCond .ne 6, 3) := by decide +kernel
theorem dX12_copy_14 : decode cX12_copy 14 = .ok (.ldc 55, 2) := by decide +kernel
theorem dX12_copy_16 : decode cX12_copy 16 = .ok (.ireturn, 1) := by decide +kernel
theorem dX12_copy_17 : decode cX12_copy 17 = .ok (.aload_n 0, 1) := by decide +kernel
theorem dX12_copy_18 : decode cX12_copy 18 = .ok (.getfield 20, 3) := by decide +kernel
theorem dX12_copy_21 : decode cX12_copy 21 = .ok (.iload_n 1, 1) := by decide +kernel
theorem dX12_copy_22 : decode cX12_copy 22 = .ok (.iaload, 1) := by decide +kernel
theorem dX12_copy_23 : decode cX12_copy 23 = .ok (.ifCond .lt 12, 3) := by decide +kernel
theorem dX12_copy_26 : decode cX12_copy 26 = .ok (.aload_n 0, 1) := by decide +kernel
theorem dX12_copy_27 : decode cX12_copy 27 = .ok (.getfield 20, 3) := by decide +kernel
theorem dX12_copy_30 : decode cX12_copy 30 = .ok (.iload_n 3, 1) := by decide +kernel
theorem dX12_copy_31 : decode cX12_copy 31 = .ok (.iaload, 1) := by decide +kernel
theorem dX12_copy_32 : decode cX12_copy 32 = .ok (.ifCond .ge 9, 3) := by decide +kernel
theorem dX12_copy_35 : decode cX12_copy 35 = .ok (.aload_n 0, 1) := by decide +kernel
theorem dX12_copy_36 : decode cX12_copy 36 = .ok (.iconst 1, 1) := by decide +kernel
theorem dX12_copy_37 : decode cX12_copy 37 = .ok (.invokevirtual 56, 3) := by decide +kernel
theorem dX12_copy_40 : decode cX12_copy 40 = .ok (.ireturn, 1) := by decide +kernel
theorem dX12_copy_41 : decode cX12_copy 41 = .ok (.aload_n 0, 1) := by decide +kernel
theorem dX12_copy_42 : decode cX12_copy 42 = .ok (.getfield 20, 3) := by decide +kernel
theorem dX12_copy_45 : decode cX12_copy 45 = .ok (.iload_n 1, 1) := by decide +kernel
theorem dX12_copy_46 : decode cX12_copy 46 = .ok (.iaload, 1) := by decide +kernel
theorem dX12_copy_47 : decode cX12_copy 47 = .ok (.aload_n 0, 1) := by decide +kernel
theorem dX12_copy_48 : decode cX12_copy 48 = .ok (.getfield 20, 3) := by decide +kernel
theorem dX12_copy_51 : decode cX12_copy 51 = .ok (.iload_n 3, 1) := by decide +kernel
theorem dX12_copy_52 : decode cX12_copy 52 = .ok (.iaload, 1) := by decide +kernel
theorem dX12_copy_53 : decode cX12_copy 53 = .ok (.if_icmp .eq 9, 3) := by decide +kernel
theorem dX12_copy_56 : decode cX12_copy 56 = .ok (.aload_n 0, 1) := by decide +kernel
theorem dX12_copy_57 : decode cX12_copy 57 = .ok (.iconst 5, 1) := by decide +kernel
theorem dX12_copy_58 : decode cX12_copy 58 = .ok (.invokevirtual 56, 3) := by decide +kernel
theorem dX12_copy_61 : decode cX12_copy 61 = .ok (.ireturn, 1) := by decide +kernel
theorem dX12_copy_62 : decode cX12_copy 62 = .ok (.iload_n 2, 1) := by decide +kernel
theorem dX12_copy_63 : decode cX12_copy 63 = .ok (.ifCond .lt 48, 3) := by decide +kernel
theorem dX12_copy_66 : decode cX12_copy 66 = .ok (.iload 4, 2) := by decide +kernel
theorem dX12_copy_68 : decode cX12_copy 68 = .ok (.ifCond .lt 43, 3) := by decide +kernel
theorem dX12_copy_71 : decode cX12_copy 71 = .ok (.iload 5, 2) := by decide +kernel
theorem dX12_copy_73 : decode cX12_copy 73 = .ok (.ifCond .lt 38, 3) := by decide +kernel
theorem dX12_copy_76 : decode cX12_copy 76 = .ok (.iload_n 2, 1) := by decide +kernel
theorem dX12_copy_77 : decode cX12_copy 77 = .ok (.i2l, 1) := by decide +kernel
theorem dX12_copy_78 : decode cX12_copy 78 = .ok (.iload 5, 2) := by decide +kernel
theorem dX12_copy_80 : decode cX12_copy 80 = .ok (.i2l, 1) := by decide +kernel
theorem dX12_copy_81 : decode cX12_copy 81 = .ok (.ladd, 1) := by decide +kernel
theorem dX12_copy_82 : decode cX12_copy 82 = .ok (.aload_n 0, 1) := by decide +kernel
theorem dX12_copy_83 : decode cX12_copy 83 = .ok (.getfield 23, 3) := by decide +kernel
theorem dX12_copy_86 : decode cX12_copy 86 = .ok (.iload_n 1, 1) := by decide +kernel
theorem dX12_copy_87 : decode cX12_copy 87 = .ok (.iaload, 1) := by decide +kernel
theorem dX12_copy_88 : decode cX12_copy 88 = .ok (.i2l, 1) := by decide +kernel
theorem dX12_copy_89 : decode cX12_copy 89 = .ok (.lcmp, 1) := by decide +kernel
theorem dX12_copy_90 : decode cX12_copy 90 = .ok (.ifCond .gt 21, 3) := by decide +kernel
theorem dX12_copy_93 : decode cX12_copy 93 = .ok (.iload 4, 2) := by decide +kernel
theorem dX12_copy_95 : decode cX12_copy 95 = .ok (.i2l, 1) := by decide +kernel
theorem dX12_copy_96 : decode cX12_copy 96 = .ok (.iload 5, 2) := by decide +kernel
theorem dX12_copy_98 : decode cX12_copy 98 = .ok (.i2l, 1) := by decide +kernel
theorem dX12_copy_99 : decode cX12_copy 99 = .ok (.ladd, 1) := by decide +kernel
theorem dX12_copy_100 : decode cX12_copy 100 = .ok (.aload_n 0, 1) := by decide +kernel
theorem dX12_copy_101 : decode cX12_copy 101 = .ok (.getfield 23, 3) := by decide +kernel
theorem dX12_copy_104 : decode cX12_copy 104 = .ok (.iload_n 3, 1) := by decide +kernel
theorem dX12_copy_105 : decode cX12_copy 105 = .ok (.iaload, 1) := by decide +kernel
theorem dX12_copy_106 : decode cX12_copy 106 = .ok (.i2l, 1) := by decide +kernel
theorem dX12_copy_107 : decode cX12_copy 107 = .ok (.lcmp, 1) := by decide +kernel
theorem dX12_copy_108 : decode cX12_copy 108 = .ok (.ifCond .le 9, 3) := by decide +kernel
theorem dX12_copy_111 : decode cX12_copy 111 = .ok (.aload_n 0, 1) := by decide +kernel
theorem dX12_copy_112 : decode cX12_copy 112 = .ok (.iconst 2, 1) := by decide +kernel
theorem dX12_copy_113 : decode cX12_copy 113 = .ok (.invokevirtual 56, 3) := by decide +kernel
theorem dX12_copy_116 : decode cX12_copy 116 = .ok (.ireturn, 1) := by decide +kernel
theorem dX12_copy_117 : decode cX12_copy 117 = .ok (.iconst 0, 1) := by decide +kernel
theorem dX12_copy_118 : decode cX12_copy 118 = .ok (.istore 6, 2) := by decide +kernel
theorem dX12_copy_120 : decode cX12_copy 120 = .ok (.iload 6, 2) := by decide +kernel
theorem dX12_copy_122 : decode cX12_copy 122 = .ok (.iload 5, 2) := by decide +kernel
theorem dX12_copy_124 : decode cX12_copy 124 = .ok (.if_icmp .ge 30, 3) := by decide +kernel
theorem dX12_copy_127 : decode cX12_copy 127 = .ok (.aload_n 0, 1) := by decide +kernel
theorem dX12_copy_128 : decode cX12_copy 128 = .ok (.getfield 29, 3) := by decide +kernel
theorem dX12_copy_131 : decode cX12_copy 131 = .ok (.iload 6, 2) := by decide +kernel
theorem dX12_copy_133 : decode cX12_copy 133 = .ok (.aload_n 0, 1) := by decide +kernel
theorem dX12_copy_134 : decode cX12_copy 134 = .ok (.getfield 17, 3) := by decide +kernel
theorem dX12_copy_137 : decode cX12_copy 137 = .ok (.bipush 40, 2) := by decide +kernel
theorem dX12_copy_139 : decode cX12_copy 139 = .ok (.iload_n 1, 1) := by decide +kernel
theorem dX12_copy_140 : decode cX12_copy 140 = .ok (.imul, 1) := by decide +kernel
theorem dX12_copy_141 : decode cX12_copy 141 = .ok (.iload_n 2, 1) := by decide +kernel
theorem dX12_copy_142 : decode cX12_copy 142 = .ok (.iadd, 1) := by decide +kernel
theorem dX12_copy_143 : decode cX12_copy 143 = .ok (.iload 6, 2) := by decide +kernel
theorem dX12_copy_145 : decode cX12_copy 145 = .ok (.iadd, 1) := by decide +kernel
theorem dX12_copy_146 : decode cX12_copy 146 = .ok (.iaload, 1) := by decide +kernel
theorem dX12_copy_147 : decode cX12_copy 147 = .ok (.iastore, 1) := by decide +kernel
theorem dX12_copy_148 : decode cX12_copy 148 = .ok (.iinc 6 1, 3) := by decide +kernel
theorem dX12_copy_151 : decode cX12_copy 151 = .ok (.goto (-31), 3) := by decide +kernel
theorem dX12_copy_154 : decode cX12_copy 154 = .ok (.iconst 0, 1) := by decide +kernel
theorem dX12_copy_155 : decode cX12_copy 155 = .ok (.istore 6, 2) := by decide +kernel
theorem dX12_copy_157 : decode cX12_copy 157 = .ok (.iload 6, 2) := by decide +kernel
theorem dX12_copy_159 : decode cX12_copy 159 = .ok (.iload 5, 2) := by decide +kernel
theorem dX12_copy_161 : decode cX12_copy 161 = .ok (.if_icmp .ge 31, 3) := by decide +kernel
theorem dX12_copy_164 : decode cX12_copy 164 = .ok (.aload_n 0, 1) := by decide +kernel
theorem dX12_copy_165 : decode cX12_copy 165 = .ok (.getfield 17, 3) := by decide +kernel
theorem dX12_copy_168 : decode cX12_copy 168 = .ok (.bipush 40, 2) := by decide +kernel
theorem dX12_copy_170 : decode cX12_copy 170 = .ok (.iload_n 3, 1) := by decide +kernel
theorem dX12_copy_171 : decode cX12_copy 171 = .ok (.imul, 1) := by decide +kernel
theorem dX12_copy_172 : decode cX12_copy 172 = .ok (.iload 4, 2) := by decide +kernel
theorem dX12_copy_174 : decode cX12_copy 174 = .ok (.iadd, 1) := by decide +kernel
theorem dX12_copy_175 : decode cX12_copy 175 = .ok (.iload 6, 2) := by decide +kernel
theorem dX12_copy_177 : decode cX12_copy 177 = .ok (.iadd, 1) := by decide +kernel
theorem dX12_copy_178 : decode cX12_copy 178 = .ok (.aload_n 0, 1) := by decide +kernel
theorem dX12_copy_179 : decode cX12_copy 179 = .ok (.getfield 29, 3) := by decide +kernel
theorem dX12_copy_182 : decode cX12_copy 182 = .ok (.iload 6, 2) := by decide +kernel
theorem dX12_copy_184 : decode cX12_copy 184 = .ok (.iaload, 1) := by decide +kernel
theorem dX12_copy_185 : decode cX12_copy 185 = .ok (.iastore, 1) := by decide +kernel
theorem dX12_copy_186 : decode cX12_copy 186 = .ok (.iinc 6 1, 3) := by decide +kernel
theorem dX12_copy_189 : decode cX12_copy 189 = .ok (.goto (-32), 3) := by decide +kernel
theorem dX12_copy_192 : decode cX12_copy 192 = .ok (.aload_n 0, 1) := by decide +kernel
theorem dX12_copy_193 : decode cX12_copy 193 = .ok (.iload 5, 2) := by decide +kernel
theorem dX12_copy_195 : decode cX12_copy 195 = .ok (.invokevirtual 60, 3) := by decide +kernel
theorem dX12_copy_198 : decode cX12_copy 198 = .ok (.ireturn, 1) := by decide +kernel
theorem dX12_drop_0 : decode cX12_drop 0 = .ok (.iload_n 1, 1) := by decide +kernel
theorem dX12_drop_1 : decode cX12_drop 1 = .ok (.invokestatic 49, 3) := by decide +kernel
theorem dX12_drop_4 : decode cX12_drop 4 = .ok (.ifCond .ne 6, 3) := by decide +kernel
theorem dX12_drop_7 : decode cX12_drop 7 = .ok (.ldc 55, 2) := by decide +kernel
theorem dX12_drop_9 : decode cX12_drop 9 = .ok (.ireturn, 1) := by decide +kernel
theorem dX12_drop_10 : decode cX12_drop 10 = .ok (.aload_n 0, 1) := by decide +kernel
theorem dX12_drop_11 : decode cX12_drop 11 = .ok (.getfield 20, 3) := by decide +kernel
theorem dX12_drop_14 : decode cX12_drop 14 = .ok (.iload_n 1, 1) := by decide +kernel
theorem dX12_drop_15 : decode cX12_drop 15 = .ok (.iaload, 1) := by decide +kernel
theorem dX12_drop_16 : decode cX12_drop 16 = .ok (.ifCond .ge 9, 3) := by decide +kernel
theorem dX12_drop_19 : decode cX12_drop 19 = .ok (.aload_n 0, 1) := by decide +kernel
theorem dX12_drop_20 : decode cX12_drop 20 = .ok (.iconst 1, 1) := by decide +kernel
theorem dX12_drop_21 : decode cX12_drop 21 = .ok (.invokevirtual 56, 3) := by decide +kernel
theorem dX12_drop_24 : decode cX12_drop 24 = .ok (.ireturn, 1) := by decide +kernel
theorem dX12_drop_25 : decode cX12_drop 25 = .ok (.aload_n 0, 1) := by decide +kernel
theorem dX12_drop_26 : decode cX12_drop 26 = .ok (.getfield 20, 3) := by decide +kernel
theorem dX12_drop_29 : decode cX12_drop 29 = .ok (.iload_n 1, 1) := by decide +kernel
theorem dX12_drop_30 : decode cX12_drop 30 = .ok (.iconst (-1), 1) := by decide +kernel
theorem dX12_drop_31 : decode cX12_drop 31 = .ok (.iastore, 1) := by decide +kernel
theorem dX12_drop_32 : decode cX12_drop 32 = .ok (.aload_n 0, 1) := by decide +kernel
theorem dX12_drop_33 : decode cX12_drop 33 = .ok (.aload_n 0, 1) := by decide +kernel
theorem dX12_drop_34 : decode cX12_drop 34 = .ok (.getfield 23, 3) := by decide +kernel
theorem dX12_drop_37 : decode cX12_drop 37 = .ok (.iload_n 1, 1) := by decide +kernel
theorem dX12_drop_38 : decode cX12_drop 38 = .ok (.iaload, 1) := by decide +kernel
theorem dX12_drop_39 : decode cX12_drop 39 = .ok (.invokevirtual 60, 3) := by decide +kernel
theorem dX12_drop_42 : decode cX12_drop 42 = .ok (.ireturn, 1) := by decide +kernel
theorem dX12_feed_0 : decode cX12_feed 0 = .ok (.iload_n 3, 1) := by decide +kernel
theorem dX12_feed_1 : decode cX12_feed 1 = .ok (.i2l, 1) := by decide +kernel
theorem dX12_feed_2 : decode cX12_feed 2 = .ok (.lconst 1, 1) := by decide +kernel
theorem dX12_feed_3 : decode cX12_feed 3 = .ok (.ldc2_w 67, 3) := by decide +kernel
theorem dX12_feed_6 : decode cX12_feed 6 = .ok (.invokestatic 40, 3) := by decide +kernel
theorem dX12_feed_9 : decode cX12_feed 9 = .ok (.ifCond .ne 6, 3) := by decide +kernel
theorem dX12_feed_12 : decode cX12_feed 12 = .ok (.ldc 55, 2) := by decide +kernel
theorem dX12_feed_14 : decode cX12_feed 14 = .ok (.ireturn, 1) := by decide +kernel
theorem dX12_feed_15 : decode cX12_feed 15 = .ok (.aload_n 0, 1) := by decide +kernel
theorem dX12_feed_16 : decode cX12_feed 16 = .ok (.getfield 69, 3) := by decide +kernel
theorem dX12_feed_19 : decode cX12_feed 19 = .ok (.iload_n 3, 1) := by decide +kernel
theorem dX12_feed_20 : decode cX12_feed 20 = .ok (.iadd, 1) := by decide +kernel
theorem dX12_feed_21 : decode cX12_feed 21 = .ok (.sipush 400, 3) := by decide +kernel
theorem dX12_feed_24 : decode cX12_feed 24 = .ok (.if_icmp .le 6, 3) := by decide +kernel
theorem dX12_feed_27 : decode cX12_feed 27 = .ok (.ldc 72, 2) := by decide +kernel
theorem dX12_feed_29 : decode cX12_feed 29 = .ok (.ireturn, 1) := by decide +kernel
theorem dX12_feed_30 : decode cX12_feed 30 = .ok (.iload_n 3, 1) := by decide +kernel
theorem dX12_feed_31 : decode cX12_feed 31 = .ok (.iconst 1, 1) := by decide +kernel
theorem dX12_feed_32 : decode cX12_feed 32 = .ok (.isub, 1) := by decide +kernel
theorem dX12_feed_33 : decode cX12_feed 33 = .ok (.istore 4, 2) := by decide +kernel
theorem dX12_feed_35 : decode cX12_feed 35 = .ok (.iload 4, 2) := by decide +kernel
theorem dX12_feed_37 : decode cX12_feed 37 = .ok (.ifCond .lt 40, 3) := by decide +kernel
theorem dX12_feed_40 : decode cX12_feed 40 = .ok (.aload_n 0, 1) := by decide +kernel
theorem dX12_feed_41 : decode cX12_feed 41 = .ok (.getfield 26, 3) := by decide +kernel
theorem dX12_feed_44 : decode cX12_feed 44 = .ok (.aload_n 0, 1) := by decide +kernel
theorem dX12_feed_45 : decode cX12_feed 45 = .ok (.getfield 69, 3) := by decide +kernel
theorem dX12_feed_48 : decode cX12_feed 48 = .ok (.lload_n 1, 1) := by decide +kernel
theorem dX12_feed_49 : decode cX12_feed 49 = .ok (.bipush 8, 2) := by decide +kernel
theorem dX12_feed_51 : decode cX12_feed 51 = .ok (.iload 4, 2) := by decide +kernel
theorem dX12_feed_53 : decode cX12_feed 53 = .ok (.imul, 1) := by decide +kernel
theorem dX12_feed_54 : decode cX12_feed 54 = .ok (.lshr, 1) := by decide +kernel
theorem dX12_feed_55 : decode cX12_feed 55 = .ok (.ldc2_w 73, 3) := by decide +kernel
theorem dX12_feed_58 : decode cX12_feed 58 = .ok (.land, 1) := by decide +kernel
theorem dX12_feed_59 : decode cX12_feed 59 = .ok (.l2i, 1) := by decide +kernel
theorem dX12_feed_60 : decode cX12_feed 60 = .ok (.iastore, 1) := by decide +kernel
theorem dX12_feed_61 : decode cX12_feed 61 = .ok (.aload_n 0, 1) := by decide +kernel
theorem dX12_feed_62 : decode cX12_feed 62 = .ok (.dup, 1) := by decide +kernel
theorem dX12_feed_63 : decode cX12_feed 63 = .ok (.getfield 69, 3) := by decide +kernel
theorem dX12_feed_66 : decode cX12_feed 66 = .ok (.iconst 1, 1) := by decide +kernel
theorem dX12_feed_67 : decode cX12_feed 67 = .ok (.iadd, 1) := by decide +kernel
theorem dX12_feed_68 : decode cX12_feed 68 = .ok (.putfield 69, 3) := by decide +kernel
theorem dX12_feed_71 : decode cX12_feed 71 = .ok (.iinc 4 (-1), 3) := by decide +kernel
theorem dX12_feed_74 : decode cX12_feed 74 = .ok (.goto (-39), 3) := by decide +kernel
theorem dX12_feed_77 : decode cX12_feed 77 = .ok (.aload_n 0, 1) := by decide +kernel
theorem dX12_feed_78 : decode cX12_feed 78 = .ok (.getfield 69, 3) := by decide +kernel
theorem dX12_feed_81 : decode cX12_feed 81 = .ok (.ireturn, 1) := by decide +kernel
theorem dX12_next_0 : decode cX12_next 0 = .ok (.aload_n 0, 1) := by decide +kernel
theorem dX12_next_1 : decode cX12_next 1 = .ok (.getfield 75, 3) := by decide +kernel
theorem dX12_next_4 : decode cX12_next 4 = .ok (.aload_n 0, 1) := by decide +kernel
theorem dX12_next_5 : decode cX12_next 5 = .ok (.getfield 69, 3) := by decide +kernel
theorem dX12_next_8 : decode cX12_next 8 = .ok (.if_icmp .ge 44, 3) := by decide +kernel
theorem dX12_next_11 : decode cX12_next 11 = .ok (.aload_n 0, 1) := by decide +kernel
theorem dX12_next_12 : decode cX12_next 12 = .ok (.getfield 26, 3) := by decide +kernel
theorem dX12_next_15 : decode cX12_next 15 = .ok (.aload_n 0, 1) := by decide +kernel
theorem dX12_next_16 : decode cX12_next 16 = .ok (.getfield 75, 3) := by decide +kernel
theorem dX12_next_19 : decode cX12_next 19 = .ok (.iaload, 1) := by decide +kernel
theorem dX12_next_20 : decode cX12_next 20 = .ok (.bipush 32, 2) := by decide +kernel
theorem dX12_next_22 : decode cX12_next 22 = .ok (.if_icmp .eq 17, 3) := by decide +kernel
theorem dX12_next_25 : decode cX12_next 25 = .ok (.aload_n 0, 1) := by decide +kernel
theorem dX12_next_26 : decode cX12_next 26 = .ok (.getfield 26, 3) := by decide +kernel
theorem dX12_next_29 : decode cX12_next 29 = .ok (.aload_n 0, 1) := by decide +kernel
theorem dX12_next_30 : decode cX12_next 30 = .ok (.getfield 75, 3) := by decide +kernel
theorem dX12_next_33 : decode cX12_next 33 = .ok (.iaload, 1) := by decide +kernel
theorem dX12_next_34 : decode cX12_next 34 = .ok (.bipush 10, 2) := by decide +kernel
theorem dX12_next_36 : decode cX12_next 36 = .ok (.if_icmp .ne 16, 3) := by decide +kernel
theorem dX12_next_39 : decode cX12_next 39 = .ok (.aload_n 0, 1) := by decide +kernel
theorem dX12_next_40 : decode cX12_next 40 = .ok (.dup, 1) := by decide +kernel
theorem dX12_next_41 : decode cX12_next 41 = .ok (.getfield 75, 3) := by decide +kernel
theorem dX12_next_44 : decode cX12_next 44 = .ok (.iconst 1, 1) := by decide +kernel
theorem dX12_next_45 : decode cX12_next 45 = .ok (.iadd, 1) := by decide +kernel
theorem dX12_next_46 : decode cX12_next 46 = .ok (.putfield 75, 3) := by decide +kernel
theorem dX12_next_49 : decode cX12_next 49 = .ok (.goto (-49), 3) := by decide +kernel
theorem dX12_next_52 : decode cX12_next 52 = .ok (.aload_n 0, 1) := by decide +kernel
theorem dX12_next_53 : decode cX12_next 53 = .ok (.aload_n 0, 1) := by decide +kernel
theorem dX12_next_54 : decode cX12_next 54 = .ok (.getfield 75, 3) := by decide +kernel
theorem dX12_next_57 : decode cX12_next 57 = .ok (.putfield 78, 3) := by decide +kernel
theorem dX12_next_60 : decode cX12_next 60 = .ok (.aload_n 0, 1) := by decide +kernel
theorem dX12_next_61 : decode cX12_next 61 = .ok (.aload_n 0, 1) := by decide +kernel
theorem dX12_next_62 : decode cX12_next 62 = .ok (.getfield 75, 3) := by decide +kernel
theorem dX12_next_65 : decode cX12_next 65 = .ok (.aload_n 0, 1) := by decide +kernel
theorem dX12_next_66 : decode cX12_next 66 = .ok (.getfield 69, 3) := by decide +kernel
theorem dX12_next_69 : decode cX12_next 69 = .ok (.if_icmp .ne 7, 3) := by decide +kernel
theorem dX12_next_72 : decode cX12_next 72 = .ok (.iconst 4, 1) := by decide +kernel
theorem dX12_next_73 : decode cX12_next 73 = .ok (.goto 22, 3) := by decide +kernel
theorem dX12_next_76 : decode cX12_next 76 = .ok (.aload_n 0, 1) := by decide +kernel
theorem dX12_next_77 : decode cX12_next 77 = .ok (.getfield 26, 3) := by decide +kernel
theorem dX12_next_80 : decode cX12_next 80 = .ok (.aload_n 0, 1) := by decide +kernel
theorem dX12_next_81 : decode cX12_next 81 = .ok (.getfield 75, 3) := by decide +kernel
theorem dX12_next_84 : decode cX12_next 84 = .ok (.iaload, 1) := by decide +kernel
theorem dX12_next_85 : decode cX12_next 85 = .ok (.bipush 59, 2) := by decide +kernel
theorem dX12_next_87 : decode cX12_next 87 = .ok (.if_icmp .ne 7, 3) := by decide +kernel
theorem dX12_next_90 : decode cX12_next 90 = .ok (.iconst 2, 1) := by decide +kernel
theorem dX12_next_91 : decode cX12_next 91 = .ok (.goto 4, 3) := by decide +kernel
theorem dX12_next_94 : decode cX12_next 94 = .ok (.iconst 3, 1) := by decide +kernel
theorem dX12_next_95 : decode cX12_next 95 = .ok (.putfield 81, 3) := by decide +kernel
theorem dX12_next_98 : decode cX12_next 98 = .ok (.aload_n 0, 1) := by decide +kernel
theorem dX12_next_99 : decode cX12_next 99 = .ok (.lconst 0, 1) := by decide +kernel
theorem dX12_next_100 : decode cX12_next 100 = .ok (.putfield 84, 3) := by decide +kernel
theorem dX12_next_103 : decode cX12_next 103 = .ok (.aload_n 0, 1) := by decide +kernel
theorem dX12_next_104 : decode cX12_next 104 = .ok (.iconst 0, 1) := by decide +kernel
theorem dX12_next_105 : decode cX12_next 105 = .ok (.putfield 88, 3) := by decide +kernel
theorem dX12_next_108 : decode cX12_next 108 = .ok (.aload_n 0, 1) := by decide +kernel
theorem dX12_next_109 : decode cX12_next 109 = .ok (.getfield 75, 3) := by decide +kernel
theorem dX12_next_112 : decode cX12_next 112 = .ok (.aload_n 0, 1) := by decide +kernel
theorem dX12_next_113 : decode cX12_next 113 = .ok (.getfield 69, 3) := by decide +kernel
theorem dX12_next_116 : decode cX12_next 116 = .ok (.if_icmp .ge 90, 3) := by decide +kernel
theorem dX12_next_119 : decode cX12_next 119 = .ok (.aload_n 0, 1) := by decide +kernel
theorem dX12_next_120 : decode cX12_next 120 = .ok (.getfield 26, 3) := by decide +kernel
theorem dX12_next_123 : decode cX12_next 123 = .ok (.aload_n 0, 1) := by decide +kernel
theorem dX12_next_124 : decode cX12_next 124 = .ok (.getfield 75, 3) := by decide +kernel
theorem dX12_next_127 : decode cX12_next 127 = .ok (.iaload, 1) := by decide +kernel
theorem dX12_next_128 : decode cX12_next 128 = .ok (.i2l, 1) := by decide +kernel
theorem dX12_next_129 : decode cX12_next 129 = .ok (.ldc2_w 91, 3) := by decide +kernel
theorem dX12_next_132 : decode cX12_next 132 = .ok (.ldc2_w 93, 3) := by decide +kernel
theorem dX12_next_135 : decode cX12_next 135 = .ok (.invokestatic 40, 3) := by decide +kernel
theorem dX12_next_138 : decode cX12_next 138 = .ok (.ifCond .eq 68, 3) := by decide +kernel
theorem dX12_next_141 : decode cX12_next 141 = .ok (.aload_n 0, 1) := by decide +kernel
theorem dX12_next_142 : decode cX12_next 142 = .ok (.aload_n 0, 1) := by decide +kernel
theorem dX12_next_143 : decode cX12_next 143 = .ok (.getfield 75, 3) := by decide +kernel
theorem dX12_next_146 : decode cX12_next 146 = .ok (.aload_n 0, 1) := by decide +kernel
theorem dX12_next_147 : decode cX12_next 147 = .ok (.getfield 78, 3) := by decide +kernel
theorem dX12_next_150 : decode cX12_next 150 = .ok (.isub, 1) := by decide +kernel
theorem dX12_next_151 : decode cX12_next 151 = .ok (.bipush 9, 2) := by decide +kernel
theorem dX12_next_153 : decode cX12_next 153 = .ok (.if_icmp .ge 29, 3) := by decide +kernel
