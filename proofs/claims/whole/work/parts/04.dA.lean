theorem dX0_init_0 : decode cX0_init 0 = .ok (.aload_n 0, 1) := by decide +kernel
theorem dX0_init_1 : decode cX0_init 1 = .ok (.invokespecial 3, 3) := by decide +kernel
theorem dX0_init_4 : decode cX0_init 4 = .ok (.aload_n 0, 1) := by decide +kernel
theorem dX0_init_5 : decode cX0_init 5 = .ok (.bipush 40, 2) := by decide +kernel
theorem dX0_init_7 : decode cX0_init 7 = .ok (.newarray .char, 2) := by decide +kernel
theorem dX0_init_9 : decode cX0_init 9 = .ok (.putfield 9, 3) := by decide +kernel
theorem dX0_init_12 : decode cX0_init 12 = .ok (.aload_n 0, 1) := by decide +kernel
theorem dX0_init_13 : decode cX0_init 13 = .ok (.iconst 4, 1) := by decide +kernel
theorem dX0_init_14 : decode cX0_init 14 = .ok (.bipush 40, 2) := by decide +kernel
theorem dX0_init_16 : decode cX0_init 16 = .ok (.multianewarray 15 2, 4) := by decide +kernel
theorem dX0_init_20 : decode cX0_init 20 = .ok (.putfield 17, 3) := by decide +kernel
theorem dX0_init_23 : decode cX0_init 23 = .ok (.aload_n 0, 1) := by decide +kernel
theorem dX0_init_24 : decode cX0_init 24 = .ok (.iconst 4, 1) := by decide +kernel
theorem dX0_init_25 : decode cX0_init 25 = .ok (.newarray .int, 2) := by decide +kernel
theorem dX0_init_27 : decode cX0_init 27 = .ok (.putfield 20, 3) := by decide +kernel
theorem dX0_init_30 : decode cX0_init 30 = .ok (.aload_n 0, 1) := by decide +kernel
theorem dX0_init_31 : decode cX0_init 31 = .ok (.iconst 4, 1) := by decide +kernel
theorem dX0_init_32 : decode cX0_init 32 = .ok (.newarray .int, 2) := by decide +kernel
theorem dX0_init_34 : decode cX0_init 34 = .ok (.putfield 24, 3) := by decide +kernel
theorem dX0_init_37 : decode cX0_init 37 = .ok (.aload_n 0, 1) := by decide +kernel
theorem dX0_init_38 : decode cX0_init 38 = .ok (.iconst 4, 1) := by decide +kernel
theorem dX0_init_39 : decode cX0_init 39 = .ok (.newarray .int, 2) := by decide +kernel
theorem dX0_init_41 : decode cX0_init 41 = .ok (.putfield 27, 3) := by decide +kernel
theorem dX0_init_44 : decode cX0_init 44 = .ok (.aload_n 0, 1) := by decide +kernel
theorem dX0_init_45 : decode cX0_init 45 = .ok (.iconst 0, 1) := by decide +kernel
theorem dX0_init_46 : decode cX0_init 46 = .ok (.putfield 30, 3) := by decide +kernel
theorem dX0_init_49 : decode cX0_init 49 = .ok (.iconst 0, 1) := by decide +kernel
theorem dX0_init_50 : decode cX0_init 50 = .ok (.istore_n 1, 1) := by decide +kernel
theorem dX0_init_51 : decode cX0_init 51 = .ok (.iload_n 1, 1) := by decide +kernel
theorem dX0_init_52 : decode cX0_init 52 = .ok (.bipush 40, 2) := by decide +kernel
theorem dX0_init_54 : decode cX0_init 54 = .ok (.if_icmp .ge 17, 3) := by decide +kernel
theorem dX0_init_57 : decode cX0_init 57 = .ok (.aload_n 0, 1) := by decide +kernel
theorem dX0_init_58 : decode cX0_init 58 = .ok (.getfield 9, 3) := by decide +kernel
theorem dX0_init_61 : decode cX0_init 61 = .ok (.iload_n 1, 1) := by decide +kernel
theorem dX0_init_62 : decode cX0_init 62 = .ok (.bipush 45, 2) := by decide +kernel
theorem dX0_init_64 : decode cX0_init 64 = .ok (.castore, 1) := by decide +kernel
theorem dX0_init_65 : decode cX0_init 65 = .ok (.iinc 1 1, 3) := by decide +kernel
theorem dX0_init_68 : decode cX0_init 68 = .ok (.goto (-17), 3) := by decide +kernel
theorem dX0_init_71 : decode cX0_init 71 = .ok (.return_, 1) := by decide +kernel
theorem dX0_follow_0 : decode cX0_follow 0 = .ok (.iconst 0, 1) := by decide +kernel
theorem dX0_follow_1 : decode cX0_follow 1 = .ok (.istore 4, 2) := by decide +kernel
theorem dX0_follow_3 : decode cX0_follow 3 = .ok (.iload 4, 2) := by decide +kernel
theorem dX0_follow_5 : decode cX0_follow 5 = .ok (.aload_n 1, 1) := by decide +kernel
theorem dX0_follow_6 : decode cX0_follow 6 = .ok (.getfield 34, 3) := by decide +kernel
theorem dX0_follow_9 : decode cX0_follow 9 = .ok (.if_icmp .ge 33, 3) := by decide +kernel
theorem dX0_follow_12 : decode cX0_follow 12 = .ok (.iload 4, 2) := by decide +kernel
theorem dX0_follow_14 : decode cX0_follow 14 = .ok (.iload_n 2, 1) := by decide +kernel
theorem dX0_follow_15 : decode cX0_follow 15 = .ok (.invokestatic 39, 3) := by decide +kernel
theorem dX0_follow_18 : decode cX0_follow 18 = .ok (.istore 5, 2) := by decide +kernel
theorem dX0_follow_20 : decode cX0_follow 20 = .ok (.aload_n 1, 1) := by decide +kernel
theorem dX0_follow_21 : decode cX0_follow 21 = .ok (.iload 5, 2) := by decide +kernel
theorem dX0_follow_23 : decode cX0_follow 23 = .ok (.invokevirtual 43, 3) := by decide +kernel
theorem dX0_follow_26 : decode cX0_follow 26 = .ok (.ifCond .ne 10, 3) := by decide +kernel
theorem dX0_follow_29 : decode cX0_follow 29 = .ok (.aload_n 0, 1) := by decide +kernel
theorem dX0_follow_30 : decode cX0_follow 30 = .ok (.iload 5, 2) := by decide +kernel
theorem dX0_follow_32 : decode cX0_follow 32 = .ok (.iload_n 3, 1) := by decide +kernel
theorem dX0_follow_33 : decode cX0_follow 33 = .ok (.invokevirtual 47, 3) := by decide +kernel
theorem dX0_follow_36 : decode cX0_follow 36 = .ok (.iinc 4 1, 3) := by decide +kernel
theorem dX0_follow_39 : decode cX0_follow 39 = .ok (.goto (-36), 3) := by decide +kernel
theorem dX0_follow_42 : decode cX0_follow 42 = .ok (.aload_n 0, 1) := by decide +kernel
theorem dX0_follow_43 : decode cX0_follow 43 = .ok (.iload_n 3, 1) := by decide +kernel
theorem dX0_follow_44 : decode cX0_follow 44 = .ok (.invokevirtual 51, 3) := by decide +kernel
theorem dX0_follow_47 : decode cX0_follow 47 = .ok (.iconst 0, 1) := by decide +kernel
theorem dX0_follow_48 : decode cX0_follow 48 = .ok (.istore 4, 2) := by decide +kernel
theorem dX0_follow_50 : decode cX0_follow 50 = .ok (.iload 4, 2) := by decide +kernel
theorem dX0_follow_52 : decode cX0_follow 52 = .ok (.aload_n 1, 1) := by decide +kernel
theorem dX0_follow_53 : decode cX0_follow 53 = .ok (.getfield 34, 3) := by decide +kernel
theorem dX0_follow_56 : decode cX0_follow 56 = .ok (.if_icmp .ge 50, 3) := by decide +kernel
theorem dX0_follow_59 : decode cX0_follow 59 = .ok (.iload 4, 2) := by decide +kernel
theorem dX0_follow_61 : decode cX0_follow 61 = .ok (.iload_n 2, 1) := by decide +kernel
theorem dX0_follow_62 : decode cX0_follow 62 = .ok (.invokestatic 39, 3) := by decide +kernel
theorem dX0_follow_65 : decode cX0_follow 65 = .ok (.istore 5, 2) := by decide +kernel
theorem dX0_follow_67 : decode cX0_follow 67 = .ok (.aload_n 1, 1) := by decide +kernel
theorem dX0_follow_68 : decode cX0_follow 68 = .ok (.iload 5, 2) := by decide +kernel
theorem dX0_follow_70 : decode cX0_follow 70 = .ok (.invokevirtual 43, 3) := by decide +kernel
theorem dX0_follow_73 : decode cX0_follow 73 = .ok (.ifCond .eq 27, 3) := by decide +kernel
theorem dX0_follow_76 : decode cX0_follow 76 = .ok (.aload_n 0, 1) := by decide +kernel
theorem dX0_follow_77 : decode cX0_follow 77 = .ok (.getfield 9, 3) := by decide +kernel
theorem dX0_follow_80 : decode cX0_follow 80 = .ok (.iload 5, 2) := by decide +kernel
theorem dX0_follow_82 : decode cX0_follow 82 = .ok (.caload, 1) := by decide +kernel
theorem dX0_follow_83 : decode cX0_follow 83 = .ok (.bipush 45, 2) := by decide +kernel
theorem dX0_follow_85 : decode cX0_follow 85 = .ok (.if_icmp .ne 15, 3) := by decide +kernel
theorem dX0_follow_88 : decode cX0_follow 88 = .ok (.aload_n 0, 1) := by decide +kernel
theorem dX0_follow_89 : decode cX0_follow 89 = .ok (.iload 5, 2) := by decide +kernel
theorem dX0_follow_91 : decode cX0_follow 91 = .ok (.iload_n 3, 1) := by decide +kernel
theorem dX0_follow_92 : decode cX0_follow 92 = .ok (.invokevirtual 55, 3) := by decide +kernel
theorem dX0_follow_95 : decode cX0_follow 95 = .ok (.aload_n 0, 1) := by decide +kernel
theorem dX0_follow_96 : decode cX0_follow 96 = .ok (.iload_n 3, 1) := by decide +kernel
theorem dX0_follow_97 : decode cX0_follow 97 = .ok (.invokevirtual 51, 3) := by decide +kernel
theorem dX0_follow_100 : decode cX0_follow 100 = .ok (.iinc 4 1, 3) := by decide +kernel
theorem dX0_follow_103 : decode cX0_follow 103 = .ok (.goto (-53), 3) := by decide +kernel
theorem dX0_follow_106 : decode cX0_follow 106 = .ok (.return_, 1) := by decide +kernel
theorem dX0_serve_0 : decode cX0_serve 0 = .ok (.iconst 0, 1) := by decide +kernel
theorem dX0_serve_1 : decode cX0_serve 1 = .ok (.istore_n 2, 1) := by decide +kernel
theorem dX0_serve_2 : decode cX0_serve 2 = .ok (.iload_n 2, 1) := by decide +kernel
theorem dX0_serve_3 : decode cX0_serve 3 = .ok (.aload_n 0, 1) := by decide +kernel
theorem dX0_serve_4 : decode cX0_serve 4 = .ok (.getfield 20, 3) := by decide +kernel
theorem dX0_serve_7 : decode cX0_serve 7 = .ok (.iload_n 1, 1) := by decide +kernel
theorem dX0_serve_8 : decode cX0_serve 8 = .ok (.iaload, 1) := by decide +kernel
theorem dX0_serve_9 : decode cX0_serve 9 = .ok (.if_icmp .ge 53, 3) := by decide +kernel
theorem dX0_serve_12 : decode cX0_serve 12 = .ok (.aload_n 0, 1) := by decide +kernel
theorem dX0_serve_13 : decode cX0_serve 13 = .ok (.getfield 24, 3) := by decide +kernel
theorem dX0_serve_16 : decode cX0_serve 16 = .ok (.iload_n 1, 1) := by decide +kernel
theorem dX0_serve_17 : decode cX0_serve 17 = .ok (.iaload, 1) := by decide +kernel
theorem dX0_serve_18 : decode cX0_serve 18 = .ok (.ifCond .le 44, 3) := by decide +kernel
theorem dX0_serve_21 : decode cX0_serve 21 = .ok (.aload_n 0, 1) := by decide +kernel
theorem dX0_serve_22 : decode cX0_serve 22 = .ok (.getfield 9, 3) := by decide +kernel
theorem dX0_serve_25 : decode cX0_serve 25 = .ok (.aload_n 0, 1) := by decide +kernel
theorem dX0_serve_26 : decode cX0_serve 26 = .ok (.getfield 17, 3) := by decide +kernel
theorem dX0_serve_29 : decode cX0_serve 29 = .ok (.iload_n 1, 1) := by decide +kernel
theorem dX0_serve_30 : decode cX0_serve 30 = .ok (.aaload, 1) := by decide +kernel
theorem dX0_serve_31 : decode cX0_serve 31 = .ok (.iload_n 2, 1) := by decide +kernel
theorem dX0_serve_32 : decode cX0_serve 32 = .ok (.iaload, 1) := by decide +kernel
theorem dX0_serve_33 : decode cX0_serve 33 = .ok (.bipush 111, 2) := by decide +kernel
theorem dX0_serve_35 : decode cX0_serve 35 = .ok (.castore, 1) := by decide +kernel
theorem dX0_serve_36 : decode cX0_serve 36 = .ok (.aload_n 0, 1) := by decide +kernel
theorem dX0_serve_37 : decode cX0_serve 37 = .ok (.getfield 24, 3) := by decide +kernel
theorem dX0_serve_40 : decode cX0_serve 40 = .ok (.iload_n 1, 1) := by decide +kernel
theorem dX0_serve_41 : decode cX0_serve 41 = .ok (.dup2, 1) := by decide +kernel
theorem dX0_serve_42 : decode cX0_serve 42 = .ok (.iaload, 1) := by decide +kernel
theorem dX0_serve_43 : decode cX0_serve 43 = .ok (.iconst 1, 1) := by decide +kernel
theorem dX0_serve_44 : decode cX0_serve 44 = .ok (.isub, 1) := by decide +kernel
theorem dX0_serve_45 : decode cX0_serve 45 = .ok (.iastore, 1) := by decide +kernel
theorem dX0_serve_46 : decode cX0_serve 46 = .ok (.aload_n 0, 1) := by decide +kernel
theorem dX0_serve_47 : decode cX0_serve 47 = .ok (.getfield 27, 3) := by decide +kernel
theorem dX0_serve_50 : decode cX0_serve 50 = .ok (.iload_n 1, 1) := by decide +kernel
theorem dX0_serve_51 : decode cX0_serve 51 = .ok (.dup2, 1) := by decide +kernel
theorem dX0_serve_52 : decode cX0_serve 52 = .ok (.iaload, 1) := by decide +kernel
theorem dX0_serve_53 : decode cX0_serve 53 = .ok (.iconst 1, 1) := by decide +kernel
theorem dX0_serve_54 : decode cX0_serve 54 = .ok (.iadd, 1) := by decide +kernel
theorem dX0_serve_55 : decode cX0_serve 55 = .ok (.iastore, 1) := by decide +kernel
theorem dX0_serve_56 : decode cX0_serve 56 = .ok (.iinc 2 1, 3) := by decide +kernel
theorem dX0_serve_59 : decode cX0_serve 59 = .ok (.goto (-57), 3) := by decide +kernel
theorem dX0_serve_62 : decode cX0_serve 62 = .ok (.aload_n 0, 1) := by decide +kernel
theorem dX0_serve_63 : decode cX0_serve 63 = .ok (.iload_n 1, 1) := by decide +kernel
theorem dX0_serve_64 : decode cX0_serve 64 = .ok (.iconst 0, 1) := by decide +kernel
theorem dX0_serve_65 : decode cX0_serve 65 = .ok (.iload_n 2, 1) := by decide +kernel
theorem dX0_serve_66 : decode cX0_serve 66 = .ok (.invokevirtual 58, 3) := by decide +kernel
theorem dX0_serve_69 : decode cX0_serve 69 = .ok (.return_, 1) := by decide +kernel
theorem dX0_isStockLeftOver_0 : decode cX0_isStockLeftOver 0 = .ok (.iconst 0, 1) := by decide +kernel
theorem dX0_isStockLeftOver_1 : decode cX0_isStockLeftOver 1 = .ok (.istore_n 1, 1) := by decide +kernel
theorem dX0_isStockLeftOver_2 : decode cX0_isStockLeftOver 2 = .ok (.iload_n 1, 1) := by decide +kernel
theorem dX0_isStockLeftOver_3 : decode cX0_isStockLeftOver 3 = .ok (.iconst 4, 1) := by decide +kernel
theorem dX0_isStockLeftOver_4 : decode cX0_isStockLeftOver 4 = .ok (.if_icmp .ge 29, 3) := by decide +kernel
theorem dX0_isStockLeftOver_7 : decode cX0_isStockLeftOver 7 = .ok (.aload_n 0, 1) := by decide +kernel
theorem dX0_isStockLeftOver_8 : decode cX0_isStockLeftOver 8 = .ok (.getfield 24, 3) := by decide +kernel
theorem dX0_isStockLeftOver_11 : decode cX0_isStockLeftOver 11 = .ok (.iload_n 1, 1) := by decide +kernel
theorem dX0_isStockLeftOver_12 : decode cX0_isStockLeftOver 12 = .ok (.iaload, 1) := by decide +kernel
theorem dX0_isStockLeftOver_13 : decode cX0_isStockLeftOver 13 = .ok (.ifCond .le 14, 3) := by decide +kernel
theorem dX0_isStockLeftOver_16 : decode cX0_isStockLeftOver 16 = .ok (.aload_n 0, 1) := by decide +kernel
theorem dX0_isStockLeftOver_17 : decode cX0_isStockLeftOver 17 = .ok (.getfield 20, 3) := by decide +kernel
theorem dX0_isStockLeftOver_20 : decode cX0_isStockLeftOver 20 = .ok (.iload_n 1, 1) := by decide +kernel
theorem dX0_isStockLeftOver_21 : decode cX0_isStockLeftOver 21 = .ok (.iaload, 1) := by decide +kernel
theorem dX0_isStockLeftOver_22 : decode cX0_isStockLeftOver 22 = .ok (.ifCond .le 5, 3) := by decide +kernel
theorem dX0_isStockLeftOver_25 : decode cX0_isStockLeftOver 25 = .ok (.iconst 0, 1) := by decide +kernel
theorem dX0_isStockLeftOver_26 : decode cX0_isStockLeftOver 26 = .ok (.ireturn, 1) := by decide +kernel
theorem dX0_isStockLeftOver_27 : decode cX0_isStockLeftOver 27 = .ok (.iinc 1 1, 3) := by decide +kernel
theorem dX0_isStockLeftOver_30 : decode cX0_isStockLeftOver 30 = .ok (.goto (-28), 3) := by decide +kernel
theorem dX0_isStockLeftOver_33 : decode cX0_isStockLeftOver 33 = .ok (.iconst 1, 1) := by decide +kernel
theorem dX0_isStockLeftOver_34 : decode cX0_isStockLeftOver 34 = .ok (.ireturn, 1) := by decide +kernel
theorem dX0_takeAway_0 : decode cX0_takeAway 0 = .ok (.aload_n 0, 1) := by decide +kernel
theorem dX0_takeAway_1 : decode cX0_takeAway 1 = .ok (.getfield 9, 3) := by decide +kernel
theorem dX0_takeAway_4 : decode cX0_takeAway 4 = .ok (.iload_n 1, 1) := by decide +kernel
theorem dX0_takeAway_5 : decode cX0_takeAway 5 = .ok (.caload, 1) := by decide +kernel
theorem dX0_takeAway_6 : decode cX0_takeAway 6 = .ok (.bipush 111, 2) := by decide +kernel
theorem dX0_takeAway_8 : decode cX0_takeAway 8 = .ok (.if_icmp .ne 36, 3) := by decide +kernel
theorem dX0_takeAway_11 : decode cX0_takeAway 11 = .ok (.aload_n 0, 1) := by decide +kernel
theorem dX0_takeAway_12 : decode cX0_takeAway 12 = .ok (.dup, 1) := by decide +kernel
theorem dX0_takeAway_13 : decode cX0_takeAway 13 = .ok (.getfield 30, 3) := by decide +kernel
theorem dX0_takeAway_16 : decode cX0_takeAway 16 = .ok (.iconst 1, 1) := by decide +kernel
theorem dX0_takeAway_17 : decode cX0_takeAway 17 = .ok (.iadd, 1) := by decide +kernel
theorem dX0_takeAway_18 : decode cX0_takeAway 18 = .ok (.putfield 30, 3) := by decide +kernel
theorem dX0_takeAway_21 : decode cX0_takeAway 21 = .ok (.aload_n 0, 1) := by decide +kernel
theorem dX0_takeAway_22 : decode cX0_takeAway 22 = .ok (.getfield 24, 3) := by decide +kernel
theorem dX0_takeAway_25 : decode cX0_takeAway 25 = .ok (.iload_n 2, 1) := by decide +kernel
theorem dX0_takeAway_26 : decode cX0_takeAway 26 = .ok (.dup2, 1) := by decide +kernel
theorem dX0_takeAway_27 : decode cX0_takeAway 27 = .ok (.iaload, 1) := by decide +kernel
theorem dX0_takeAway_28 : decode cX0_takeAway 28 = .ok (.iconst 1, 1) := by decide +kernel
theorem dX0_takeAway_29 : decode cX0_takeAway 29 = .ok (.iadd, 1) := by decide +kernel
theorem dX0_takeAway_30 : decode cX0_takeAway 30 = .ok (.iastore, 1) := by decide +kernel
theorem dX0_takeAway_31 : decode cX0_takeAway 31 = .ok (.aload_n 0, 1) := by decide +kernel
theorem dX0_takeAway_32 : decode cX0_takeAway 32 = .ok (.getfield 27, 3) := by decide +kernel
theorem dX0_takeAway_35 : decode cX0_takeAway 35 = .ok (.iload_n 2, 1) := by decide +kernel
theorem dX0_takeAway_36 : decode cX0_takeAway 36 = .ok (.dup2, 1) := by decide +kernel
theorem dX0_takeAway_37 : decode cX0_takeAway 37 = .ok (.iaload, 1) := by decide +kernel
theorem dX0_takeAway_38 : decode cX0_takeAway 38 = .ok (.iconst 1, 1) := by decide +kernel
theorem dX0_takeAway_39 : decode cX0_takeAway 39 = .ok (.isub, 1) := by decide +kernel
theorem dX0_takeAway_40 : decode cX0_takeAway 40 = .ok (.iastore, 1) := by decide +kernel
theorem dX0_takeAway_41 : decode cX0_takeAway 41 = .ok (.goto 20, 3) := by decide +kernel
theorem dX0_takeAway_44 : decode cX0_takeAway 44 = .ok (.aload_n 0, 1) := by decide +kernel
theorem dX0_takeAway_45 : decode cX0_takeAway 45 = .ok (.getfield 9, 3) := by decide +kernel
theorem dX0_takeAway_48 : decode cX0_takeAway 48 = .ok (.iload_n 1, 1) := by decide +kernel
theorem dX0_takeAway_49 : decode cX0_takeAway 49 = .ok (.caload, 1) := by decide +kernel
theorem dX0_takeAway_50 : decode cX0_takeAway 50 = .ok (.bipush 113, 2) := by decide +kernel
theorem dX0_takeAway_52 : decode cX0_takeAway 52 = .ok (.if_icmp .ne 9, 3) := by decide +kernel
theorem dX0_takeAway_55 : decode cX0_takeAway 55 = .ok (.aload_n 0, 1) := by decide +kernel
theorem dX0_takeAway_56 : decode cX0_takeAway 56 = .ok (.iload_n 1, 1) := by decide +kernel
theorem dX0_takeAway_57 : decode cX0_takeAway 57 = .ok (.iload_n 2, 1) := by decide +kernel
theorem dX0_takeAway_58 : decode cX0_takeAway 58 = .ok (.invokevirtual 62, 3) := by decide +kernel
theorem dX0_takeAway_61 : decode cX0_takeAway 61 = .ok (.aload_n 0, 1) := by decide +kernel
theorem dX0_takeAway_62 : decode cX0_takeAway 62 = .ok (.getfield 9, 3) := by decide +kernel
theorem dX0_takeAway_65 : decode cX0_takeAway 65 = .ok (.iload_n 1, 1) := by decide +kernel
theorem dX0_takeAway_66 : decode cX0_takeAway 66 = .ok (.bipush 45, 2) := by decide +kernel
theorem dX0_takeAway_68 : decode cX0_takeAway 68 = .ok (.castore, 1) := by decide +kernel
theorem dX0_takeAway_69 : decode cX0_takeAway 69 = .ok (.return_, 1) := by decide +kernel
theorem dX0_enqueue_0 : decode cX0_enqueue 0 = .ok (.aload_n 0, 1) := by decide +kernel
theorem dX0_enqueue_1 : decode cX0_enqueue 1 = .ok (.getfield 20, 3) := by decide +kernel
theorem dX0_enqueue_4 : decode cX0_enqueue 4 = .ok (.iload_n 2, 1) := by decide +kernel
theorem dX0_enqueue_5 : decode cX0_enqueue 5 = .ok (.iaload, 1) := by decide +kernel
theorem dX0_enqueue_6 : decode cX0_enqueue 6 = .ok (.bipush 40, 2) := by decide +kernel
theorem dX0_enqueue_8 : decode cX0_enqueue 8 = .ok (.if_icmp .ge 35, 3) := by decide +kernel
theorem dX0_enqueue_11 : decode cX0_enqueue 11 = .ok (.aload_n 0, 1) := by decide +kernel
theorem dX0_enqueue_12 : decode cX0_enqueue 12 = .ok (.getfield 17, 3) := by decide +kernel
theorem dX0_enqueue_15 : decode cX0_enqueue 15 = .ok (.iload_n 2, 1) := by decide +kernel
theorem dX0_enqueue_16 : decode cX0_enqueue 16 = .ok (.aaload, 1) := by decide +kernel
theorem dX0_enqueue_17 : decode cX0_enqueue 17 = .ok (.aload_n 0, 1) := by decide +kernel
theorem dX0_enqueue_18 : decode cX0_enqueue 18 = .ok (.getfield 20, 3) := by decide +kernel
theorem dX0_enqueue_21 : decode cX0_enqueue 21 = .ok (.iload_n 2, 1) := by decide +kernel
theorem dX0_enqueue_22 : decode cX0_enqueue 22 = .ok (.iaload, 1) := by decide +kernel
theorem dX0_enqueue_23 : decode cX0_enqueue 23 = .ok (.iload_n 1, 1) := by decide +kernel
theorem dX0_enqueue_24 : decode cX0_enqueue 24 = .ok (.iastore, 1) := by decide +kernel
theorem dX0_enqueue_25 : decode cX0_enqueue 25 = .ok (.aload_n 0, 1) := by decide +kernel
theorem dX0_enqueue_26 : decode cX0_enqueue 26 = .ok (.getfield 20, 3) := by decide +kernel
theorem dX0_enqueue_29 : decode cX0_enqueue 29 = .ok (.iload_n 2, 1) := by decide +kernel
theorem dX0_enqueue_30 : decode cX0_enqueue 30 = .ok (.dup2, 1) := by decide +kernel
theorem dX0_enqueue_31 : decode cX0_enqueue 31 = .ok (.iaload, 1) := by decide +kernel
theorem dX0_enqueue_32 : decode cX0_enqueue 32 = .ok (.iconst 1, 1) := by decide +kernel
theorem dX0_enqueue_33 : decode cX0_enqueue 33 = .ok (.iadd, 1) := by decide +kernel
theorem dX0_enqueue_34 : decode cX0_enqueue 34 = .ok (.iastore, 1) := by decide +kernel
theorem dX0_enqueue_35 : decode cX0_enqueue 35 = .ok (.aload_n 0, 1) := by decide +kernel
theorem dX0_enqueue_36 : decode cX0_enqueue 36 = .ok (.getfield 9, 3) := by decide +kernel
theorem dX0_enqueue_39 : decode cX0_enqueue 39 = .ok (.iload_n 1, 1) := by decide +kernel
theorem dX0_enqueue_40 : decode cX0_enqueue 40 = .ok (.bipush 113, 2) := by decide +kernel
theorem dX0_enqueue_42 : decode cX0_enqueue 42 = .ok (.castore, 1) := by decide +kernel
theorem dX0_enqueue_43 : decode cX0_enqueue 43 = .ok (.return_, 1) := by decide +kernel
theorem dX0_leaveQueue_0 : decode cX0_leaveQueue 0 = .ok (.iconst 0, 1) := by decide +kernel
theorem dX0_leaveQueue_1 : decode cX0_leaveQueue 1 = .ok (.istore_n 3, 1) := by decide +kernel
theorem dX0_leaveQueue_2 : decode cX0_leaveQueue 2 = .ok (.iload_n 3, 1) := by decide +kernel
theorem dX0_leaveQueue_3 : decode cX0_leaveQueue 3 = .ok (.aload_n 0, 1) := by decide +kernel
theorem dX0_leaveQueue_4 : decode cX0_leaveQueue 4 = .ok (.getfield 20, 3) := by decide +kernel
theorem dX0_leaveQueue_7 : decode cX0_leaveQueue 7 = .ok (.iload_n 2, 1) := by decide +kernel
theorem dX0_leaveQueue_8 : decode cX0_leaveQueue 8 = .ok (.iaload, 1) := by decide +kernel
theorem dX0_leaveQueue_9 : decode cX0_leaveQueue 9 = .ok (.if_icmp .ge 29, 3) := by decide +kernel
theorem dX0_leaveQueue_12 : decode cX0_leaveQueue 12 = .ok (.aload_n 0, 1) := by decide +kernel
theorem dX0_leaveQueue_13 : decode cX0_leaveQueue 13 = .ok (.getfield 17, 3) := by decide +kernel
theorem dX0_leaveQueue_16 : decode cX0_leaveQueue 16 = .ok (.iload_n 2, 1) := by decide +kernel
theorem dX0_leaveQueue_17 : decode cX0_leaveQueue 17 = .ok (.aaload, 1) := by decide +kernel
theorem dX0_leaveQueue_18 : decode cX0_leaveQueue 18 = .ok (.iload_n 3, 1) := by decide +kernel
theorem dX0_leaveQueue_19 : decode cX0_leaveQueue 19 = .ok (.iaload, 1) := by decide +kernel
theorem dX0_leaveQueue_20 : decode cX0_leaveQueue 20 = .ok (.iload_n 1, 1) := by decide +kernel
theorem dX0_leaveQueue_21 : decode cX0_leaveQueue 21 = .ok (.if_icmp .ne 11, 3) := by decide +kernel
theorem dX0_leaveQueue_24 : decode cX0_leaveQueue 24 = .ok (.aload_n 0, 1) := by decide +kernel
theorem dX0_leaveQueue_25 : decode cX0_leaveQueue 25 = .ok (.iload_n 2, 1) := by decide +kernel
theorem dX0_leaveQueue_26 : decode cX0_leaveQueue 26 = .ok (.iload_n 3, 1) := by decide +kernel
theorem dX0_leaveQueue_27 : decode cX0_leaveQueue 27 = .ok (.iconst 1, 1) := by decide +kernel
theorem dX0_leaveQueue_28 : decode cX0_leaveQueue 28 = .ok (.invokevirtual 58, 3) := by decide +kernel
theorem dX0_leaveQueue_31 : decode cX0_leaveQueue 31 = .ok (.return_, 1) := by decide +kernel
theorem dX0_leaveQueue_32 : decode cX0_leaveQueue 32 = .ok (.iinc 3 1, 3) := by decide +kernel
theorem dX0_leaveQueue_35 : decode cX0_leaveQueue 35 = .ok (.goto (-33), 3) := by decide +kernel
theorem dX0_leaveQueue_38 : decode cX0_leaveQueue 38 = .ok (.return_, 1) := by decide +kernel
theorem dX0_dropFromQueue_0 : decode cX0_dropFromQueue 0 = .ok (.iload_n 3, 1) := by decide +kernel
theorem dX0_dropFromQueue_1 : decode cX0_dropFromQueue 1 = .ok (.ifCond .ne 4, 3) := by decide +kernel
theorem dX0_dropFromQueue_4 : decode cX0_dropFromQueue 4 = .ok (.return_, 1) := by decide +kernel
theorem dX0_dropFromQueue_5 : decode cX0_dropFromQueue 5 = .ok (.aload_n 0, 1) := by decide +kernel
theorem dX0_dropFromQueue_6 : decode cX0_dropFromQueue 6 = .ok (.getfield 17, 3) := by decide +kernel
theorem dX0_dropFromQueue_9 : decode cX0_dropFromQueue 9 = .ok (.iload_n 1, 1) := by decide +kernel
theorem dX0_dropFromQueue_10 : decode cX0_dropFromQueue 10 = .ok (.aaload, 1) := by decide +kernel
theorem dX0_dropFromQueue_11 : decode cX0_dropFromQueue 11 = .ok (.astore 4, 2) := by decide +kernel
theorem dX0_dropFromQueue_13 : decode cX0_dropFromQueue 13 = .ok (.iload_n 2, 1) := by decide +kernel
theorem dX0_dropFromQueue_14 : decode cX0_dropFromQueue 14 = .ok (.istore 5, 2) := by decide +kernel
theorem dX0_dropFromQueue_16 : decode cX0_dropFromQueue 16 = .ok (.iload 5, 2) := by decide +kernel
theorem dX0_dropFromQueue_18 : decode cX0_dropFromQueue 18 = .ok (.iload_n 3, 1) := by decide +kernel
theorem dX0_dropFromQueue_19 : decode cX0_dropFromQueue 19 = .ok (.iadd, 1) := by decide +kernel
theorem dX0_dropFromQueue_20 : decode cX0_dropFromQueue 20 = .ok (.aload_n 0, 1) := by decide +kernel
theorem dX0_dropFromQueue_21 : decode cX0_dropFromQueue 21 = .ok (.getfield 20, 3) := by decide +kernel
theorem dX0_dropFromQueue_24 : decode cX0_dropFromQueue 24 = .ok (.iload_n 1, 1) := by decide +kernel
theorem dX0_dropFromQueue_25 : decode cX0_dropFromQueue 25 = .ok (.iaload, 1) := by decide +kernel
theorem dX0_dropFromQueue_26 : decode cX0_dropFromQueue 26 = .ok (.if_icmp .ge 21, 3) := by decide +kernel
theorem dX0_dropFromQueue_29 : decode cX0_dropFromQueue 29 = .ok (.aload 4, 2) := by decide +kernel
theorem dX0_dropFromQueue_31 : decode cX0_dropFromQueue 31 = .ok (.iload 5, 2) := by decide +kernel
theorem dX0_dropFromQueue_33 : decode cX0_dropFromQueue 33 = .ok (.aload 4, 2) := by decide +kernel
theorem dX0_dropFromQueue_35 : decode cX0_dropFromQueue 35 = .ok (.iload 5, 2) := by decide +kernel
theorem dX0_dropFromQueue_37 : decode cX0_dropFromQueue 37 = .ok (.iload_n 3, 1) := by decide +kernel
theorem dX0_dropFromQueue_38 : decode cX0_dropFromQueue 38 = .ok (.iadd, 1) := by decide +kernel
theorem dX0_dropFromQueue_39 : decode cX0_dropFromQueue 39 = .ok (.iaload, 1) := by decide +kernel
theorem dX0_dropFromQueue_40 : decode cX0_dropFromQueue 40 = .ok (.iastore, 1) := by decide +kernel
theorem dX0_dropFromQueue_41 : decode cX0_dropFromQueue 41 = .ok (.iinc 5 1, 3) := by decide +kernel
theorem dX0_dropFromQueue_44 : decode cX0_dropFromQueue 44 = .ok (.goto (-28), 3) := by decide +kernel
theorem dX0_dropFromQueue_47 : decode cX0_dropFromQueue 47 = .ok (.aload_n 0, 1) := by decide +kernel
theorem dX0_dropFromQueue_48 : decode cX0_dropFromQueue 48 = .ok (.getfield 20, 3) := by decide +kernel
theorem dX0_dropFromQueue_51 : decode cX0_dropFromQueue 51 = .ok (.iload_n 1, 1) := by decide +kernel
theorem dX0_dropFromQueue_52 : decode cX0_dropFromQueue 52 = .ok (.dup2, 1) := by decide +kernel
theorem dX0_dropFromQueue_53 : decode cX0_dropFromQueue 53 = .ok (.iaload, 1) := by decide +kernel
theorem dX0_dropFromQueue_54 : decode cX0_dropFromQueue 54 = .ok (.iload_n 3, 1) := by decide +kernel
theorem dX0_dropFromQueue_55 : decode cX0_dropFromQueue 55 = .ok (.isub, 1) := by decide +kernel
theorem dX0_dropFromQueue_56 : decode cX0_dropFromQueue 56 = .ok (.iastore, 1) := by decide +kernel
theorem dX0_dropFromQueue_57 : decode cX0_dropFromQueue 57 = .ok (.return_, 1) := by decide +kernel
theorem dX1_init_0 : decode cX1_init 0 = .ok (.aload_n 0, 1) := by decide +kernel
theorem dX1_init_1 : decode cX1_init 1 = .ok (.invokespecial 3, 3) := by decide +kernel
theorem dX1_init_4 : decode cX1_init 4 = .ok (.aload_n 0, 1) := by decide +kernel
theorem dX1_init_5 : decode cX1_init 5 = .ok (.bipush 40, 2) := by decide +kernel
theorem dX1_init_7 : decode cX1_init 7 = .ok (.newarray .int, 2) := by decide +kernel
theorem dX1_init_9 : decode cX1_init 9 = .ok (.putfield 9, 3) := by decide +kernel
theorem dX1_init_12 : decode cX1_init 12 = .ok (.aload_n 0, 1) := by decide +kernel
theorem dX1_init_13 : decode cX1_init 13 = .ok (.bipush 40, 2) := by decide +kernel
theorem dX1_init_15 : decode cX1_init 15 = .ok (.newarray .int, 2) := by decide +kernel
theorem dX1_init_17 : decode cX1_init 17 = .ok (.putfield 15, 3) := by decide +kernel
theorem dX1_init_20 : decode cX1_init 20 = .ok (.aload_n 0, 1) := by decide +kernel
theorem dX1_init_21 : decode cX1_init 21 = .ok (.bipush 8, 2) := by decide +kernel
theorem dX1_init_23 : decode cX1_init 23 = .ok (.newarray .int, 2) := by decide +kernel
theorem dX1_init_25 : decode cX1_init 25 = .ok (.putfield 18, 3) := by decide +kernel
theorem dX1_init_28 : decode cX1_init 28 = .ok (.aload_n 0, 1) := by decide +kernel
theorem dX1_init_29 : decode cX1_init 29 = .ok (.bipush 8, 2) := by decide +kernel
theorem dX1_init_31 : decode cX1_init 31 = .ok (.newarray .int, 2) := by decide +kernel
theorem dX1_init_33 : decode cX1_init 33 = .ok (.putfield 21, 3) := by decide +kernel
theorem dX1_init_36 : decode cX1_init 36 = .ok (.aload_n 0, 1) := by decide +kernel
theorem dX1_init_37 : decode cX1_init 37 = .ok (.bipush 8, 2) := by decide +kernel
theorem dX1_init_39 : decode cX1_init 39 = .ok (.newarray .int, 2) := by decide +kernel
theorem dX1_init_41 : decode cX1_init 41 = .ok (.putfield 24, 3) := by decide +kernel
theorem dX1_init_44 : decode cX1_init 44 = .ok (.aload_n 0, 1) := by decide +kernel
theorem dX1_init_45 : decode cX1_init 45 = .ok (.bipush 8, 2) := by decide +kernel
theorem dX1_init_47 : decode cX1_init 47 = .ok (.newarray .int, 2) := by decide +kernel
theorem dX1_init_49 : decode cX1_init 49 = .ok (.putfield 27, 3) := by decide +kernel
theorem dX1_init_52 : decode cX1_init 52 = .ok (.aload_n 0, 1) := by decide +kernel
theorem dX1_init_53 : decode cX1_init 53 = .ok (.iconst 0, 1) := by decide +kernel
theorem dX1_init_54 : decode cX1_init 54 = .ok (.putfield 30, 3) := by decide +kernel
theorem dX1_init_57 : decode cX1_init 57 = .ok (.return_, 1) := by decide +kernel
theorem dX1_recount_0 : decode cX1_recount 0 = .ok (.aload_n 0, 1) := by decide +kernel
theorem dX1_recount_1 : decode cX1_recount 1 = .ok (.invokevirtual 34, 3) := by decide +kernel
theorem dX1_recount_4 : decode cX1_recount 4 = .ok (.aload_n 0, 1) := by decide +kernel
theorem dX1_recount_5 : decode cX1_recount 5 = .ok (.iload_n 3, 1) := by decide +kernel
theorem dX1_recount_6 : decode cX1_recount 6 = .ok (.putfield 30, 3) := by decide +kernel
theorem dX1_recount_9 : decode cX1_recount 9 = .ok (.iconst 0, 1) := by decide +kernel
theorem dX1_recount_10 : decode cX1_recount 10 = .ok (.istore 5, 2) := by decide +kernel
theorem dX1_recount_12 : decode cX1_recount 12 = .ok (.iload 5, 2) := by decide +kernel
theorem dX1_recount_14 : decode cX1_recount 14 = .ok (.iload_n 2, 1) := by decide +kernel
theorem dX1_recount_15 : decode cX1_recount 15 = .ok (.if_icmp .ge 39, 3) := by decide +kernel
theorem dX1_recount_18 : decode cX1_recount 18 = .ok (.iload 5, 2) := by decide +kernel
theorem dX1_recount_20 : decode cX1_recount 20 = .ok (.aload_n 1, 1) := by decide +kernel
theorem dX1_recount_21 : decode cX1_recount 21 = .ok (.arraylength, 1) := by decide +kernel
theorem dX1_recount_22 : decode cX1_recount 22 = .ok (.if_icmp .ge 32, 3) := by decide +kernel
theorem dX1_recount_25 : decode cX1_recount 25 = .ok (.iload 4, 2) := by decide +kernel
theorem dX1_recount_27 : decode cX1_recount 27 = .ok (.ifCond .eq 13, 3) := by decide +kernel
theorem dX1_recount_30 : decode cX1_recount 30 = .ok (.aload_n 1, 1) := by decide +kernel
theorem dX1_recount_31 : decode cX1_recount 31 = .ok (.iload 5, 2) := by decide +kernel
theorem dX1_recount_33 : decode cX1_recount 33 = .ok (.aaload, 1) := by decide +kernel
theorem dX1_recount_34 : decode cX1_recount 34 = .ok (.getfield 37, 3) := by decide +kernel
theorem dX1_recount_37 : decode cX1_recount 37 = .ok (.ifCond .ne 11, 3) := by decide +kernel
theorem dX1_recount_40 : decode cX1_recount 40 = .ok (.aload_n 0, 1) := by decide +kernel
theorem dX1_recount_41 : decode cX1_recount 41 = .ok (.aload_n 1, 1) := by decide +kernel
theorem dX1_recount_42 : decode cX1_recount 42 = .ok (.iload 5, 2) := by decide +kernel
theorem dX1_recount_44 : decode cX1_recount 44 = .ok (.aaload, 1) := by decide +kernel
theorem dX1_recount_45 : decode cX1_recount 45 = .ok (.invokevirtual 43, 3) := by decide +kernel
theorem dX1_recount_48 : decode cX1_recount 48 = .ok (.iinc 5 1, 3) := by decide +kernel
theorem dX1_recount_51 : decode cX1_recount 51 = .ok (.goto (-39), 3) := by decide +kernel
theorem dX1_recount_54 : decode cX1_recount 54 = .ok (.aload_n 0, 1) := by decide +kernel
theorem dX1_recount_55 : decode cX1_recount 55 = .ok (.invokevirtual 47, 3) := by decide +kernel
theorem dX1_recount_58 : decode cX1_recount 58 = .ok (.return_, 1) := by decide +kernel
theorem dX1_hasSolved_0 : decode cX1_hasSolved 0 = .ok (.aload_n 0, 1) := by decide +kernel
theorem dX1_hasSolved_1 : decode cX1_hasSolved 1 = .ok (.getfield 15, 3) := by decide +kernel
theorem dX1_hasSolved_4 : decode cX1_hasSolved 4 = .ok (.iload_n 1, 1) := by decide +kernel
theorem dX1_hasSolved_5 : decode cX1_hasSolved 5 = .ok (.iaload, 1) := by decide +kernel
theorem dX1_hasSolved_6 : decode cX1_hasSolved 6 = .ok (.iconst (-1), 1) := by decide +kernel
theorem dX1_hasSolved_7 : decode cX1_hasSolved 7 = .ok (.if_icmp .eq 7, 3) := by decide +kernel
theorem dX1_hasSolved_10 : decode cX1_hasSolved 10 = .ok (.iconst 1, 1) := by decide +kernel
theorem dX1_hasSolved_11 : decode cX1_hasSolved 11 = .ok (.goto 4, 3) := by decide +kernel
theorem dX1_hasSolved_14 : decode cX1_hasSolved 14 = .ok (.iconst 0, 1) := by decide +kernel
theorem dX1_hasSolved_15 : decode cX1_hasSolved 15 = .ok (.ireturn, 1) := by decide +kernel
theorem dX1_rankOf_0 : decode cX1_rankOf 0 = .ok (.iconst 0, 1) := by decide +kernel
theorem dX1_rankOf_1 : decode cX1_rankOf 1 = .ok (.istore_n 2, 1) := by decide +kernel
theorem dX1_rankOf_2 : decode cX1_rankOf 2 = .ok (.iload_n 2, 1) := by decide +kernel
theorem dX1_rankOf_3 : decode cX1_rankOf 3 = .ok (.aload_n 0, 1) := by decide +kernel
theorem dX1_rankOf_4 : decode cX1_rankOf 4 = .ok (.getfield 30, 3) := by decide +kernel
theorem dX1_rankOf_7 : decode cX1_rankOf 7 = .ok (.iconst 1, 1) := by decide +kernel
theorem dX1_rankOf_8 : decode cX1_rankOf 8 = .ok (.isub, 1) := by decide +kernel
theorem dX1_rankOf_9 : decode cX1_rankOf 9 = .ok (.if_icmp .ge 19, 3) := by decide +kernel
theorem dX1_rankOf_12 : decode cX1_rankOf 12 = .ok (.aload_n 0, 1) := by decide +kernel
theorem dX1_rankOf_13 : decode cX1_rankOf 13 = .ok (.getfield 27, 3) := by decide +kernel
theorem dX1_rankOf_16 : decode cX1_rankOf 16 = .ok (.iload_n 2, 1) := by decide +kernel
theorem dX1_rankOf_17 : decode cX1_rankOf 17 = .ok (.iaload, 1) := by decide +kernel
theorem dX1_rankOf_18 : decode cX1_rankOf 18 = .ok (.iload_n 1, 1) := by decide +kernel
theorem dX1_rankOf_19 : decode cX1_rankOf 19 = .ok (.if_icmp .eq 9, 3) := by decide +kernel
theorem dX1_rankOf_22 : decode cX1_rankOf 22 = .ok (.iinc 2 1, 3) := by decide +kernel
theorem dX1_rankOf_25 : decode cX1_rankOf 25 = .ok (.goto (-23), 3) := by decide +kernel
theorem dX1_rankOf_28 : decode cX1_rankOf 28 = .ok (.iload_n 2, 1) := by decide +kernel
theorem dX1_rankOf_29 : decode cX1_rankOf 29 = .ok (.iconst 1, 1) := by decide +kernel
theorem dX1_rankOf_30 : decode cX1_rankOf 30 = .ok (.iadd, 1) := by decide +kernel
theorem dX1_rankOf_31 : decode cX1_rankOf 31 = .ok (.ireturn, 1) := by decide +kernel
theorem dX1_isLike_0 : decode cX1_isLike 0 = .ok (.aload_n 0, 1) := by decide +kernel
theorem dX1_isLike_1 : decode cX1_isLike 1 = .ok (.getfield 30, 3) := by decide +kernel
theorem dX1_isLike_4 : decode cX1_isLike 4 = .ok (.aload_n 1, 1) := by decide +kernel
theorem dX1_isLike_5 : decode cX1_isLike 5 = .ok (.getfield 30, 3) := by decide +kernel
theorem dX1_isLike_8 : decode cX1_isLike 8 = .ok (.if_icmp .eq 5, 3) := by decide +kernel
theorem dX1_isLike_11 : decode cX1_isLike 11 = .ok (.iconst 0, 1) := by decide +kernel
theorem dX1_isLike_12 : decode cX1_isLike 12 = .ok (.ireturn, 1) := by decide +kernel
theorem dX1_isLike_13 : decode cX1_isLike 13 = .ok (.iconst 0, 1) := by decide +kernel
theorem dX1_isLike_14 : decode cX1_isLike 14 = .ok (.istore_n 2, 1) := by decide +kernel
theorem dX1_isLike_15 : decode cX1_isLike 15 = .ok (.iload_n 2, 1) := by decide +kernel
theorem dX1_isLike_16 : decode cX1_isLike 16 = .ok (.aload_n 0, 1) := by decide +kernel
theorem dX1_isLike_17 : decode cX1_isLike 17 = .ok (.getfield 30, 3) := by decide +kernel
theorem dX1_isLike_20 : decode cX1_isLike 20 = .ok (.if_icmp .ge 56, 3) := by decide +kernel
theorem dX1_isLike_23 : decode cX1_isLike 23 = .ok (.aload_n 0, 1) := by decide +kernel
theorem dX1_isLike_24 : decode cX1_isLike 24 = .ok (.getfield 27, 3) := by decide +kernel
theorem dX1_isLike_27 : decode cX1_isLike 27 = .ok (.iload_n 2, 1) := by decide +kernel
theorem dX1_isLike_28 : decode cX1_isLike 28 = .ok (.iaload, 1) := by decide +kernel
theorem dX1_isLike_29 : decode cX1_isLike 29 = .ok (.aload_n 1, 1) := by decide +kernel
theorem dX1_isLike_30 : decode cX1_isLike 30 = .ok (.getfield 27, 3) := by decide +kernel
theorem dX1_isLike_33 : decode cX1_isLike 33 = .ok (.iload_n 2, 1) := by decide +kernel
theorem dX1_isLike_34 : decode cX1_isLike 34 = .ok (.iaload, 1) := by decide +kernel
theorem dX1_isLike_35 : decode cX1_isLike 35 = .ok (.if_icmp .ne 33, 3) := by decide +kernel
theorem dX1_isLike_38 : decode cX1_isLike 38 = .ok (.aload_n 0, 1) := by decide +kernel
theorem dX1_isLike_39 : decode cX1_isLike 39 = .ok (.getfield 18, 3) := by decide +kernel
theorem dX1_isLike_42 : decode cX1_isLike 42 = .ok (.iload_n 2, 1) := by decide +kernel
theorem dX1_isLike_43 : decode cX1_isLike 43 = .ok (.iaload, 1) := by decide +kernel
theorem dX1_isLike_44 : decode cX1_isLike 44 = .ok (.aload_n 1, 1) := by decide +kernel
theorem dX1_isLike_45 : decode cX1_isLike 45 = .ok (.getfield 18, 3) := by decide +kernel
theorem dX1_isLike_48 : decode cX1_isLike 48 = .ok (.iload_n 2, 1) := by decide +kernel
theorem dX1_isLike_49 : decode cX1_isLike 49 = .ok (.iaload, 1) := by decide +kernel
theorem dX1_isLike_50 : decode cX1_isLike 50 = .ok (.if_icmp .ne 18, 3) := by decide +kernel
theorem dX1_isLike_53 : decode cX1_isLike 53 = .ok (.aload_n 0, 1) := by decide +kernel
theorem dX1_isLike_54 : decode cX1_isLike 54 = .ok (.getfield 21, 3) := by decide +kernel
theorem dX1_isLike_57 : decode cX1_isLike 57 = .ok (.iload_n 2, 1) := by decide +kernel
theorem dX1_isLike_58 : decode cX1_isLike 58 = .ok (.iaload, 1) := by decide +kernel
theorem dX1_isLike_59 : decode cX1_isLike 59 = .ok (.aload_n 1, 1) := by decide +kernel
theorem dX1_isLike_60 : decode cX1_isLike 60 = .ok (.getfield 21, 3) := by decide +kernel
theorem dX1_isLike_63 : decode cX1_isLike 63 = .ok (.iload_n 2, 1) := by decide +kernel
theorem dX1_isLike_64 : decode cX1_isLike 64 = .ok (.iaload, 1) := by decide +kernel
theorem dX1_isLike_65 : decode cX1_isLike 65 = .ok (.if_icmp .eq 5, 3) := by decide +kernel
theorem dX1_isLike_68 : decode cX1_isLike 68 = .ok (.iconst 0, 1) := by decide +kernel
theorem dX1_isLike_69 : decode cX1_isLike 69 = .ok (.ireturn, 1) := by decide +kernel
theorem dX1_isLike_70 : decode cX1_isLike 70 = .ok (.iinc 2 1, 3) := by decide +kernel
theorem dX1_isLike_73 : decode cX1_isLike 73 = .ok (.goto (-58), 3) := by decide +kernel
theorem dX1_isLike_76 : decode cX1_isLike 76 = .ok (.iconst 1, 1) := by decide +kernel
theorem dX1_isLike_77 : decode cX1_isLike 77 = .ok (.ireturn, 1) := by decide +kernel
theorem dX1_clear_0 : decode cX1_clear 0 = .ok (.iconst 0, 1) := by decide +kernel
theorem dX1_clear_1 : decode cX1_clear 1 = .ok (.istore_n 1, 1) := by decide +kernel
theorem dX1_clear_2 : decode cX1_clear 2 = .ok (.iload_n 1, 1) := by decide +kernel
theorem dX1_clear_3 : decode cX1_clear 3 = .ok (.bipush 40, 2) := by decide +kernel
theorem dX1_clear_5 : decode cX1_clear 5 = .ok (.if_icmp .ge 23, 3) := by decide +kernel
theorem dX1_clear_8 : decode cX1_clear 8 = .ok (.aload_n 0, 1) := by decide +kernel
theorem dX1_clear_9 : decode cX1_clear 9 = .ok (.getfield 9, 3) := by decide +kernel
theorem dX1_clear_12 : decode cX1_clear 12 = .ok (.iload_n 1, 1) := by decide +kernel
theorem dX1_clear_13 : decode cX1_clear 13 = .ok (.iconst 0, 1) := by decide +kernel
theorem dX1_clear_14 : decode cX1_clear 14 = .ok (.iastore, 1) := by decide +kernel
theorem dX1_clear_15 : decode cX1_clear 15 = .ok (.aload_n 0, 1) := by decide +kernel
theorem dX1_clear_16 : decode cX1_clear 16 = .ok (.getfield 15, 3) := by decide +kernel
theorem dX1_clear_19 : decode cX1_clear 19 = .ok (.iload_n 1, 1) := by decide +kernel
theorem dX1_clear_20 : decode cX1_clear 20 = .ok (.iconst (-1), 1) := by decide +kernel
theorem dX1_clear_21 : decode cX1_clear 21 = .ok (.iastore, 1) := by decide +kernel
theorem dX1_clear_22 : decode cX1_clear 22 = .ok (.iinc 1 1, 3) := by decide +kernel
theorem dX1_clear_25 : decode cX1_clear 25 = .ok (.goto (-23), 3) := by decide +kernel
theorem dX1_clear_28 : decode cX1_clear 28 = .ok (.iconst 0, 1) := by decide +kernel
theorem dX1_clear_29 : decode cX1_clear 29 = .ok (.istore_n 1, 1) := by decide +kernel
theorem dX1_clear_30 : decode cX1_clear 30 = .ok (.iload_n 1, 1) := by decide +kernel
theorem dX1_clear_31 : decode cX1_clear 31 = .ok (.bipush 8, 2) := by decide +kernel
theorem dX1_clear_33 : decode cX1_clear 33 = .ok (.if_icmp .ge 30, 3) := by decide +kernel
theorem dX1_clear_36 : decode cX1_clear 36 = .ok (.aload_n 0, 1) := by decide +kernel
theorem dX1_clear_37 : decode cX1_clear 37 = .ok (.getfield 18, 3) := by decide +kernel
theorem dX1_clear_40 : decode cX1_clear 40 = .ok (.iload_n 1, 1) := by decide +kernel
theorem dX1_clear_41 : decode cX1_clear 41 = .ok (.iconst 0, 1) := by decide +kernel
theorem dX1_clear_42 : decode cX1_clear 42 = .ok (.iastore, 1) := by decide +kernel
theorem dX1_clear_43 : decode cX1_clear 43 = .ok (.aload_n 0, 1) := by decide +kernel
theorem dX1_clear_44 : decode cX1_clear 44 = .ok (.getfield 21, 3) := by decide +kernel
theorem dX1_clear_47 : decode cX1_clear 47 = .ok (.iload_n 1, 1) := by decide +kernel
theorem dX1_clear_48 : decode cX1_clear 48 = .ok (.iconst 0, 1) := by decide +kernel
theorem dX1_clear_49 : decode cX1_clear 49 = .ok (.iastore, 1) := by decide +kernel
theorem dX1_clear_50 : decode cX1_clear 50 = .ok (.aload_n 0, 1) := by decide +kernel
theorem dX1_clear_51 : decode cX1_clear 51 = .ok (.getfield 24, 3) := by decide +kernel
theorem dX1_clear_54 : decode cX1_clear 54 = .ok (.iload_n 1, 1) := by decide +kernel
theorem dX1_clear_55 : decode cX1_clear 55 = .ok (.iconst 0, 1) := by decide +kernel
theorem dX1_clear_56 : decode cX1_clear 56 = .ok (.iastore, 1) := by decide +kernel
theorem dX1_clear_57 : decode cX1_clear 57 = .ok (.iinc 1 1, 3) := by decide +kernel
theorem dX1_clear_60 : decode cX1_clear 60 = .ok (.goto (-30), 3) := by decide +kernel
theorem dX1_clear_63 : decode cX1_clear 63 = .ok (.return_, 1) := by decide +kernel
theorem dX1_count_0 : decode cX1_count 0 = .ok (.aload_n 1, 1) := by decide +kernel
theorem dX1_count_1 : decode cX1_count 1 = .ok (.getfield 50, 3) := by decide +kernel
theorem dX1_count_4 : decode cX1_count 4 = .ok (.aload_n 1, 1) := by decide +kernel
theorem dX1_count_5 : decode cX1_count 5 = .ok (.getfield 53, 3) := by decide +kernel
theorem dX1_count_8 : decode cX1_count 8 = .ok (.invokestatic 56, 3) := by decide +kernel
theorem dX1_count_11 : decode cX1_count 11 = .ok (.istore_n 2, 1) := by decide +kernel
theorem dX1_count_12 : decode cX1_count 12 = .ok (.aload_n 0, 1) := by decide +kernel
theorem dX1_count_13 : decode cX1_count 13 = .ok (.iload_n 2, 1) := by decide +kernel
theorem dX1_count_14 : decode cX1_count 14 = .ok (.invokevirtual 60, 3) := by decide +kernel
theorem dX1_count_17 : decode cX1_count 17 = .ok (.ifCond .eq 4, 3) := by decide +kernel
theorem dX1_count_20 : decode cX1_count 20 = .ok (.return_, 1) := by decide +kernel
theorem dX1_count_21 : decode cX1_count 21 = .ok (.aload_n 1, 1) := by decide +kernel
theorem dX1_count_22 : decode cX1_count 22 = .ok (.getfield 64, 3) := by decide +kernel
theorem dX1_count_25 : decode cX1_count 25 = .ok (.bipush 97, 2) := by decide +kernel
theorem dX1_count_27 : decode cX1_count 27 = .ok (.if_icmp .eq 14, 3) := by decide +kernel
theorem dX1_count_30 : decode cX1_count 30 = .ok (.aload_n 0, 1) := by decide +kernel
theorem dX1_count_31 : decode cX1_count 31 = .ok (.getfield 9, 3) := by decide +kernel
theorem dX1_count_34 : decode cX1_count 34 = .ok (.iload_n 2, 1) := by decide +kernel
theorem dX1_count_35 : decode cX1_count 35 = .ok (.dup2, 1) := by decide +kernel
theorem dX1_count_36 : decode cX1_count 36 = .ok (.iaload, 1) := by decide +kernel
theorem dX1_count_37 : decode cX1_count 37 = .ok (.iconst 1, 1) := by decide +kernel
theorem dX1_count_38 : decode cX1_count 38 = .ok (.iadd, 1) := by decide +kernel
theorem dX1_count_39 : decode cX1_count 39 = .ok (.iastore, 1) := by decide +kernel
theorem dX1_count_40 : decode cX1_count 40 = .ok (.return_, 1) := by decide +kernel
theorem dX1_count_41 : decode cX1_count 41 = .ok (.aload_n 0, 1) := by decide +kernel
theorem dX1_count_42 : decode cX1_count 42 = .ok (.getfield 15, 3) := by decide +kernel
theorem dX1_count_45 : decode cX1_count 45 = .ok (.iload_n 2, 1) := by decide +kernel
theorem dX1_count_46 : decode cX1_count 46 = .ok (.aload_n 1, 1) := by decide +kernel
theorem dX1_count_47 : decode cX1_count 47 = .ok (.getfield 68, 3) := by decide +kernel
theorem dX1_count_50 : decode cX1_count 50 = .ok (.iastore, 1) := by decide +kernel
theorem dX1_count_51 : decode cX1_count 51 = .ok (.aload_n 0, 1) := by decide +kernel
theorem dX1_count_52 : decode cX1_count 52 = .ok (.getfield 18, 3) := by decide +kernel
theorem dX1_count_55 : decode cX1_count 55 = .ok (.aload_n 1, 1) := by decide +kernel
theorem dX1_count_56 : decode cX1_count 56 = .ok (.getfield 50, 3) := by decide +kernel
theorem dX1_count_59 : decode cX1_count 59 = .ok (.dup2, 1) := by decide +kernel
theorem dX1_count_60 : decode cX1_count 60 = .ok (.iaload, 1) := by decide +kernel
theorem dX1_count_61 : decode cX1_count 61 = .ok (.iconst 1, 1) := by decide +kernel
theorem dX1_count_62 : decode cX1_count 62 = .ok (.iadd, 1) := by decide +kernel
theorem dX1_count_63 : decode cX1_count 63 = .ok (.iastore, 1) := by decide +kernel
theorem dX1_count_64 : decode cX1_count 64 = .ok (.aload_n 0, 1) := by decide +kernel
theorem dX1_count_65 : decode cX1_count 65 = .ok (.getfield 21, 3) := by decide +kernel
theorem dX1_count_68 : decode cX1_count 68 = .ok (.aload_n 1, 1) := by decide +kernel
theorem dX1_count_69 : decode cX1_count 69 = .ok (.getfield 50, 3) := by decide +kernel
theorem dX1_count_72 : decode cX1_count 72 = .ok (.dup2, 1) := by decide +kernel
theorem dX1_count_73 : decode cX1_count 73 = .ok (.iaload, 1) := by decide +kernel
theorem dX1_count_74 : decode cX1_count 74 = .ok (.aload_n 1, 1) := by decide +kernel
theorem dX1_count_75 : decode cX1_count 75 = .ok (.getfield 68, 3) := by decide +kernel
theorem dX1_count_78 : decode cX1_count 78 = .ok (.bipush 20, 2) := by decide +kernel
theorem dX1_count_80 : decode cX1_count 80 = .ok (.aload_n 0, 1) := by decide +kernel
theorem dX1_count_81 : decode cX1_count 81 = .ok (.getfield 9, 3) := by decide +kernel
theorem dX1_count_84 : decode cX1_count 84 = .ok (.iload_n 2, 1) := by decide +kernel
theorem dX1_count_85 : decode cX1_count 85 = .ok (.iaload, 1) := by decide +kernel
theorem dX1_count_86 : decode cX1_count 86 = .ok (.imul, 1) := by decide +kernel
theorem dX1_count_87 : decode cX1_count 87 = .ok (.iadd, 1) := by decide +kernel
theorem dX1_count_88 : decode cX1_count 88 = .ok (.iadd, 1) := by decide +kernel
theorem dX1_count_89 : decode cX1_count 89 = .ok (.iastore, 1) := by decide +kernel
theorem dX1_count_90 : decode cX1_count 90 = .ok (.aload_n 0, 1) := by decide +kernel
theorem dX1_count_91 : decode cX1_count 91 = .ok (.getfield 24, 3) := by decide +kernel
theorem dX1_count_94 : decode cX1_count 94 = .ok (.aload_n 1, 1) := by decide +kernel
theorem dX1_count_95 : decode cX1_count 95 = .ok (.getfield 50, 3) := by decide +kernel
theorem dX1_count_98 : decode cX1_count 98 = .ok (.aload_n 0, 1) := by decide +kernel
theorem dX1_count_99 : decode cX1_count 99 = .ok (.getfield 24, 3) := by decide +kernel
theorem dX1_count_102 : decode cX1_count 102 = .ok (.aload_n 1, 1) := by decide +kernel
theorem dX1_count_103 : decode cX1_count 103 = .ok (.getfield 50, 3) := by decide +kernel
theorem dX1_count_106 : decode cX1_count 106 = .ok (.iaload, 1) := by decide +kernel
theorem dX1_count_107 : decode cX1_count 107 = .ok (.aload_n 1, 1) := by decide +kernel
theorem dX1_count_108 : decode cX1_count 108 = .ok (.getfield 68, 3) := by decide +kernel
theorem dX1_count_111 : decode cX1_count 111 = .ok (.invokestatic 71, 3) := by decide +kernel
theorem dX1_count_114 : decode cX1_count 114 = .ok (.iastore, 1) := by decide +kernel
theorem dX1_count_115 : decode cX1_count 115 = .ok (.return_, 1) := by decide +kernel
theorem dX1_putInOrder_0 : decode cX1_putInOrder 0 = .ok (.iconst 0, 1) := by decide +kernel
theorem dX1_putInOrder_1 : decode cX1_putInOrder 1 = .ok (.istore_n 1, 1) := by decide +kernel
theorem dX1_putInOrder_2 : decode cX1_putInOrder 2 = .ok (.iload_n 1, 1) := by decide +kernel
theorem dX1_putInOrder_3 : decode cX1_putInOrder 3 = .ok (.aload_n 0, 1) := by decide +kernel
theorem dX1_putInOrder_4 : decode cX1_putInOrder 4 = .ok (.getfield 30, 3) := by decide +kernel
theorem dX1_putInOrder_7 : decode cX1_putInOrder 7 = .ok (.if_icmp .ge 58, 3) := by decide +kernel
theorem dX1_putInOrder_10 : decode cX1_putInOrder 10 = .ok (.iload_n 1, 1) := by decide +kernel
theorem dX1_putInOrder_11 : decode cX1_putInOrder 11 = .ok (.istore_n 2, 1) := by decide +kernel
theorem dX1_putInOrder_12 : decode cX1_putInOrder 12 = .ok (.iload_n 2, 1) := by decide +kernel
theorem dX1_putInOrder_13 : decode cX1_putInOrder 13 = .ok (.ifCond .le 39, 3) := by decide +kernel
theorem dX1_putInOrder_16 : decode cX1_putInOrder 16 = .ok (.aload_n 0, 1) := by decide +kernel
theorem dX1_putInOrder_17 : decode cX1_putInOrder 17 = .ok (.iload_n 1, 1) := by decide +kernel
theorem dX1_putInOrder_18 : decode cX1_putInOrder 18 = .ok (.aload_n 0, 1) := by decide +kernel
theorem dX1_putInOrder_19 : decode cX1_putInOrder 19 = .ok (.getfield 27, 3) := by decide +kernel
theorem dX1_putInOrder_22 : decode cX1_putInOrder 22 = .ok (.iload_n 2, 1) := by decide +kernel
theorem dX1_putInOrder_23 : decode cX1_putInOrder 23 = .ok (.iconst 1, 1) := by decide +kernel
theorem dX1_putInOrder_24 : decode cX1_putInOrder 24 = .ok (.isub, 1) := by decide +kernel
theorem dX1_putInOrder_25 : decode cX1_putInOrder 25 = .ok (.iaload, 1) := by decide +kernel
theorem dX1_putInOrder_26 : decode cX1_putInOrder 26 = .ok (.invokevirtual 76, 3) := by decide +kernel
theorem dX1_putInOrder_29 : decode cX1_putInOrder 29 = .ok (.ifCond .eq 23, 3) := by decide +kernel
theorem dX1_putInOrder_32 : decode cX1_putInOrder 32 = .ok (.aload_n 0, 1) := by decide +kernel
theorem dX1_putInOrder_33 : decode cX1_putInOrder 33 = .ok (.getfield 27, 3) := by decide +kernel
theorem dX1_putInOrder_36 : decode cX1_putInOrder 36 = .ok (.iload_n 2, 1) := by decide +kernel
theorem dX1_putInOrder_37 : decode cX1_putInOrder 37 = .ok (.aload_n 0, 1) := by decide +kernel
theorem dX1_putInOrder_38 : decode cX1_putInOrder 38 = .ok (.getfield 27, 3) := by decide +kernel
theorem dX1_putInOrder_41 : decode cX1_putInOrder 41 = .ok (.iload_n 2, 1) := by decide +kernel
theorem dX1_putInOrder_42 : decode cX1_putInOrder 42 = .ok (.iconst 1, 1) := by decide +kernel
theorem dX1_putInOrder_43 : decode cX1_putInOrder 43 = .ok (.isub, 1) := by decide +kernel
theorem dX1_putInOrder_44 : decode cX1_putInOrder 44 = .ok (.iaload, 1) := by decide +kernel
theorem dX1_putInOrder_45 : decode cX1_putInOrder 45 = .ok (.iastore, 1) := by decide +kernel
theorem dX1_putInOrder_46 : decode cX1_putInOrder 46 = .ok (.iinc 2 (-1), 3) := by decide +kernel
theorem dX1_putInOrder_49 : decode cX1_putInOrder 49 = .ok (.goto (-37), 3) := by decide +kernel
theorem dX1_putInOrder_52 : decode cX1_putInOrder 52 = .ok (.aload_n 0, 1) := by decide +kernel
theorem dX1_putInOrder_53 : decode cX1_putInOrder 53 = .ok (.getfield 27, 3) := by decide +kernel
theorem dX1_putInOrder_56 : decode cX1_putInOrder 56 = .ok (.iload_n 2, 1) := by decide +kernel
theorem dX1_putInOrder_57 : decode cX1_putInOrder 57 = .ok (.iload_n 1, 1) := by decide +kernel
theorem dX1_putInOrder_58 : decode cX1_putInOrder 58 = .ok (.iastore, 1) := by decide +kernel
theorem dX1_putInOrder_59 : decode cX1_putInOrder 59 = .ok (.iinc 1 1, 3) := by decide +kernel
theorem dX1_putInOrder_62 : decode cX1_putInOrder 62 = .ok (.goto (-60), 3) := by decide +kernel
theorem dX1_putInOrder_65 : decode cX1_putInOrder 65 = .ok (.return_, 1) := by decide +kernel
theorem dX1_isAhead_0 : decode cX1_isAhead 0 = .ok (.aload_n 0, 1) := by decide +kernel
theorem dX1_isAhead_1 : decode cX1_isAhead 1 = .ok (.getfield 18, 3) := by decide +kernel
theorem dX1_isAhead_4 : decode cX1_isAhead 4 = .ok (.iload_n 1, 1) := by decide +kernel
theorem dX1_isAhead_5 : decode cX1_isAhead 5 = .ok (.iaload, 1) := by decide +kernel
theorem dX1_isAhead_6 : decode cX1_isAhead 6 = .ok (.aload_n 0, 1) := by decide +kernel
theorem dX1_isAhead_7 : decode cX1_isAhead 7 = .ok (.getfield 18, 3) := by decide +kernel
theorem dX1_isAhead_10 : decode cX1_isAhead 10 = .ok (.iload_n 2, 1) := by decide +kernel
theorem dX1_isAhead_11 : decode cX1_isAhead 11 = .ok (.iaload, 1) := by decide +kernel
theorem dX1_isAhead_12 : decode cX1_isAhead 12 = .ok (.if_icmp .eq 24, 3) := by decide +kernel
theorem dX1_isAhead_15 : decode cX1_isAhead 15 = .ok (.aload_n 0, 1) := by decide +kernel
theorem dX1_isAhead_16 : decode cX1_isAhead 16 = .ok (.getfield 18, 3) := by decide +kernel
theorem dX1_isAhead_19 : decode cX1_isAhead 19 = .ok (.iload_n 1, 1) := by decide +kernel
theorem dX1_isAhead_20 : decode cX1_isAhead 20 = .ok (.iaload, 1) := by decide +kernel
theorem dX1_isAhead_21 : decode cX1_isAhead 21 = .ok (.aload_n 0, 1) := by decide +kernel
theorem dX1_isAhead_22 : decode cX1_isAhead 22 = .ok (.getfield 18, 3) := by decide +kernel
theorem dX1_isAhead_25 : decode cX1_isAhead 25 = .ok (.iload_n 2, 1) := by decide +kernel
theorem dX1_isAhead_26 : decode cX1_isAhead 26 = .ok (.iaload, 1) := by decide +kernel
theorem dX1_isAhead_27 : decode cX1_isAhead 27 = .ok (.if_icmp .le 7, 3) := by decide +kernel
theorem dX1_isAhead_30 : decode cX1_isAhead 30 = .ok (.iconst 1, 1) := by decide +kernel
theorem dX1_isAhead_31 : decode cX1_isAhead 31 = .ok (.goto 4, 3) := by decide +kernel
theorem dX1_isAhead_34 : decode cX1_isAhead 34 = .ok (.iconst 0, 1) := by decide +kernel
theorem dX1_isAhead_35 : decode cX1_isAhead 35 = .ok (.ireturn, 1) := by decide +kernel
theorem dX1_isAhead_36 : decode cX1_isAhead 36 = .ok (.aload_n 0, 1) := by decide +kernel
theorem dX1_isAhead_37 : decode cX1_isAhead 37 = .ok (.getfield 21, 3) := by decide +kernel
theorem dX1_isAhead_40 : decode cX1_isAhead 40 = .ok (.iload_n 1, 1) := by decide +kernel
theorem dX1_isAhead_41 : decode cX1_isAhead 41 = .ok (.iaload, 1) := by decide +kernel
theorem dX1_isAhead_42 : decode cX1_isAhead 42 = .ok (.aload_n 0, 1) := by decide +kernel
theorem dX1_isAhead_43 : decode cX1_isAhead 43 = .ok (.getfield 21, 3) := by decide +kernel
theorem dX1_isAhead_46 : decode cX1_isAhead 46 = .ok (.iload_n 2, 1) := by decide +kernel
theorem dX1_isAhead_47 : decode cX1_isAhead 47 = .ok (.iaload, 1) := by decide +kernel
theorem dX1_isAhead_48 : decode cX1_isAhead 48 = .ok (.if_icmp .eq 24, 3) := by decide +kernel
theorem dX1_isAhead_51 : decode cX1_isAhead 51 = .ok (.aload_n 0, 1) := by decide +kernel
theorem dX1_isAhead_52 : decode cX1_isAhead 52 = .ok (.getfield 21, 3) := by decide +kernel
theorem dX1_isAhead_55 : decode cX1_isAhead 55 = .ok (.iload_n 1, 1) := by decide +kernel
theorem dX1_isAhead_56 : decode cX1_isAhead 56 = .ok (.iaload, 1) := by decide +kernel
theorem dX1_isAhead_57 : decode cX1_isAhead 57 = .ok (.aload_n 0, 1) := by decide +kernel
theorem dX1_isAhead_58 : decode cX1_isAhead 58 = .ok (.getfield 21, 3) := by decide +kernel
theorem dX1_isAhead_61 : decode cX1_isAhead 61 = .ok (.iload_n 2, 1) := by decide +kernel
theorem dX1_isAhead_62 : decode cX1_isAhead 62 = .ok (.iaload, 1) := by decide +kernel
theorem dX1_isAhead_63 : decode cX1_isAhead 63 = .ok (.if_icmp .ge 7, 3) := by decide +kernel
theorem dX1_isAhead_66 : decode cX1_isAhead 66 = .ok (.iconst 1, 1) := by decide +kernel
theorem dX1_isAhead_67 : decode cX1_isAhead 67 = .ok (.goto 4, 3) := by decide +kernel
theorem dX1_isAhead_70 : decode cX1_isAhead 70 = .ok (.iconst 0, 1) := by decide +kernel
theorem dX1_isAhead_71 : decode cX1_isAhead 71 = .ok (.ireturn, 1) := by decide +kernel
theorem dX1_isAhead_72 : decode cX1_isAhead 72 = .ok (.aload_n 0, 1) := by decide +kernel
theorem dX1_isAhead_73 : decode cX1_isAhead 73 = .ok (.getfield 24, 3) := by decide +kernel
theorem dX1_isAhead_76 : decode cX1_isAhead 76 = .ok (.iload_n 1, 1) := by decide +kernel
theorem dX1_isAhead_77 : decode cX1_isAhead 77 = .ok (.iaload, 1) := by decide +kernel
theorem dX1_isAhead_78 : decode cX1_isAhead 78 = .ok (.aload_n 0, 1) := by decide +kernel
theorem dX1_isAhead_79 : decode cX1_isAhead 79 = .ok (.getfield 24, 3) := by decide +kernel
theorem dX1_isAhead_82 : decode cX1_isAhead 82 = .ok (.iload_n 2, 1) := by decide +kernel
theorem dX1_isAhead_83 : decode cX1_isAhead 83 = .ok (.iaload, 1) := by decide +kernel
theorem dX1_isAhead_84 : decode cX1_isAhead 84 = .ok (.if_icmp .eq 24, 3) := by decide +kernel
theorem dX1_isAhead_87 : decode cX1_isAhead 87 = .ok (.aload_n 0, 1) := by decide +kernel
theorem dX1_isAhead_88 : decode cX1_isAhead 88 = .ok (.getfield 24, 3) := by decide +kernel
theorem dX1_isAhead_91 : decode cX1_isAhead 91 = .ok (.iload_n 1, 1) := by decide +kernel
theorem dX1_isAhead_92 : decode cX1_isAhead 92 = .ok (.iaload, 1) := by decide +kernel
theorem dX1_isAhead_93 : decode cX1_isAhead 93 = .ok (.aload_n 0, 1) := by decide +kernel
theorem dX1_isAhead_94 : decode cX1_isAhead 94 = .ok (.getfield 24, 3) := by decide +kernel
theorem dX1_isAhead_97 : decode cX1_isAhead 97 = .ok (.iload_n 2, 1) := by decide +kernel
theorem dX1_isAhead_98 : decode cX1_isAhead 98 = .ok (.iaload, 1) := by decide +kernel
theorem dX1_isAhead_99 : decode cX1_isAhead 99 = .ok (.if_icmp .ge 7, 3) := by decide +kernel
theorem dX1_isAhead_102 : decode cX1_isAhead 102 = .ok (.iconst 1, 1) := by decide +kernel
theorem dX1_isAhead_103 : decode cX1_isAhead 103 = .ok (.goto 4, 3) := by decide +kernel
theorem dX1_isAhead_106 : decode cX1_isAhead 106 = .ok (.iconst 0, 1) := by decide +kernel
theorem dX1_isAhead_107 : decode cX1_isAhead 107 = .ok (.ireturn, 1) := by decide +kernel
theorem dX1_isAhead_108 : decode cX1_isAhead 108 = .ok (.iload_n 1, 1) := by decide +kernel
theorem dX1_isAhead_109 : decode cX1_isAhead 109 = .ok (.iload_n 2, 1) := by decide +kernel
theorem dX1_isAhead_110 : decode cX1_isAhead 110 = .ok (.if_icmp .ge 7, 3) := by decide +kernel
theorem dX1_isAhead_113 : decode cX1_isAhead 113 = .ok (.iconst 1, 1) := by decide +kernel
theorem dX1_isAhead_114 : decode cX1_isAhead 114 = .ok (.goto 4, 3) := by decide +kernel
theorem dX1_isAhead_117 : decode cX1_isAhead 117 = .ok (.iconst 0, 1) := by decide +kernel
theorem dX1_isAhead_118 : decode cX1_isAhead 118 = .ok (.ireturn, 1) := by decide +kernel
theorem dX2_init_0 : decode cX2_init 0 = .ok (.aload_n 0, 1) := by decide +kernel
theorem dX2_init_1 : decode cX2_init 1 = .ok (.invokespecial 3, 3) := by decide +kernel
theorem dX2_init_4 : decode cX2_init 4 = .ok (.aload_n 0, 1) := by decide +kernel
theorem dX2_init_5 : decode cX2_init 5 = .ok (.iconst 4, 1) := by decide +kernel
theorem dX2_init_6 : decode cX2_init 6 = .ok (.newarray .int, 2) := by decide +kernel
theorem dX2_init_8 : decode cX2_init 8 = .ok (.putfield 9, 3) := by decide +kernel
theorem dX2_init_11 : decode cX2_init 11 = .ok (.aload_n 0, 1) := by decide +kernel
theorem dX2_init_12 : decode cX2_init 12 = .ok (.bipush 6, 2) := by decide +kernel
theorem dX2_init_14 : decode cX2_init 14 = .ok (.newarray .int, 2) := by decide +kernel
theorem dX2_init_16 : decode cX2_init 16 = .ok (.putfield 15, 3) := by decide +kernel
theorem dX2_init_19 : decode cX2_init 19 = .ok (.aload_n 0, 1) := by decide +kernel
theorem dX2_init_20 : decode cX2_init 20 = .ok (.iconst 0, 1) := by decide +kernel
theorem dX2_init_21 : decode cX2_init 21 = .ok (.putfield 18, 3) := by decide +kernel
theorem dX2_init_24 : decode cX2_init 24 = .ok (.aload_n 0, 1) := by decide +kernel
theorem dX2_init_25 : decode cX2_init 25 = .ok (.iconst 0, 1) := by decide +kernel
theorem dX2_init_26 : decode cX2_init 26 = .ok (.putfield 22, 3) := by decide +kernel
theorem dX2_init_29 : decode cX2_init 29 = .ok (.aload_n 0, 1) := by decide +kernel
theorem dX2_init_30 : decode cX2_init 30 = .ok (.iconst 0, 1) := by decide +kernel
theorem dX2_init_31 : decode cX2_init 31 = .ok (.putfield 25, 3) := by decide +kernel
theorem dX2_init_34 : decode cX2_init 34 = .ok (.aload_n 0, 1) := by decide +kernel
theorem dX2_init_35 : decode cX2_init 35 = .ok (.iconst 0, 1) := by decide +kernel
theorem dX2_init_36 : decode cX2_init 36 = .ok (.putfield 28, 3) := by decide +kernel
theorem dX2_init_39 : decode cX2_init 39 = .ok (.aload_n 0, 1) := by decide +kernel
theorem dX2_init_40 : decode cX2_init 40 = .ok (.bipush 45, 2) := by decide +kernel
theorem dX2_init_42 : decode cX2_init 42 = .ok (.putfield 31, 3) := by decide +kernel
theorem dX2_init_45 : decode cX2_init 45 = .ok (.return_, 1) := by decide +kernel
theorem dX2_execute_0 : decode cX2_execute 0 = .ok (.aload_n 0, 1) := by decide +kernel
theorem dX2_execute_1 : decode cX2_execute 1 = .ok (.invokevirtual 35, 3) := by decide +kernel
theorem dX2_execute_4 : decode cX2_execute 4 = .ok (.iconst 0, 1) := by decide +kernel
theorem dX2_execute_5 : decode cX2_execute 5 = .ok (.istore 4, 2) := by decide +kernel
theorem dX2_execute_7 : decode cX2_execute 7 = .ok (.iload 4, 2) := by decide +kernel
theorem dX2_execute_9 : decode cX2_execute 9 = .ok (.iload_n 3, 1) := by decide +kernel
theorem dX2_execute_10 : decode cX2_execute 10 = .ok (.if_icmp .ge 45, 3) := by decide +kernel
theorem dX2_execute_13 : decode cX2_execute 13 = .ok (.aload_n 0, 1) := by decide +kernel
theorem dX2_execute_14 : decode cX2_execute 14 = .ok (.getfield 31, 3) := by decide +kernel
theorem dX2_execute_17 : decode cX2_execute 17 = .ok (.bipush 45, 2) := by decide +kernel
theorem dX2_execute_19 : decode cX2_execute 19 = .ok (.if_icmp .ne 36, 3) := by decide +kernel
theorem dX2_execute_22 : decode cX2_execute 22 = .ok (.aload_n 0, 1) := by decide +kernel
theorem dX2_execute_23 : decode cX2_execute 23 = .ok (.getfield 25, 3) := by decide +kernel
theorem dX2_execute_26 : decode cX2_execute 26 = .ok (.aload_n 1, 1) := by decide +kernel
theorem dX2_execute_27 : decode cX2_execute 27 = .ok (.getfield 38, 3) := by decide +kernel
theorem dX2_execute_30 : decode cX2_execute 30 = .ok (.if_icmp .ge 25, 3) := by decide +kernel
theorem dX2_execute_33 : decode cX2_execute 33 = .ok (.aload_n 0, 1) := by decide +kernel
theorem dX2_execute_34 : decode cX2_execute 34 = .ok (.dup, 1) := by decide +kernel
theorem dX2_execute_35 : decode cX2_execute 35 = .ok (.getfield 28, 3) := by decide +kernel
theorem dX2_execute_38 : decode cX2_execute 38 = .ok (.iconst 1, 1) := by decide +kernel
theorem dX2_execute_39 : decode cX2_execute 39 = .ok (.iadd, 1) := by decide +kernel
theorem dX2_execute_40 : decode cX2_execute 40 = .ok (.putfield 28, 3) := by decide +kernel
theorem dX2_execute_43 : decode cX2_execute 43 = .ok (.aload_n 0, 1) := by decide +kernel
theorem dX2_execute_44 : decode cX2_execute 44 = .ok (.aload_n 1, 1) := by decide +kernel
theorem dX2_execute_45 : decode cX2_execute 45 = .ok (.aload_n 2, 1) := by decide +kernel
theorem dX2_execute_46 : decode cX2_execute 46 = .ok (.invokevirtual 43, 3) := by decide +kernel
theorem dX2_execute_49 : decode cX2_execute 49 = .ok (.iinc 4 1, 3) := by decide +kernel
theorem dX2_execute_52 : decode cX2_execute 52 = .ok (.goto (-45), 3) := by decide +kernel
theorem dX2_execute_55 : decode cX2_execute 55 = .ok (.aload_n 0, 1) := by decide +kernel
theorem dX2_execute_56 : decode cX2_execute 56 = .ok (.getfield 31, 3) := by decide +kernel
theorem dX2_execute_59 : decode cX2_execute 59 = .ok (.bipush 45, 2) := by decide +kernel
theorem dX2_execute_61 : decode cX2_execute 61 = .ok (.if_icmp .ne 23, 3) := by decide +kernel
theorem dX2_execute_64 : decode cX2_execute 64 = .ok (.aload_n 0, 1) := by decide +kernel
theorem dX2_execute_65 : decode cX2_execute 65 = .ok (.getfield 25, 3) := by decide +kernel
theorem dX2_execute_68 : decode cX2_execute 68 = .ok (.aload_n 1, 1) := by decide +kernel
theorem dX2_execute_69 : decode cX2_execute 69 = .ok (.getfield 38, 3) := by decide +kernel
theorem dX2_execute_72 : decode cX2_execute 72 = .ok (.if_icmp .ge 12, 3) := by decide +kernel
theorem dX2_execute_75 : decode cX2_execute 75 = .ok (.aload_n 0, 1) := by decide +kernel
theorem dX2_execute_76 : decode cX2_execute 76 = .ok (.bipush 116, 2) := by decide +kernel
theorem dX2_execute_78 : decode cX2_execute 78 = .ok (.putfield 31, 3) := by decide +kernel
theorem dX2_execute_81 : decode cX2_execute 81 = .ok (.goto 38, 3) := by decide +kernel
theorem dX2_execute_84 : decode cX2_execute 84 = .ok (.aload_n 0, 1) := by decide +kernel
theorem dX2_execute_85 : decode cX2_execute 85 = .ok (.getfield 31, 3) := by decide +kernel
theorem dX2_execute_88 : decode cX2_execute 88 = .ok (.bipush 45, 2) := by decide +kernel
theorem dX2_execute_90 : decode cX2_execute 90 = .ok (.if_icmp .ne 29, 3) := by decide +kernel
theorem dX2_execute_93 : decode cX2_execute 93 = .ok (.aload_n 0, 1) := by decide +kernel
theorem dX2_execute_94 : decode cX2_execute 94 = .ok (.aload_n 2, 1) := by decide +kernel
theorem dX2_execute_95 : decode cX2_execute 95 = .ok (.aload_n 0, 1) := by decide +kernel
theorem dX2_execute_96 : decode cX2_execute 96 = .ok (.getfield 15, 3) := by decide +kernel
theorem dX2_execute_99 : decode cX2_execute 99 = .ok (.aload_n 0, 1) := by decide +kernel
theorem dX2_execute_100 : decode cX2_execute 100 = .ok (.getfield 18, 3) := by decide +kernel
theorem dX2_execute_103 : decode cX2_execute 103 = .ok (.invokevirtual 47, 3) := by decide +kernel
theorem dX2_execute_106 : decode cX2_execute 106 = .ok (.ifCond .eq 8, 3) := by decide +kernel
theorem dX2_execute_109 : decode cX2_execute 109 = .ok (.bipush 111, 2) := by decide +kernel
theorem dX2_execute_111 : decode cX2_execute 111 = .ok (.goto 5, 3) := by decide +kernel
theorem dX2_execute_114 : decode cX2_execute 114 = .ok (.bipush 119, 2) := by decide +kernel
theorem dX2_execute_116 : decode cX2_execute 116 = .ok (.putfield 31, 3) := by decide +kernel
theorem dX2_execute_119 : decode cX2_execute 119 = .ok (.return_, 1) := by decide +kernel
theorem dX2_reset_0 : decode cX2_reset 0 = .ok (.iconst 0, 1) := by decide +kernel
theorem dX2_reset_1 : decode cX2_reset 1 = .ok (.istore_n 1, 1) := by decide +kernel
theorem dX2_reset_2 : decode cX2_reset 2 = .ok (.iload_n 1, 1) := by decide +kernel
theorem dX2_reset_3 : decode cX2_reset 3 = .ok (.iconst 4, 1) := by decide +kernel
theorem dX2_reset_4 : decode cX2_reset 4 = .ok (.if_icmp .ge 16, 3) := by decide +kernel
theorem dX2_reset_7 : decode cX2_reset 7 = .ok (.aload_n 0, 1) := by decide +kernel
theorem dX2_reset_8 : decode cX2_reset 8 = .ok (.getfield 9, 3) := by decide +kernel
theorem dX2_reset_11 : decode cX2_reset 11 = .ok (.iload_n 1, 1) := by decide +kernel
theorem dX2_reset_12 : decode cX2_reset 12 = .ok (.iconst 0, 1) := by decide +kernel
theorem dX2_reset_13 : decode cX2_reset 13 = .ok (.iastore, 1) := by decide +kernel
theorem dX2_reset_14 : decode cX2_reset 14 = .ok (.iinc 1 1, 3) := by decide +kernel
theorem dX2_reset_17 : decode cX2_reset 17 = .ok (.goto (-15), 3) := by decide +kernel
theorem dX2_reset_20 : decode cX2_reset 20 = .ok (.aload_n 0, 1) := by decide +kernel
theorem dX2_reset_21 : decode cX2_reset 21 = .ok (.iconst 0, 1) := by decide +kernel
theorem dX2_reset_22 : decode cX2_reset 22 = .ok (.putfield 18, 3) := by decide +kernel
theorem dX2_reset_25 : decode cX2_reset 25 = .ok (.aload_n 0, 1) := by decide +kernel
theorem dX2_reset_26 : decode cX2_reset 26 = .ok (.iconst 0, 1) := by decide +kernel
theorem dX2_reset_27 : decode cX2_reset 27 = .ok (.putfield 22, 3) := by decide +kernel
theorem dX2_reset_30 : decode cX2_reset 30 = .ok (.aload_n 0, 1) := by decide +kernel
theorem dX2_reset_31 : decode cX2_reset 31 = .ok (.iconst 0, 1) := by decide +kernel
theorem dX2_reset_32 : decode cX2_reset 32 = .ok (.putfield 25, 3) := by decide +kernel
theorem dX2_reset_35 : decode cX2_reset 35 = .ok (.aload_n 0, 1) := by decide +kernel
theorem dX2_reset_36 : decode cX2_reset 36 = .ok (.iconst 0, 1) := by decide +kernel
theorem dX2_reset_37 : decode cX2_reset 37 = .ok (.putfield 28, 3) := by decide +kernel
theorem dX2_reset_40 : decode cX2_reset 40 = .ok (.aload_n 0, 1) := by decide +kernel
theorem dX2_reset_41 : decode cX2_reset 41 = .ok (.bipush 45, 2) := by decide +kernel
theorem dX2_reset_43 : decode cX2_reset 43 = .ok (.putfield 31, 3) := by decide +kernel
theorem dX2_reset_46 : decode cX2_reset 46 = .ok (.return_, 1) := by decide +kernel
theorem dX2_doNextStep_0 : decode cX2_doNextStep 0 = .ok (.aload_n 1, 1) := by decide +kernel
theorem dX2_doNextStep_1 : decode cX2_doNextStep 1 = .ok (.getfield 53, 3) := by decide +kernel
theorem dX2_doNextStep_4 : decode cX2_doNextStep 4 = .ok (.aload_n 0, 1) := by decide +kernel
theorem dX2_doNextStep_5 : decode cX2_doNextStep 5 = .ok (.getfield 25, 3) := by decide +kernel
theorem dX2_doNextStep_8 : decode cX2_doNextStep 8 = .ok (.caload, 1) := by decide +kernel
theorem dX2_doNextStep_9 : decode cX2_doNextStep 9 = .ok (.istore_n 3, 1) := by decide +kernel
theorem dX2_doNextStep_10 : decode cX2_doNextStep 10 = .ok (.aload_n 1, 1) := by decide +kernel
theorem dX2_doNextStep_11 : decode cX2_doNextStep 11 = .ok (.getfield 57, 3) := by decide +kernel
theorem dX2_doNextStep_14 : decode cX2_doNextStep 14 = .ok (.aload_n 0, 1) := by decide +kernel
theorem dX2_doNextStep_15 : decode cX2_doNextStep 15 = .ok (.getfield 25, 3) := by decide +kernel
theorem dX2_doNextStep_18 : decode cX2_doNextStep 18 = .ok (.iaload, 1) := by decide +kernel
theorem dX2_doNextStep_19 : decode cX2_doNextStep 19 = .ok (.istore 4, 2) := by decide +kernel
theorem dX2_doNextStep_21 : decode cX2_doNextStep 21 = .ok (.aload_n 1, 1) := by decide +kernel
theorem dX2_doNextStep_22 : decode cX2_doNextStep 22 = .ok (.getfield 60, 3) := by decide +kernel
theorem dX2_doNextStep_25 : decode cX2_doNextStep 25 = .ok (.aload_n 0, 1) := by decide +kernel
theorem dX2_doNextStep_26 : decode cX2_doNextStep 26 = .ok (.getfield 25, 3) := by decide +kernel
theorem dX2_doNextStep_29 : decode cX2_doNextStep 29 = .ok (.iaload, 1) := by decide +kernel
theorem dX2_doNextStep_30 : decode cX2_doNextStep 30 = .ok (.istore 5, 2) := by decide +kernel
theorem dX2_doNextStep_32 : decode cX2_doNextStep 32 = .ok (.aload_n 0, 1) := by decide +kernel
theorem dX2_doNextStep_33 : decode cX2_doNextStep 33 = .ok (.dup, 1) := by decide +kernel
theorem dX2_doNextStep_34 : decode cX2_doNextStep 34 = .ok (.getfield 25, 3) := by decide +kernel
theorem dX2_doNextStep_37 : decode cX2_doNextStep 37 = .ok (.iconst 1, 1) := by decide +kernel
theorem dX2_doNextStep_38 : decode cX2_doNextStep 38 = .ok (.iadd, 1) := by decide +kernel
theorem dX2_doNextStep_39 : decode cX2_doNextStep 39 = .ok (.putfield 25, 3) := by decide +kernel
theorem dX2_doNextStep_42 : decode cX2_doNextStep 42 = .ok (.iload_n 3, 1) := by decide +kernel
theorem dX2_doNextStep_43 : decode cX2_doNextStep 43 = .ok (.tableswitch 237 97 115 #[125, 237, 237, 165, 237, 237, 237, 237, 89, 181, 237, 237, 145, 209, 99, 237, 237, 237, 113], 89) := by decide +kernel
theorem dX2_doNextStep_132 : decode cX2_doNextStep 132 = .ok (.aload_n 0, 1) := by decide +kernel
theorem dX2_doNextStep_133 : decode cX2_doNextStep 133 = .ok (.iload 4, 2) := by decide +kernel
theorem dX2_doNextStep_135 : decode cX2_doNextStep 135 = .ok (.aload_n 2, 1) := by decide +kernel
theorem dX2_doNextStep_136 : decode cX2_doNextStep 136 = .ok (.invokevirtual 63, 3) := by decide +kernel
theorem dX2_doNextStep_139 : decode cX2_doNextStep 139 = .ok (.goto 149, 3) := by decide +kernel
theorem dX2_doNextStep_142 : decode cX2_doNextStep 142 = .ok (.aload_n 0, 1) := by decide +kernel
theorem dX2_doNextStep_143 : decode cX2_doNextStep 143 = .ok (.aload_n 0, 1) := by decide +kernel
theorem dX2_doNextStep_144 : decode cX2_doNextStep 144 = .ok (.getfield 9, 3) := by decide +kernel
theorem dX2_doNextStep_147 : decode cX2_doNextStep 147 = .ok (.iload 4, 2) := by decide +kernel
theorem dX2_doNextStep_149 : decode cX2_doNextStep 149 = .ok (.iaload, 1) := by decide +kernel
theorem dX2_doNextStep_150 : decode cX2_doNextStep 150 = .ok (.invokevirtual 67, 3) := by decide +kernel
theorem dX2_doNextStep_153 : decode cX2_doNextStep 153 = .ok (.goto 135, 3) := by decide +kernel
theorem dX2_doNextStep_156 : decode cX2_doNextStep 156 = .ok (.aload_n 0, 1) := by decide +kernel
theorem dX2_doNextStep_157 : decode cX2_doNextStep 157 = .ok (.getfield 9, 3) := by decide +kernel
theorem dX2_doNextStep_160 : decode cX2_doNextStep 160 = .ok (.iload 4, 2) := by decide +kernel
theorem dX2_doNextStep_162 : decode cX2_doNextStep 162 = .ok (.iload 5, 2) := by decide +kernel
theorem dX2_doNextStep_164 : decode cX2_doNextStep 164 = .ok (.iastore, 1) := by decide +kernel
theorem dX2_doNextStep_165 : decode cX2_doNextStep 165 = .ok (.goto 123, 3) := by decide +kernel
theorem dX2_doNextStep_168 : decode cX2_doNextStep 168 = .ok (.aload_n 0, 1) := by decide +kernel
theorem dX2_doNextStep_169 : decode cX2_doNextStep 169 = .ok (.getfield 9, 3) := by decide +kernel
theorem dX2_doNextStep_172 : decode cX2_doNextStep 172 = .ok (.iload 4, 2) := by decide +kernel
theorem dX2_doNextStep_174 : decode cX2_doNextStep 174 = .ok (.dup2, 1) := by decide +kernel
theorem dX2_doNextStep_175 : decode cX2_doNextStep 175 = .ok (.iaload, 1) := by decide +kernel
theorem dX2_doNextStep_176 : decode cX2_doNextStep 176 = .ok (.aload_n 0, 1) := by decide +kernel
theorem dX2_doNextStep_177 : decode cX2_doNextStep 177 = .ok (.getfield 9, 3) := by decide +kernel
theorem dX2_doNextStep_180 : decode cX2_doNextStep 180 = .ok (.iload 5, 2) := by decide +kernel
theorem dX2_doNextStep_182 : decode cX2_doNextStep 182 = .ok (.iaload, 1) := by decide +kernel
theorem dX2_doNextStep_183 : decode cX2_doNextStep 183 = .ok (.iadd, 1) := by decide +kernel
theorem dX2_doNextStep_184 : decode cX2_doNextStep 184 = .ok (.iastore, 1) := by decide +kernel
theorem dX2_doNextStep_185 : decode cX2_doNextStep 185 = .ok (.goto 103, 3) := by decide +kernel
theorem dX2_doNextStep_188 : decode cX2_doNextStep 188 = .ok (.aload_n 0, 1) := by decide +kernel
theorem dX2_doNextStep_189 : decode cX2_doNextStep 189 = .ok (.getfield 9, 3) := by decide +kernel
theorem dX2_doNextStep_192 : decode cX2_doNextStep 192 = .ok (.iload 4, 2) := by decide +kernel
theorem dX2_doNextStep_194 : decode cX2_doNextStep 194 = .ok (.dup2, 1) := by decide +kernel
theorem dX2_doNextStep_195 : decode cX2_doNextStep 195 = .ok (.iaload, 1) := by decide +kernel
theorem dX2_doNextStep_196 : decode cX2_doNextStep 196 = .ok (.aload_n 0, 1) := by decide +kernel
theorem dX2_doNextStep_197 : decode cX2_doNextStep 197 = .ok (.getfield 9, 3) := by decide +kernel
theorem dX2_doNextStep_200 : decode cX2_doNextStep 200 = .ok (.iload 5, 2) := by decide +kernel
theorem dX2_doNextStep_202 : decode cX2_doNextStep 202 = .ok (.iaload, 1) := by decide +kernel
theorem dX2_doNextStep_203 : decode cX2_doNextStep 203 = .ok (.imul, 1) := by decide +kernel
theorem dX2_doNextStep_204 : decode cX2_doNextStep 204 = .ok (.iastore, 1) := by decide +kernel
theorem dX2_doNextStep_205 : decode cX2_doNextStep 205 = .ok (.goto 83, 3) := by decide +kernel
theorem dX2_doNextStep_208 : decode cX2_doNextStep 208 = .ok (.aload_n 0, 1) := by decide +kernel
theorem dX2_doNextStep_209 : decode cX2_doNextStep 209 = .ok (.iload 4, 2) := by decide +kernel
theorem dX2_doNextStep_211 : decode cX2_doNextStep 211 = .ok (.aload_n 0, 1) := by decide +kernel
theorem dX2_doNextStep_212 : decode cX2_doNextStep 212 = .ok (.getfield 9, 3) := by decide +kernel
theorem dX2_doNextStep_215 : decode cX2_doNextStep 215 = .ok (.iload 5, 2) := by decide +kernel
theorem dX2_doNextStep_217 : decode cX2_doNextStep 217 = .ok (.iaload, 1) := by decide +kernel
theorem dX2_doNextStep_218 : decode cX2_doNextStep 218 = .ok (.invokevirtual 71, 3) := by decide +kernel
theorem dX2_doNextStep_221 : decode cX2_doNextStep 221 = .ok (.goto 67, 3) := by decide +kernel
theorem dX2_doNextStep_224 : decode cX2_doNextStep 224 = .ok (.aload_n 0, 1) := by decide +kernel
theorem dX2_doNextStep_225 : decode cX2_doNextStep 225 = .ok (.aload_n 0, 1) := by decide +kernel
theorem dX2_doNextStep_226 : decode cX2_doNextStep 226 = .ok (.getfield 9, 3) := by decide +kernel
theorem dX2_doNextStep_229 : decode cX2_doNextStep 229 = .ok (.iload 4, 2) := by decide +kernel
theorem dX2_doNextStep_231 : decode cX2_doNextStep 231 = .ok (.iaload, 1) := by decide +kernel
theorem dX2_doNextStep_232 : decode cX2_doNextStep 232 = .ok (.ifCond .eq 7, 3) := by decide +kernel
theorem dX2_doNextStep_235 : decode cX2_doNextStep 235 = .ok (.iconst 1, 1) := by decide +kernel
theorem dX2_doNextStep_236 : decode cX2_doNextStep 236 = .ok (.goto 4, 3) := by decide +kernel
theorem dX2_doNextStep_239 : decode cX2_doNextStep 239 = .ok (.iconst 0, 1) := by decide +kernel
theorem dX2_doNextStep_240 : decode cX2_doNextStep 240 = .ok (.iload 5, 2) := by decide +kernel
theorem dX2_doNextStep_242 : decode cX2_doNextStep 242 = .ok (.aload_n 1, 1) := by decide +kernel
theorem dX2_doNextStep_243 : decode cX2_doNextStep 243 = .ok (.getfield 38, 3) := by decide +kernel
theorem dX2_doNextStep_246 : decode cX2_doNextStep 246 = .ok (.invokevirtual 75, 3) := by decide +kernel
theorem dX2_doNextStep_249 : decode cX2_doNextStep 249 = .ok (.goto 39, 3) := by decide +kernel
theorem dX2_doNextStep_252 : decode cX2_doNextStep 252 = .ok (.aload_n 0, 1) := by decide +kernel
theorem dX2_doNextStep_253 : decode cX2_doNextStep 253 = .ok (.aload_n 0, 1) := by decide +kernel
theorem dX2_doNextStep_254 : decode cX2_doNextStep 254 = .ok (.getfield 9, 3) := by decide +kernel
theorem dX2_doNextStep_257 : decode cX2_doNextStep 257 = .ok (.iload 4, 2) := by decide +kernel
theorem dX2_doNextStep_259 : decode cX2_doNextStep 259 = .ok (.iaload, 1) := by decide +kernel
theorem dX2_doNextStep_260 : decode cX2_doNextStep 260 = .ok (.ifCond .ge 7, 3) := by decide +kernel
theorem dX2_doNextStep_263 : decode cX2_doNextStep 263 = .ok (.iconst 1, 1) := by decide +kernel
theorem dX2_doNextStep_264 : decode cX2_doNextStep 264 = .ok (.goto 4, 3) := by decide +kernel
theorem dX2_doNextStep_267 : decode cX2_doNextStep 267 = .ok (.iconst 0, 1) := by decide +kernel
theorem dX2_doNextStep_268 : decode cX2_doNextStep 268 = .ok (.iload 5, 2) := by decide +kernel
theorem dX2_doNextStep_270 : decode cX2_doNextStep 270 = .ok (.aload_n 1, 1) := by decide +kernel
theorem dX2_doNextStep_271 : decode cX2_doNextStep 271 = .ok (.getfield 38, 3) := by decide +kernel
theorem dX2_doNextStep_274 : decode cX2_doNextStep 274 = .ok (.invokevirtual 75, 3) := by decide +kernel
theorem dX2_doNextStep_277 : decode cX2_doNextStep 277 = .ok (.goto 11, 3) := by decide +kernel
theorem dX2_doNextStep_280 : decode cX2_doNextStep 280 = .ok (.aload_n 0, 1) := by decide +kernel
theorem dX2_doNextStep_281 : decode cX2_doNextStep 281 = .ok (.aload_n 1, 1) := by decide +kernel
theorem dX2_doNextStep_282 : decode cX2_doNextStep 282 = .ok (.getfield 38, 3) := by decide +kernel
theorem dX2_doNextStep_285 : decode cX2_doNextStep 285 = .ok (.putfield 25, 3) := by decide +kernel
theorem dX2_doNextStep_288 : decode cX2_doNextStep 288 = .ok (.return_, 1) := by decide +kernel
theorem dX2_takeInput_0 : decode cX2_takeInput 0 = .ok (.aload_n 0, 1) := by decide +kernel
theorem dX2_takeInput_1 : decode cX2_takeInput 1 = .ok (.getfield 22, 3) := by decide +kernel
theorem dX2_takeInput_4 : decode cX2_takeInput 4 = .ok (.aload_n 2, 1) := by decide +kernel
theorem dX2_takeInput_5 : decode cX2_takeInput 5 = .ok (.getfield 79, 3) := by decide +kernel
theorem dX2_takeInput_8 : decode cX2_takeInput 8 = .ok (.if_icmp .lt 10, 3) := by decide +kernel
theorem dX2_takeInput_11 : decode cX2_takeInput 11 = .ok (.aload_n 0, 1) := by decide +kernel
theorem dX2_takeInput_12 : decode cX2_takeInput 12 = .ok (.bipush 114, 2) := by decide +kernel
theorem dX2_takeInput_14 : decode cX2_takeInput 14 = .ok (.putfield 31, 3) := by decide +kernel
theorem dX2_takeInput_17 : decode cX2_takeInput 17 = .ok (.return_, 1) := by decide +kernel
theorem dX2_takeInput_18 : decode cX2_takeInput 18 = .ok (.aload_n 0, 1) := by decide +kernel
theorem dX2_takeInput_19 : decode cX2_takeInput 19 = .ok (.getfield 9, 3) := by decide +kernel
theorem dX2_takeInput_22 : decode cX2_takeInput 22 = .ok (.iload_n 1, 1) := by decide +kernel
theorem dX2_takeInput_23 : decode cX2_takeInput 23 = .ok (.aload_n 2, 1) := by decide +kernel
theorem dX2_takeInput_24 : decode cX2_takeInput 24 = .ok (.getfield 82, 3) := by decide +kernel
theorem dX2_takeInput_27 : decode cX2_takeInput 27 = .ok (.aload_n 0, 1) := by decide +kernel
theorem dX2_takeInput_28 : decode cX2_takeInput 28 = .ok (.getfield 22, 3) := by decide +kernel
theorem dX2_takeInput_31 : decode cX2_takeInput 31 = .ok (.iaload, 1) := by decide +kernel
theorem dX2_takeInput_32 : decode cX2_takeInput 32 = .ok (.iastore, 1) := by decide +kernel
theorem dX2_takeInput_33 : decode cX2_takeInput 33 = .ok (.aload_n 0, 1) := by decide +kernel
theorem dX2_takeInput_34 : decode cX2_takeInput 34 = .ok (.dup, 1) := by decide +kernel
theorem dX2_takeInput_35 : decode cX2_takeInput 35 = .ok (.getfield 22, 3) := by decide +kernel
theorem dX2_takeInput_38 : decode cX2_takeInput 38 = .ok (.iconst 1, 1) := by decide +kernel
theorem dX2_takeInput_39 : decode cX2_takeInput 39 = .ok (.iadd, 1) := by decide +kernel
theorem dX2_takeInput_40 : decode cX2_takeInput 40 = .ok (.putfield 22, 3) := by decide +kernel
theorem dX2_takeInput_43 : decode cX2_takeInput 43 = .ok (.return_, 1) := by decide +kernel
theorem dX2_putOut_0 : decode cX2_putOut 0 = .ok (.aload_n 0, 1) := by decide +kernel
theorem dX2_putOut_1 : decode cX2_putOut 1 = .ok (.getfield 18, 3) := by decide +kernel
theorem dX2_putOut_4 : decode cX2_putOut 4 = .ok (.bipush 6, 2) := by decide +kernel
theorem dX2_putOut_6 : decode cX2_putOut 6 = .ok (.if_icmp .lt 10, 3) := by decide +kernel
theorem dX2_putOut_9 : decode cX2_putOut 9 = .ok (.aload_n 0, 1) := by decide +kernel
theorem dX2_putOut_10 : decode cX2_putOut 10 = .ok (.bipush 108, 2) := by decide +kernel
theorem dX2_putOut_12 : decode cX2_putOut 12 = .ok (.putfield 31, 3) := by decide +kernel
theorem dX2_putOut_15 : decode cX2_putOut 15 = .ok (.return_, 1) := by decide +kernel
theorem dX2_putOut_16 : decode cX2_putOut 16 = .ok (.aload_n 0, 1) := by decide +kernel
theorem dX2_putOut_17 : decode cX2_putOut 17 = .ok (.getfield 15, 3) := by decide +kernel
theorem dX2_putOut_20 : decode cX2_putOut 20 = .ok (.aload_n 0, 1) := by decide +kernel
theorem dX2_putOut_21 : decode cX2_putOut 21 = .ok (.getfield 18, 3) := by decide +kernel
theorem dX2_putOut_24 : decode cX2_putOut 24 = .ok (.iload_n 1, 1) := by decide +kernel
theorem dX2_putOut_25 : decode cX2_putOut 25 = .ok (.iastore, 1) := by decide +kernel
theorem dX2_putOut_26 : decode cX2_putOut 26 = .ok (.aload_n 0, 1) := by decide +kernel
theorem dX2_putOut_27 : decode cX2_putOut 27 = .ok (.dup, 1) := by decide +kernel
theorem dX2_putOut_28 : decode cX2_putOut 28 = .ok (.getfield 18, 3) := by decide +kernel
theorem dX2_putOut_31 : decode cX2_putOut 31 = .ok (.iconst 1, 1) := by decide +kernel
theorem dX2_putOut_32 : decode cX2_putOut 32 = .ok (.iadd, 1) := by decide +kernel
theorem dX2_putOut_33 : decode cX2_putOut 33 = .ok (.putfield 18, 3) := by decide +kernel
theorem dX2_putOut_36 : decode cX2_putOut 36 = .ok (.return_, 1) := by decide +kernel
theorem dX2_divide_0 : decode cX2_divide 0 = .ok (.iload_n 2, 1) := by decide +kernel
theorem dX2_divide_1 : decode cX2_divide 1 = .ok (.ifCond .ne 10, 3) := by decide +kernel
theorem dX2_divide_4 : decode cX2_divide 4 = .ok (.aload_n 0, 1) := by decide +kernel
theorem dX2_divide_5 : decode cX2_divide 5 = .ok (.bipush 114, 2) := by decide +kernel
theorem dX2_divide_7 : decode cX2_divide 7 = .ok (.putfield 31, 3) := by decide +kernel
theorem dX2_divide_10 : decode cX2_divide 10 = .ok (.return_, 1) := by decide +kernel
theorem dX2_divide_11 : decode cX2_divide 11 = .ok (.aload_n 0, 1) := by decide +kernel
theorem dX2_divide_12 : decode cX2_divide 12 = .ok (.getfield 9, 3) := by decide +kernel
theorem dX2_divide_15 : decode cX2_divide 15 = .ok (.iload_n 1, 1) := by decide +kernel
theorem dX2_divide_16 : decode cX2_divide 16 = .ok (.dup2, 1) := by decide +kernel
theorem dX2_divide_17 : decode cX2_divide 17 = .ok (.iaload, 1) := by decide +kernel
theorem dX2_divide_18 : decode cX2_divide 18 = .ok (.iload_n 2, 1) := by decide +kernel
theorem dX2_divide_19 : decode cX2_divide 19 = .ok (.idiv, 1) := by decide +kernel
theorem dX2_divide_20 : decode cX2_divide 20 = .ok (.iastore, 1) := by decide +kernel
theorem dX2_divide_21 : decode cX2_divide 21 = .ok (.return_, 1) := by decide +kernel
theorem dX2_goIf_0 : decode cX2_goIf 0 = .ok (.iload_n 1, 1) := by decide +kernel
theorem dX2_goIf_1 : decode cX2_goIf 1 = .ok (.ifCond .eq 17, 3) := by decide +kernel
theorem dX2_goIf_4 : decode cX2_goIf 4 = .ok (.iload_n 2, 1) := by decide +kernel
theorem dX2_goIf_5 : decode cX2_goIf 5 = .ok (.iload_n 3, 1) := by decide +kernel
theorem dX2_goIf_6 : decode cX2_goIf 6 = .ok (.if_icmp .lt 12, 3) := by decide +kernel
theorem dX2_goIf_9 : decode cX2_goIf 9 = .ok (.aload_n 0, 1) := by decide +kernel
theorem dX2_goIf_10 : decode cX2_goIf 10 = .ok (.bipush 114, 2) := by decide +kernel
theorem dX2_goIf_12 : decode cX2_goIf 12 = .ok (.putfield 31, 3) := by decide +kernel
theorem dX2_goIf_15 : decode cX2_goIf 15 = .ok (.goto 12, 3) := by decide +kernel
theorem dX2_goIf_18 : decode cX2_goIf 18 = .ok (.iload_n 1, 1) := by decide +kernel
theorem dX2_goIf_19 : decode cX2_goIf 19 = .ok (.ifCond .eq 8, 3) := by decide +kernel
theorem dX2_goIf_22 : decode cX2_goIf 22 = .ok (.aload_n 0, 1) := by decide +kernel
theorem dX2_goIf_23 : decode cX2_goIf 23 = .ok (.iload_n 2, 1) := by decide +kernel
theorem dX2_goIf_24 : decode cX2_goIf 24 = .ok (.putfield 25, 3) := by decide +kernel
theorem dX2_goIf_27 : decode cX2_goIf 27 = .ok (.return_, 1) := by decide +kernel
theorem dX3_init_0 : decode cX3_init 0 = .ok (.aload_n 0, 1) := by decide +kernel
theorem dX3_init_1 : decode cX3_init 1 = .ok (.invokespecial 3, 3) := by decide +kernel
theorem dX3_init_4 : decode cX3_init 4 = .ok (.aload_n 0, 1) := by decide +kernel
theorem dX3_init_5 : decode cX3_init 5 = .ok (.iconst 4, 1) := by decide +kernel
theorem dX3_init_6 : decode cX3_init 6 = .ok (.newarray .int, 2) := by decide +kernel
theorem dX3_init_8 : decode cX3_init 8 = .ok (.putfield 9, 3) := by decide +kernel
theorem dX3_init_11 : decode cX3_init 11 = .ok (.aload_n 0, 1) := by decide +kernel
theorem dX3_init_12 : decode cX3_init 12 = .ok (.bipush 6, 2) := by decide +kernel
theorem dX3_init_14 : decode cX3_init 14 = .ok (.newarray .int, 2) := by decide +kernel
theorem dX3_init_16 : decode cX3_init 16 = .ok (.putfield 15, 3) := by decide +kernel
theorem dX3_init_19 : decode cX3_init 19 = .ok (.aload_n 0, 1) := by decide +kernel
theorem dX3_init_20 : decode cX3_init 20 = .ok (.iconst 0, 1) := by decide +kernel
theorem dX3_init_21 : decode cX3_init 21 = .ok (.putfield 18, 3) := by decide +kernel
theorem dX3_init_24 : decode cX3_init 24 = .ok (.aload_n 0, 1) := by decide +kernel
theorem dX3_init_25 : decode cX3_init 25 = .ok (.iconst 0, 1) := by decide +kernel
theorem dX3_init_26 : decode cX3_init 26 = .ok (.putfield 22, 3) := by decide +kernel
theorem dX3_init_29 : decode cX3_init 29 = .ok (.return_, 1) := by decide +kernel
theorem dX3_hasRoom_0 : decode cX3_hasRoom 0 = .ok (.iload_n 1, 1) := by decide +kernel
theorem dX3_hasRoom_1 : decode cX3_hasRoom 1 = .ok (.ifCond .eq 20, 3) := by decide +kernel
theorem dX3_hasRoom_4 : decode cX3_hasRoom 4 = .ok (.aload_n 0, 1) := by decide +kernel
theorem dX3_hasRoom_5 : decode cX3_hasRoom 5 = .ok (.getfield 22, 3) := by decide +kernel
theorem dX3_hasRoom_8 : decode cX3_hasRoom 8 = .ok (.bipush 6, 2) := by decide +kernel
theorem dX3_hasRoom_10 : decode cX3_hasRoom 10 = .ok (.if_icmp .ge 7, 3) := by decide +kernel
theorem dX3_hasRoom_13 : decode cX3_hasRoom 13 = .ok (.iconst 1, 1) := by decide +kernel
theorem dX3_hasRoom_14 : decode cX3_hasRoom 14 = .ok (.goto 20, 3) := by decide +kernel
theorem dX3_hasRoom_17 : decode cX3_hasRoom 17 = .ok (.iconst 0, 1) := by decide +kernel
theorem dX3_hasRoom_18 : decode cX3_hasRoom 18 = .ok (.goto 16, 3) := by decide +kernel
theorem dX3_hasRoom_21 : decode cX3_hasRoom 21 = .ok (.aload_n 0, 1) := by decide +kernel
theorem dX3_hasRoom_22 : decode cX3_hasRoom 22 = .ok (.getfield 18, 3) := by decide +kernel
theorem dX3_hasRoom_25 : decode cX3_hasRoom 25 = .ok (.iconst 4, 1) := by decide +kernel
theorem dX3_hasRoom_26 : decode cX3_hasRoom 26 = .ok (.if_icmp .ge 7, 3) := by decide +kernel
theorem dX3_hasRoom_29 : decode cX3_hasRoom 29 = .ok (.iconst 1, 1) := by decide +kernel
theorem dX3_hasRoom_30 : decode cX3_hasRoom 30 = .ok (.goto 4, 3) := by decide +kernel
theorem dX3_hasRoom_33 : decode cX3_hasRoom 33 = .ok (.iconst 0, 1) := by decide +kernel
theorem dX3_hasRoom_34 : decode cX3_hasRoom 34 = .ok (.ireturn, 1) := by decide +kernel
theorem dX3_append_0 : decode cX3_append 0 = .ok (.aload_n 0, 1) := by decide +kernel
theorem dX3_append_1 : decode cX3_append 1 = .ok (.iload_n 2, 1) := by decide +kernel
theorem dX3_append_2 : decode cX3_append 2 = .ok (.invokevirtual 25, 3) := by decide +kernel
theorem dX3_append_5 : decode cX3_append 5 = .ok (.ifCond .ne 5, 3) := by decide +kernel
theorem dX3_append_8 : decode cX3_append 8 = .ok (.iconst (-1), 1) := by decide +kernel
theorem dX3_append_9 : decode cX3_append 9 = .ok (.ireturn, 1) := by decide +kernel
theorem dX3_append_10 : decode cX3_append 10 = .ok (.iload_n 2, 1) := by decide +kernel
theorem dX3_append_11 : decode cX3_append 11 = .ok (.ifCond .eq 28, 3) := by decide +kernel
theorem dX3_append_14 : decode cX3_append 14 = .ok (.aload_n 0, 1) := by decide +kernel
theorem dX3_append_15 : decode cX3_append 15 = .ok (.getfield 15, 3) := by decide +kernel
theorem dX3_append_18 : decode cX3_append 18 = .ok (.aload_n 0, 1) := by decide +kernel
theorem dX3_append_19 : decode cX3_append 19 = .ok (.getfield 22, 3) := by decide +kernel
theorem dX3_append_22 : decode cX3_append 22 = .ok (.iload_n 1, 1) := by decide +kernel
theorem dX3_append_23 : decode cX3_append 23 = .ok (.iastore, 1) := by decide +kernel
theorem dX3_append_24 : decode cX3_append 24 = .ok (.aload_n 0, 1) := by decide +kernel
theorem dX3_append_25 : decode cX3_append 25 = .ok (.dup, 1) := by decide +kernel
theorem dX3_append_26 : decode cX3_append 26 = .ok (.getfield 22, 3) := by decide +kernel
theorem dX3_append_29 : decode cX3_append 29 = .ok (.iconst 1, 1) := by decide +kernel
theorem dX3_append_30 : decode cX3_append 30 = .ok (.iadd, 1) := by decide +kernel
theorem dX3_append_31 : decode cX3_append 31 = .ok (.putfield 22, 3) := by decide +kernel
theorem dX3_append_34 : decode cX3_append 34 = .ok (.aload_n 0, 1) := by decide +kernel
theorem dX3_append_35 : decode cX3_append 35 = .ok (.getfield 22, 3) := by decide +kernel
theorem dX3_append_38 : decode cX3_append 38 = .ok (.ireturn, 1) := by decide +kernel
theorem dX3_append_39 : decode cX3_append 39 = .ok (.aload_n 0, 1) := by decide +kernel
theorem dX3_append_40 : decode cX3_append 40 = .ok (.getfield 9, 3) := by decide +kernel
theorem dX3_append_43 : decode cX3_append 43 = .ok (.aload_n 0, 1) := by decide +kernel
theorem dX3_append_44 : decode cX3_append 44 = .ok (.getfield 18, 3) := by decide +kernel
theorem dX3_append_47 : decode cX3_append 47 = .ok (.iload_n 1, 1) := by decide +kernel
theorem dX3_append_48 : decode cX3_append 48 = .ok (.iastore, 1) := by decide +kernel
theorem dX3_append_49 : decode cX3_append 49 = .ok (.aload_n 0, 1) := by decide +kernel
theorem dX3_append_50 : decode cX3_append 50 = .ok (.dup, 1) := by decide +kernel
theorem dX3_append_51 : decode cX3_append 51 = .ok (.getfield 18, 3) := by decide +kernel
theorem dX3_append_54 : decode cX3_append 54 = .ok (.iconst 1, 1) := by decide +kernel
theorem dX3_append_55 : decode cX3_append 55 = .ok (.iadd, 1) := by decide +kernel
theorem dX3_append_56 : decode cX3_append 56 = .ok (.putfield 18, 3) := by decide +kernel
theorem dX3_append_59 : decode cX3_append 59 = .ok (.aload_n 0, 1) := by decide +kernel
theorem dX3_append_60 : decode cX3_append 60 = .ok (.getfield 18, 3) := by decide +kernel
theorem dX3_append_63 : decode cX3_append 63 = .ok (.ireturn, 1) := by decide +kernel
theorem dX3_clear_0 : decode cX3_clear 0 = .ok (.aload_n 0, 1) := by decide +kernel
theorem dX3_clear_1 : decode cX3_clear 1 = .ok (.getfield 18, 3) := by decide +kernel
theorem dX3_clear_4 : decode cX3_clear 4 = .ok (.aload_n 0, 1) := by decide +kernel
theorem dX3_clear_5 : decode cX3_clear 5 = .ok (.getfield 22, 3) := by decide +kernel
theorem dX3_clear_8 : decode cX3_clear 8 = .ok (.iadd, 1) := by decide +kernel
theorem dX3_clear_9 : decode cX3_clear 9 = .ok (.istore_n 1, 1) := by decide +kernel
theorem dX3_clear_10 : decode cX3_clear 10 = .ok (.aload_n 0, 1) := by decide +kernel
theorem dX3_clear_11 : decode cX3_clear 11 = .ok (.iconst 0, 1) := by decide +kernel
theorem dX3_clear_12 : decode cX3_clear 12 = .ok (.putfield 18, 3) := by decide +kernel
theorem dX3_clear_15 : decode cX3_clear 15 = .ok (.aload_n 0, 1) := by decide +kernel
theorem dX3_clear_16 : decode cX3_clear 16 = .ok (.iconst 0, 1) := by decide +kernel
theorem dX3_clear_17 : decode cX3_clear 17 = .ok (.putfield 22, 3) := by decide +kernel
theorem dX3_clear_20 : decode cX3_clear 20 = .ok (.iload_n 1, 1) := by decide +kernel
theorem dX3_clear_21 : decode cX3_clear 21 = .ok (.ireturn, 1) := by decide +kernel
theorem dX3_copyFrom_0 : decode cX3_copyFrom 0 = .ok (.aload_n 0, 1) := by decide +kernel
theorem dX3_copyFrom_1 : decode cX3_copyFrom 1 = .ok (.invokevirtual 29, 3) := by decide +kernel
theorem dX3_copyFrom_4 : decode cX3_copyFrom 4 = .ok (.pop, 1) := by decide +kernel
theorem dX3_copyFrom_5 : decode cX3_copyFrom 5 = .ok (.iconst 0, 1) := by decide +kernel
theorem dX3_copyFrom_6 : decode cX3_copyFrom 6 = .ok (.istore_n 2, 1) := by decide +kernel
theorem dX3_copyFrom_7 : decode cX3_copyFrom 7 = .ok (.iload_n 2, 1) := by decide +kernel
theorem dX3_copyFrom_8 : decode cX3_copyFrom 8 = .ok (.aload_n 1, 1) := by decide +kernel
theorem dX3_copyFrom_9 : decode cX3_copyFrom 9 = .ok (.getfield 18, 3) := by decide +kernel
theorem dX3_copyFrom_12 : decode cX3_copyFrom 12 = .ok (.if_icmp .ge 21, 3) := by decide +kernel
theorem dX3_copyFrom_15 : decode cX3_copyFrom 15 = .ok (.aload_n 0, 1) := by decide +kernel
theorem dX3_copyFrom_16 : decode cX3_copyFrom 16 = .ok (.aload_n 1, 1) := by decide +kernel
theorem dX3_copyFrom_17 : decode cX3_copyFrom 17 = .ok (.getfield 9, 3) := by decide +kernel
theorem dX3_copyFrom_20 : decode cX3_copyFrom 20 = .ok (.iload_n 2, 1) := by decide +kernel
theorem dX3_copyFrom_21 : decode cX3_copyFrom 21 = .ok (.iaload, 1) := by decide +kernel
theorem dX3_copyFrom_22 : decode cX3_copyFrom 22 = .ok (.iconst 0, 1) := by decide +kernel
theorem dX3_copyFrom_23 : decode cX3_copyFrom 23 = .ok (.invokevirtual 33, 3) := by decide +kernel
theorem dX3_copyFrom_26 : decode cX3_copyFrom 26 = .ok (.pop, 1) := by decide +kernel
theorem dX3_copyFrom_27 : decode cX3_copyFrom 27 = .ok (.iinc 2 1, 3) := by decide +kernel
theorem dX3_copyFrom_30 : decode cX3_copyFrom 30 = .ok (.goto (-23), 3) := by decide +kernel
theorem dX3_copyFrom_33 : decode cX3_copyFrom 33 = .ok (.iconst 0, 1) := by decide +kernel
theorem dX3_copyFrom_34 : decode cX3_copyFrom 34 = .ok (.istore_n 2, 1) := by decide +kernel
theorem dX3_copyFrom_35 : decode cX3_copyFrom 35 = .ok (.iload_n 2, 1) := by decide +kernel
theorem dX3_copyFrom_36 : decode cX3_copyFrom 36 = .ok (.aload_n 1, 1) := by decide +kernel
theorem dX3_copyFrom_37 : decode cX3_copyFrom 37 = .ok (.getfield 22, 3) := by decide +kernel
theorem dX3_copyFrom_40 : decode cX3_copyFrom 40 = .ok (.if_icmp .ge 21, 3) := by decide +kernel
theorem dX3_copyFrom_43 : decode cX3_copyFrom 43 = .ok (.aload_n 0, 1) := by decide +kernel
theorem dX3_copyFrom_44 : decode cX3_copyFrom 44 = .ok (.aload_n 1, 1) := by decide +kernel
theorem dX3_copyFrom_45 : decode cX3_copyFrom 45 = .ok (.getfield 15, 3) := by decide +kernel
theorem dX3_copyFrom_48 : decode cX3_copyFrom 48 = .ok (.iload_n 2, 1) := by decide +kernel
theorem dX3_copyFrom_49 : decode cX3_copyFrom 49 = .ok (.iaload, 1) := by decide +kernel
theorem dX3_copyFrom_50 : decode cX3_copyFrom 50 = .ok (.iconst 1, 1) := by decide +kernel
theorem dX3_copyFrom_51 : decode cX3_copyFrom 51 = .ok (.invokevirtual 33, 3) := by decide +kernel
theorem dX3_copyFrom_54 : decode cX3_copyFrom 54 = .ok (.pop, 1) := by decide +kernel
theorem dX3_copyFrom_55 : decode cX3_copyFrom 55 = .ok (.iinc 2 1, 3) := by decide +kernel
theorem dX3_copyFrom_58 : decode cX3_copyFrom 58 = .ok (.goto (-23), 3) := by decide +kernel
theorem dX3_copyFrom_61 : decode cX3_copyFrom 61 = .ok (.return_, 1) := by decide +kernel
theorem dX3_isExpected_0 : decode cX3_isExpected 0 = .ok (.iload_n 2, 1) := by decide +kernel
theorem dX3_isExpected_1 : decode cX3_isExpected 1 = .ok (.aload_n 0, 1) := by decide +kernel
theorem dX3_isExpected_2 : decode cX3_isExpected 2 = .ok (.getfield 22, 3) := by decide +kernel
theorem dX3_isExpected_5 : decode cX3_isExpected 5 = .ok (.if_icmp .eq 5, 3) := by decide +kernel
theorem dX3_isExpected_8 : decode cX3_isExpected 8 = .ok (.iconst 0, 1) := by decide +kernel
theorem dX3_isExpected_9 : decode cX3_isExpected 9 = .ok (.ireturn, 1) := by decide +kernel
theorem dX3_isExpected_10 : decode cX3_isExpected 10 = .ok (.iconst 0, 1) := by decide +kernel
theorem dX3_isExpected_11 : decode cX3_isExpected 11 = .ok (.istore_n 3, 1) := by decide +kernel
theorem dX3_isExpected_12 : decode cX3_isExpected 12 = .ok (.iload_n 3, 1) := by decide +kernel
theorem dX3_isExpected_13 : decode cX3_isExpected 13 = .ok (.aload_n 0, 1) := by decide +kernel
theorem dX3_isExpected_14 : decode cX3_isExpected 14 = .ok (.getfield 22, 3) := by decide +kernel
theorem dX3_isExpected_17 : decode cX3_isExpected 17 = .ok (.if_icmp .ge 23, 3) := by decide +kernel
theorem dX3_isExpected_20 : decode cX3_isExpected 20 = .ok (.aload_n 1, 1) := by decide +kernel
theorem dX3_isExpected_21 : decode cX3_isExpected 21 = .ok (.iload_n 3, 1) := by decide +kernel
theorem dX3_isExpected_22 : decode cX3_isExpected 22 = .ok (.iaload, 1) := by decide +kernel
theorem dX3_isExpected_23 : decode cX3_isExpected 23 = .ok (.aload_n 0, 1) := by decide +kernel
theorem dX3_isExpected_24 : decode cX3_isExpected 24 = .ok (.getfield 15, 3) := by decide +kernel
theorem dX3_isExpected_27 : decode cX3_isExpected 27 = .ok (.iload_n 3, 1) := by decide +kernel
theorem dX3_isExpected_28 : decode cX3_isExpected 28 = .ok (.iaload, 1) := by decide +kernel
theorem dX3_isExpected_29 : decode cX3_isExpected 29 = .ok (.if_icmp .eq 5, 3) := by decide +kernel
theorem dX3_isExpected_32 : decode cX3_isExpected 32 = .ok (.iconst 0, 1) := by decide +kernel
theorem dX3_isExpected_33 : decode cX3_isExpected 33 = .ok (.ireturn, 1) := by decide +kernel
theorem dX3_isExpected_34 : decode cX3_isExpected 34 = .ok (.iinc 3 1, 3) := by decide +kernel
theorem dX3_isExpected_37 : decode cX3_isExpected 37 = .ok (.goto (-25), 3) := by decide +kernel
theorem dX3_isExpected_40 : decode cX3_isExpected 40 = .ok (.iconst 1, 1) := by decide +kernel
theorem dX3_isExpected_41 : decode cX3_isExpected 41 = .ok (.ireturn, 1) := by decide +kernel
theorem dX4_init_0 : decode cX4_init 0 = .ok (.aload_n 0, 1) := by decide +kernel
theorem dX4_init_1 : decode cX4_init 1 = .ok (.invokespecial 3, 3) := by decide +kernel
theorem dX4_init_4 : decode cX4_init 4 = .ok (.aload_n 0, 1) := by decide +kernel
theorem dX4_init_5 : decode cX4_init 5 = .ok (.bipush 6, 2) := by decide +kernel
theorem dX4_init_7 : decode cX4_init 7 = .ok (.anewarray 9, 3) := by decide +kernel
theorem dX4_init_10 : decode cX4_init 10 = .ok (.putfield 11, 3) := by decide +kernel
theorem dX4_init_13 : decode cX4_init 13 = .ok (.aload_n 0, 1) := by decide +kernel
theorem dX4_init_14 : decode cX4_init 14 = .ok (.iconst 0, 1) := by decide +kernel
theorem dX4_init_15 : decode cX4_init 15 = .ok (.putfield 17, 3) := by decide +kernel
theorem dX4_init_18 : decode cX4_init 18 = .ok (.aload_n 0, 1) := by decide +kernel
theorem dX4_init_19 : decode cX4_init 19 = .ok (.iconst 1, 1) := by decide +kernel
theorem dX4_init_20 : decode cX4_init 20 = .ok (.putfield 21, 3) := by decide +kernel
theorem dX4_init_23 : decode cX4_init 23 = .ok (.aload_n 0, 1) := by decide +kernel
theorem dX4_init_24 : decode cX4_init 24 = .ok (.iconst 0, 1) := by decide +kernel
theorem dX4_init_25 : decode cX4_init 25 = .ok (.putfield 24, 3) := by decide +kernel
theorem dX4_init_28 : decode cX4_init 28 = .ok (.iconst 0, 1) := by decide +kernel
theorem dX4_init_29 : decode cX4_init 29 = .ok (.istore_n 1, 1) := by decide +kernel
theorem dX4_init_30 : decode cX4_init 30 = .ok (.iload_n 1, 1) := by decide +kernel
theorem dX4_init_31 : decode cX4_init 31 = .ok (.bipush 6, 2) := by decide +kernel
theorem dX4_init_33 : decode cX4_init 33 = .ok (.if_icmp .ge 22, 3) := by decide +kernel
theorem dX4_init_36 : decode cX4_init 36 = .ok (.aload_n 0, 1) := by decide +kernel
theorem dX4_init_37 : decode cX4_init 37 = .ok (.getfield 11, 3) := by decide +kernel
theorem dX4_init_40 : decode cX4_init 40 = .ok (.iload_n 1, 1) := by decide +kernel
theorem dX4_init_41 : decode cX4_init 41 = .ok (.new 9, 3) := by decide +kernel
theorem dX4_init_44 : decode cX4_init 44 = .ok (.dup, 1) := by decide +kernel
theorem dX4_init_45 : decode cX4_init 45 = .ok (.invokespecial 27, 3) := by decide +kernel
theorem dX4_init_48 : decode cX4_init 48 = .ok (.aastore, 1) := by decide +kernel
theorem dX4_init_49 : decode cX4_init 49 = .ok (.iinc 1 1, 3) := by decide +kernel
theorem dX4_init_52 : decode cX4_init 52 = .ok (.goto (-22), 3) := by decide +kernel
theorem dX4_init_55 : decode cX4_init 55 = .ok (.return_, 1) := by decide +kernel
theorem dX4_hasTest_0 : decode cX4_hasTest 0 = .ok (.iload_n 1, 1) := by decide +kernel
theorem dX4_hasTest_1 : decode cX4_hasTest 1 = .ok (.iconst 0, 1) := by decide +kernel
theorem dX4_hasTest_2 : decode cX4_hasTest 2 = .ok (.aload_n 0, 1) := by decide +kernel
theorem dX4_hasTest_3 : decode cX4_hasTest 3 = .ok (.getfield 24, 3) := by decide +kernel
theorem dX4_hasTest_6 : decode cX4_hasTest 6 = .ok (.iconst 1, 1) := by decide +kernel
theorem dX4_hasTest_7 : decode cX4_hasTest 7 = .ok (.isub, 1) := by decide +kernel
theorem dX4_hasTest_8 : decode cX4_hasTest 8 = .ok (.invokestatic 28, 3) := by decide +kernel
theorem dX4_hasTest_11 : decode cX4_hasTest 11 = .ok (.ireturn, 1) := by decide +kernel
theorem dX5_init_0 : decode cX5_init 0 = .ok (.aload_n 0, 1) := by decide +kernel
theorem dX5_init_1 : decode cX5_init 1 = .ok (.invokespecial 3, 3) := by decide +kernel
theorem dX5_init_4 : decode cX5_init 4 = .ok (.aload_n 0, 1) := by decide +kernel
theorem dX5_init_5 : decode cX5_init 5 = .ok (.bipush 20, 2) := by decide +kernel
theorem dX5_init_7 : decode cX5_init 7 = .ok (.newarray .char, 2) := by decide +kernel
theorem dX5_init_9 : decode cX5_init 9 = .ok (.putfield 9, 3) := by decide +kernel
theorem dX5_init_12 : decode cX5_init 12 = .ok (.aload_n 0, 1) := by decide +kernel
theorem dX5_init_13 : decode cX5_init 13 = .ok (.bipush 20, 2) := by decide +kernel
theorem dX5_init_15 : decode cX5_init 15 = .ok (.newarray .int, 2) := by decide +kernel
theorem dX5_init_17 : decode cX5_init 17 = .ok (.putfield 15, 3) := by decide +kernel
theorem dX5_init_20 : decode cX5_init 20 = .ok (.aload_n 0, 1) := by decide +kernel
theorem dX5_init_21 : decode cX5_init 21 = .ok (.bipush 20, 2) := by decide +kernel
theorem dX5_init_23 : decode cX5_init 23 = .ok (.newarray .int, 2) := by decide +kernel
theorem dX5_init_25 : decode cX5_init 25 = .ok (.putfield 19, 3) := by decide +kernel
theorem dX5_init_28 : decode cX5_init 28 = .ok (.aload_n 0, 1) := by decide +kernel
theorem dX5_init_29 : decode cX5_init 29 = .ok (.iconst 0, 1) := by decide +kernel
theorem dX5_init_30 : decode cX5_init 30 = .ok (.putfield 22, 3) := by decide +kernel
theorem dX5_init_33 : decode cX5_init 33 = .ok (.return_, 1) := by decide +kernel
theorem dX5_append_0 : decode cX5_append 0 = .ok (.aload_n 0, 1) := by decide +kernel
theorem dX5_append_1 : decode cX5_append 1 = .ok (.getfield 22, 3) := by decide +kernel
theorem dX5_append_4 : decode cX5_append 4 = .ok (.bipush 20, 2) := by decide +kernel
theorem dX5_append_6 : decode cX5_append 6 = .ok (.if_icmp .ge 43, 3) := by decide +kernel
theorem dX5_append_9 : decode cX5_append 9 = .ok (.aload_n 0, 1) := by decide +kernel
theorem dX5_append_10 : decode cX5_append 10 = .ok (.getfield 9, 3) := by decide +kernel
theorem dX5_append_13 : decode cX5_append 13 = .ok (.aload_n 0, 1) := by decide +kernel
theorem dX5_append_14 : decode cX5_append 14 = .ok (.getfield 22, 3) := by decide +kernel
theorem dX5_append_17 : decode cX5_append 17 = .ok (.iload_n 1, 1) := by decide +kernel
theorem dX5_append_18 : decode cX5_append 18 = .ok (.castore, 1) := by decide +kernel
theorem dX5_append_19 : decode cX5_append 19 = .ok (.aload_n 0, 1) := by decide +kernel
theorem dX5_append_20 : decode cX5_append 20 = .ok (.getfield 15, 3) := by decide +kernel
theorem dX5_append_23 : decode cX5_append 23 = .ok (.aload_n 0, 1) := by decide +kernel
theorem dX5_append_24 : decode cX5_append 24 = .ok (.getfield 22, 3) := by decide +kernel
theorem dX5_append_27 : decode cX5_append 27 = .ok (.iload_n 2, 1) := by decide +kernel
theorem dX5_append_28 : decode cX5_append 28 = .ok (.iastore, 1) := by decide +kernel
theorem dX5_append_29 : decode cX5_append 29 = .ok (.aload_n 0, 1) := by decide +kernel
theorem dX5_append_30 : decode cX5_append 30 = .ok (.getfield 19, 3) := by decide +kernel
theorem dX5_append_33 : decode cX5_append 33 = .ok (.aload_n 0, 1) := by decide +kernel
theorem dX5_append_34 : decode cX5_append 34 = .ok (.getfield 22, 3) := by decide +kernel
theorem dX5_append_37 : decode cX5_append 37 = .ok (.iload_n 3, 1) := by decide +kernel
theorem dX5_append_38 : decode cX5_append 38 = .ok (.iastore, 1) := by decide +kernel
theorem dX5_append_39 : decode cX5_append 39 = .ok (.aload_n 0, 1) := by decide +kernel
theorem dX5_append_40 : decode cX5_append 40 = .ok (.dup, 1) := by decide +kernel
theorem dX5_append_41 : decode cX5_append 41 = .ok (.getfield 22, 3) := by decide +kernel
theorem dX5_append_44 : decode cX5_append 44 = .ok (.iconst 1, 1) := by decide +kernel
theorem dX5_append_45 : decode cX5_append 45 = .ok (.iadd, 1) := by decide +kernel
theorem dX5_append_46 : decode cX5_append 46 = .ok (.putfield 22, 3) := by decide +kernel
theorem dX5_append_49 : decode cX5_append 49 = .ok (.return_, 1) := by decide +kernel
theorem dX5_clear_0 : decode cX5_clear 0 = .ok (.aload_n 0, 1) := by decide +kernel
theorem dX5_clear_1 : decode cX5_clear 1 = .ok (.getfield 22, 3) := by decide +kernel
theorem dX5_clear_4 : decode cX5_clear 4 = .ok (.istore_n 1, 1) := by decide +kernel
theorem dX5_clear_5 : decode cX5_clear 5 = .ok (.aload_n 0, 1) := by decide +kernel
theorem dX5_clear_6 : decode cX5_clear 6 = .ok (.iconst 0, 1) := by decide +kernel
theorem dX5_clear_7 : decode cX5_clear 7 = .ok (.putfield 22, 3) := by decide +kernel
theorem dX5_clear_10 : decode cX5_clear 10 = .ok (.iload_n 1, 1) := by decide +kernel
theorem dX5_clear_11 : decode cX5_clear 11 = .ok (.ireturn, 1) := by decide +kernel
theorem dX5_copyFrom_0 : decode cX5_copyFrom 0 = .ok (.aload_n 0, 1) := by decide +kernel
theorem dX5_copyFrom_1 : decode cX5_copyFrom 1 = .ok (.iconst 0, 1) := by decide +kernel
theorem dX5_copyFrom_2 : decode cX5_copyFrom 2 = .ok (.putfield 22, 3) := by decide +kernel
theorem dX5_copyFrom_5 : decode cX5_copyFrom 5 = .ok (.iconst 0, 1) := by decide +kernel
theorem dX5_copyFrom_6 : decode cX5_copyFrom 6 = .ok (.istore_n 2, 1) := by decide +kernel
theorem dX5_copyFrom_7 : decode cX5_copyFrom 7 = .ok (.iload_n 2, 1) := by decide +kernel
theorem dX5_copyFrom_8 : decode cX5_copyFrom 8 = .ok (.aload_n 1, 1) := by decide +kernel
theorem dX5_copyFrom_9 : decode cX5_copyFrom 9 = .ok (.getfield 22, 3) := by decide +kernel
theorem dX5_copyFrom_12 : decode cX5_copyFrom 12 = .ok (.if_icmp .ge 31, 3) := by decide +kernel
theorem dX5_copyFrom_15 : decode cX5_copyFrom 15 = .ok (.aload_n 0, 1) := by decide +kernel
theorem dX5_copyFrom_16 : decode cX5_copyFrom 16 = .ok (.aload_n 1, 1) := by decide +kernel
theorem dX5_copyFrom_17 : decode cX5_copyFrom 17 = .ok (.getfield 9, 3) := by decide +kernel
theorem dX5_copyFrom_20 : decode cX5_copyFrom 20 = .ok (.iload_n 2, 1) := by decide +kernel
theorem dX5_copyFrom_21 : decode cX5_copyFrom 21 = .ok (.caload, 1) := by decide +kernel
theorem dX5_copyFrom_22 : decode cX5_copyFrom 22 = .ok (.aload_n 1, 1) := by decide +kernel
theorem dX5_copyFrom_23 : decode cX5_copyFrom 23 = .ok (.getfield 15, 3) := by decide +kernel
theorem dX5_copyFrom_26 : decode cX5_copyFrom 26 = .ok (.iload_n 2, 1) := by decide +kernel
theorem dX5_copyFrom_27 : decode cX5_copyFrom 27 = .ok (.iaload, 1) := by decide +kernel
theorem dX5_copyFrom_28 : decode cX5_copyFrom 28 = .ok (.aload_n 1, 1) := by decide +kernel
theorem dX5_copyFrom_29 : decode cX5_copyFrom 29 = .ok (.getfield 19, 3) := by decide +kernel
theorem dX5_copyFrom_32 : decode cX5_copyFrom 32 = .ok (.iload_n 2, 1) := by decide +kernel
theorem dX5_copyFrom_33 : decode cX5_copyFrom 33 = .ok (.iaload, 1) := by decide +kernel
theorem dX5_copyFrom_34 : decode cX5_copyFrom 34 = .ok (.invokevirtual 26, 3) := by decide +kernel
theorem dX5_copyFrom_37 : decode cX5_copyFrom 37 = .ok (.iinc 2 1, 3) := by decide +kernel
theorem dX5_copyFrom_40 : decode cX5_copyFrom 40 = .ok (.goto (-33), 3) := by decide +kernel
theorem dX5_copyFrom_43 : decode cX5_copyFrom 43 = .ok (.return_, 1) := by decide +kernel
theorem dX6_init_0 : decode cX6_init 0 = .ok (.aload_n 0, 1) := by decide +kernel
theorem dX6_init_1 : decode cX6_init 1 = .ok (.invokespecial 3, 3) := by decide +kernel
theorem dX6_init_4 : decode cX6_init 4 = .ok (.aload_n 0, 1) := by decide +kernel
theorem dX6_init_5 : decode cX6_init 5 = .ok (.new 9, 3) := by decide +kernel
theorem dX6_init_8 : decode cX6_init 8 = .ok (.dup, 1) := by decide +kernel
theorem dX6_init_9 : decode cX6_init 9 = .ok (.invokespecial 11, 3) := by decide +kernel
theorem dX6_init_12 : decode cX6_init 12 = .ok (.putfield 12, 3) := by decide +kernel
theorem dX6_init_15 : decode cX6_init 15 = .ok (.aload_n 0, 1) := by decide +kernel
theorem dX6_init_16 : decode cX6_init 16 = .ok (.bipush 6, 2) := by decide +kernel
theorem dX6_init_18 : decode cX6_init 18 = .ok (.newarray .char, 2) := by decide +kernel
theorem dX6_init_20 : decode cX6_init 20 = .ok (.putfield 18, 3) := by decide +kernel
theorem dX6_init_23 : decode cX6_init 23 = .ok (.aload_n 0, 1) := by decide +kernel
theorem dX6_init_24 : decode cX6_init 24 = .ok (.bipush 6, 2) := by decide +kernel
theorem dX6_init_26 : decode cX6_init 26 = .ok (.newarray .int, 2) := by decide +kernel
theorem dX6_init_28 : decode cX6_init 28 = .ok (.putfield 22, 3) := by decide +kernel
theorem dX6_init_31 : decode cX6_init 31 = .ok (.aload_n 0, 1) := by decide +kernel
theorem dX6_init_32 : decode cX6_init 32 = .ok (.bipush 6, 2) := by decide +kernel
theorem dX6_init_34 : decode cX6_init 34 = .ok (.newarray .int, 2) := by decide +kernel
theorem dX6_init_36 : decode cX6_init 36 = .ok (.putfield 26, 3) := by decide +kernel
theorem dX6_init_39 : decode cX6_init 39 = .ok (.aload_n 0, 1) := by decide +kernel
theorem dX6_init_40 : decode cX6_init 40 = .ok (.iconst 0, 1) := by decide +kernel
theorem dX6_init_41 : decode cX6_init 41 = .ok (.putfield 29, 3) := by decide +kernel
theorem dX6_init_44 : decode cX6_init 44 = .ok (.aload_n 0, 1) := by decide +kernel
theorem dX6_init_45 : decode cX6_init 45 = .ok (.iconst 0, 1) := by decide +kernel
theorem dX6_init_46 : decode cX6_init 46 = .ok (.putfield 33, 3) := by decide +kernel
theorem dX6_init_49 : decode cX6_init 49 = .ok (.aload_n 0, 1) := by decide +kernel
theorem dX6_init_50 : decode cX6_init 50 = .ok (.iconst 0, 1) := by decide +kernel
theorem dX6_init_51 : decode cX6_init 51 = .ok (.putfield 36, 3) := by decide +kernel
theorem dX6_init_54 : decode cX6_init 54 = .ok (.aload_n 0, 1) := by decide +kernel
theorem dX6_init_55 : decode cX6_init 55 = .ok (.iconst 0, 1) := by decide +kernel
theorem dX6_init_56 : decode cX6_init 56 = .ok (.putfield 39, 3) := by decide +kernel
theorem dX6_init_59 : decode cX6_init 59 = .ok (.aload_n 0, 1) := by decide +kernel
theorem dX6_init_60 : decode cX6_init 60 = .ok (.bipush 97, 2) := by decide +kernel
theorem dX6_init_62 : decode cX6_init 62 = .ok (.putfield 43, 3) := by decide +kernel
theorem dX6_init_65 : decode cX6_init 65 = .ok (.aload_n 0, 1) := by decide +kernel
theorem dX6_init_66 : decode cX6_init 66 = .ok (.iconst (-1), 1) := by decide +kernel
theorem dX6_init_67 : decode cX6_init 67 = .ok (.putfield 47, 3) := by decide +kernel
theorem dX6_init_70 : decode cX6_init 70 = .ok (.iconst 0, 1) := by decide +kernel
theorem dX6_init_71 : decode cX6_init 71 = .ok (.istore_n 1, 1) := by decide +kernel
theorem dX6_init_72 : decode cX6_init 72 = .ok (.iload_n 1, 1) := by decide +kernel
theorem dX6_init_73 : decode cX6_init 73 = .ok (.bipush 6, 2) := by decide +kernel
theorem dX6_init_75 : decode cX6_init 75 = .ok (.if_icmp .ge 16, 3) := by decide +kernel
theorem dX6_init_78 : decode cX6_init 78 = .ok (.aload_n 0, 1) := by decide +kernel
theorem dX6_init_79 : decode cX6_init 79 = .ok (.getfield 26, 3) := by decide +kernel
theorem dX6_init_82 : decode cX6_init 82 = .ok (.iload_n 1, 1) := by decide +kernel
theorem dX6_init_83 : decode cX6_init 83 = .ok (.iconst (-1), 1) := by decide +kernel
theorem dX6_init_84 : decode cX6_init 84 = .ok (.iastore, 1) := by decide +kernel
theorem dX6_init_85 : decode cX6_init 85 = .ok (.iinc 1 1, 3) := by decide +kernel
theorem dX6_init_88 : decode cX6_init 88 = .ok (.goto (-16), 3) := by decide +kernel
theorem dX6_init_91 : decode cX6_init 91 = .ok (.return_, 1) := by decide +kernel
theorem dX6_conclude_0 : decode cX6_conclude 0 = .ok (.aload_n 0, 1) := by decide +kernel
theorem dX6_conclude_1 : decode cX6_conclude 1 = .ok (.bipush 97, 2) := by decide +kernel
theorem dX6_conclude_3 : decode cX6_conclude 3 = .ok (.putfield 43, 3) := by decide +kernel
theorem dX6_conclude_6 : decode cX6_conclude 6 = .ok (.aload_n 0, 1) := by decide +kernel
theorem dX6_conclude_7 : decode cX6_conclude 7 = .ok (.iconst (-1), 1) := by decide +kernel
theorem dX6_conclude_8 : decode cX6_conclude 8 = .ok (.putfield 47, 3) := by decide +kernel
theorem dX6_conclude_11 : decode cX6_conclude 11 = .ok (.iconst 0, 1) := by decide +kernel
theorem dX6_conclude_12 : decode cX6_conclude 12 = .ok (.istore_n 2, 1) := by decide +kernel
theorem dX6_conclude_13 : decode cX6_conclude 13 = .ok (.iload_n 2, 1) := by decide +kernel
theorem dX6_conclude_14 : decode cX6_conclude 14 = .ok (.iload_n 1, 1) := by decide +kernel
theorem dX6_conclude_15 : decode cX6_conclude 15 = .ok (.if_icmp .ge 43, 3) := by decide +kernel
theorem dX6_conclude_18 : decode cX6_conclude 18 = .ok (.aload_n 0, 1) := by decide +kernel
theorem dX6_conclude_19 : decode cX6_conclude 19 = .ok (.getfield 47, 3) := by decide +kernel
theorem dX6_conclude_22 : decode cX6_conclude 22 = .ok (.iconst (-1), 1) := by decide +kernel
theorem dX6_conclude_23 : decode cX6_conclude 23 = .ok (.if_icmp .ne 35, 3) := by decide +kernel
theorem dX6_conclude_26 : decode cX6_conclude 26 = .ok (.aload_n 0, 1) := by decide +kernel
theorem dX6_conclude_27 : decode cX6_conclude 27 = .ok (.getfield 18, 3) := by decide +kernel
theorem dX6_conclude_30 : decode cX6_conclude 30 = .ok (.iload_n 2, 1) := by decide +kernel
theorem dX6_conclude_31 : decode cX6_conclude 31 = .ok (.caload, 1) := by decide +kernel
theorem dX6_conclude_32 : decode cX6_conclude 32 = .ok (.bipush 111, 2) := by decide +kernel
theorem dX6_conclude_34 : decode cX6_conclude 34 = .ok (.if_icmp .eq 18, 3) := by decide +kernel
theorem dX6_conclude_37 : decode cX6_conclude 37 = .ok (.aload_n 0, 1) := by decide +kernel
theorem dX6_conclude_38 : decode cX6_conclude 38 = .ok (.aload_n 0, 1) := by decide +kernel
theorem dX6_conclude_39 : decode cX6_conclude 39 = .ok (.getfield 18, 3) := by decide +kernel
theorem dX6_conclude_42 : decode cX6_conclude 42 = .ok (.iload_n 2, 1) := by decide +kernel
theorem dX6_conclude_43 : decode cX6_conclude 43 = .ok (.caload, 1) := by decide +kernel
theorem dX6_conclude_44 : decode cX6_conclude 44 = .ok (.putfield 43, 3) := by decide +kernel
theorem dX6_conclude_47 : decode cX6_conclude 47 = .ok (.aload_n 0, 1) := by decide +kernel
theorem dX6_conclude_48 : decode cX6_conclude 48 = .ok (.iload_n 2, 1) := by decide +kernel
theorem dX6_conclude_49 : decode cX6_conclude 49 = .ok (.putfield 47, 3) := by decide +kernel
theorem dX6_conclude_52 : decode cX6_conclude 52 = .ok (.iinc 2 1, 3) := by decide +kernel
theorem dX6_conclude_55 : decode cX6_conclude 55 = .ok (.goto (-42), 3) := by decide +kernel
theorem dX6_conclude_58 : decode cX6_conclude 58 = .ok (.return_, 1) := by decide +kernel
theorem dX7_init_0 : decode cX7_init 0 = .ok (.aload_n 0, 1) := by decide +kernel
theorem dX7_init_1 : decode cX7_init 1 = .ok (.invokespecial 3, 3) := by decide +kernel
theorem dX7_init_4 : decode cX7_init 4 = .ok (.aload_n 0, 1) := by decide +kernel
theorem dX7_init_5 : decode cX7_init 5 = .ok (.sipush 1440, 3) := by decide +kernel
theorem dX7_init_8 : decode cX7_init 8 = .ok (.newarray .int, 2) := by decide +kernel
theorem dX7_init_10 : decode cX7_init 10 = .ok (.putfield 9, 3) := by decide +kernel
theorem dX7_init_13 : decode cX7_init 13 = .ok (.aload_n 0, 1) := by decide +kernel
theorem dX7_init_14 : decode cX7_init 14 = .ok (.sipush 240, 3) := by decide +kernel
theorem dX7_init_17 : decode cX7_init 17 = .ok (.newarray .int, 2) := by decide +kernel
theorem dX7_init_19 : decode cX7_init 19 = .ok (.putfield 15, 3) := by decide +kernel
theorem dX7_init_22 : decode cX7_init 22 = .ok (.aload_n 0, 1) := by decide +kernel
theorem dX7_init_23 : decode cX7_init 23 = .ok (.sipush 240, 3) := by decide +kernel
theorem dX7_init_26 : decode cX7_init 26 = .ok (.newarray .int, 2) := by decide +kernel
theorem dX7_init_28 : decode cX7_init 28 = .ok (.putfield 18, 3) := by decide +kernel
theorem dX7_init_31 : decode cX7_init 31 = .ok (.aload_n 0, 1) := by decide +kernel
theorem dX7_init_32 : decode cX7_init 32 = .ok (.iconst 0, 1) := by decide +kernel
theorem dX7_init_33 : decode cX7_init 33 = .ok (.putfield 21, 3) := by decide +kernel
theorem dX7_init_36 : decode cX7_init 36 = .ok (.return_, 1) := by decide +kernel
theorem dX7_keep_0 : decode cX7_keep 0 = .ok (.aload_n 0, 1) := by decide +kernel
theorem dX7_keep_1 : decode cX7_keep 1 = .ok (.aload_n 1, 1) := by decide +kernel
theorem dX7_keep_2 : decode cX7_keep 2 = .ok (.iload_n 2, 1) := by decide +kernel
theorem dX7_keep_3 : decode cX7_keep 3 = .ok (.invokevirtual 25, 3) := by decide +kernel
theorem dX7_keep_6 : decode cX7_keep 6 = .ok (.istore_n 3, 1) := by decide +kernel
theorem dX7_keep_7 : decode cX7_keep 7 = .ok (.iload_n 3, 1) := by decide +kernel
theorem dX7_keep_8 : decode cX7_keep 8 = .ok (.iconst (-1), 1) := by decide +kernel
theorem dX7_keep_9 : decode cX7_keep 9 = .ok (.if_icmp .ne 25, 3) := by decide +kernel
theorem dX7_keep_12 : decode cX7_keep 12 = .ok (.aload_n 0, 1) := by decide +kernel
theorem dX7_keep_13 : decode cX7_keep 13 = .ok (.invokevirtual 29, 3) := by decide +kernel
theorem dX7_keep_16 : decode cX7_keep 16 = .ok (.istore_n 3, 1) := by decide +kernel
theorem dX7_keep_17 : decode cX7_keep 17 = .ok (.aload_n 0, 1) := by decide +kernel
theorem dX7_keep_18 : decode cX7_keep 18 = .ok (.iload_n 3, 1) := by decide +kernel
theorem dX7_keep_19 : decode cX7_keep 19 = .ok (.aload_n 1, 1) := by decide +kernel
theorem dX7_keep_20 : decode cX7_keep 20 = .ok (.iload_n 2, 1) := by decide +kernel
theorem dX7_keep_21 : decode cX7_keep 21 = .ok (.invokevirtual 33, 3) := by decide +kernel
theorem dX7_keep_24 : decode cX7_keep 24 = .ok (.aload_n 0, 1) := by decide +kernel
theorem dX7_keep_25 : decode cX7_keep 25 = .ok (.dup, 1) := by decide +kernel
theorem dX7_keep_26 : decode cX7_keep 26 = .ok (.getfield 21, 3) := by decide +kernel
theorem dX7_keep_29 : decode cX7_keep 29 = .ok (.iconst 1, 1) := by decide +kernel
theorem dX7_keep_30 : decode cX7_keep 30 = .ok (.iadd, 1) := by decide +kernel
theorem dX7_keep_31 : decode cX7_keep 31 = .ok (.putfield 21, 3) := by decide +kernel
theorem dX7_keep_34 : decode cX7_keep 34 = .ok (.aload_n 0, 1) := by decide +kernel
theorem dX7_keep_35 : decode cX7_keep 35 = .ok (.getfield 18, 3) := by decide +kernel
theorem dX7_keep_38 : decode cX7_keep 38 = .ok (.iload_n 3, 1) := by decide +kernel
theorem dX7_keep_39 : decode cX7_keep 39 = .ok (.dup2, 1) := by decide +kernel
theorem dX7_keep_40 : decode cX7_keep 40 = .ok (.iaload, 1) := by decide +kernel
theorem dX7_keep_41 : decode cX7_keep 41 = .ok (.iconst 1, 1) := by decide +kernel
theorem dX7_keep_42 : decode cX7_keep 42 = .ok (.iadd, 1) := by decide +kernel
theorem dX7_keep_43 : decode cX7_keep 43 = .ok (.iastore, 1) := by decide +kernel
theorem dX7_keep_44 : decode cX7_keep 44 = .ok (.iload_n 3, 1) := by decide +kernel
theorem dX7_keep_45 : decode cX7_keep 45 = .ok (.ireturn, 1) := by decide +kernel
theorem dX7_release_0 : decode cX7_release 0 = .ok (.iload_n 1, 1) := by decide +kernel
theorem dX7_release_1 : decode cX7_release 1 = .ok (.ifCond .lt 10, 3) := by decide +kernel
theorem dX7_release_4 : decode cX7_release 4 = .ok (.iload_n 1, 1) := by decide +kernel
theorem dX7_release_5 : decode cX7_release 5 = .ok (.sipush 240, 3) := by decide +kernel
theorem dX7_release_8 : decode cX7_release 8 = .ok (.if_icmp .lt 4, 3) := by decide +kernel
theorem dX7_release_11 : decode cX7_release 11 = .ok (.return_, 1) := by decide +kernel
theorem dX7_release_12 : decode cX7_release 12 = .ok (.aload_n 0, 1) := by decide +kernel
theorem dX7_release_13 : decode cX7_release 13 = .ok (.getfield 18, 3) := by decide +kernel
theorem dX7_release_16 : decode cX7_release 16 = .ok (.iload_n 1, 1) := by decide +kernel
theorem dX7_release_17 : decode cX7_release 17 = .ok (.dup2, 1) := by decide +kernel
theorem dX7_release_18 : decode cX7_release 18 = .ok (.iaload, 1) := by decide +kernel
theorem dX7_release_19 : decode cX7_release 19 = .ok (.iconst 1, 1) := by decide +kernel
theorem dX7_release_20 : decode cX7_release 20 = .ok (.isub, 1) := by decide +kernel
theorem dX7_release_21 : decode cX7_release 21 = .ok (.iastore, 1) := by decide +kernel
theorem dX7_release_22 : decode cX7_release 22 = .ok (.aload_n 0, 1) := by decide +kernel
theorem dX7_release_23 : decode cX7_release 23 = .ok (.getfield 18, 3) := by decide +kernel
theorem dX7_release_26 : decode cX7_release 26 = .ok (.iload_n 1, 1) := by decide +kernel
theorem dX7_release_27 : decode cX7_release 27 = .ok (.iaload, 1) := by decide +kernel
theorem dX7_release_28 : decode cX7_release 28 = .ok (.ifCond .ne 13, 3) := by decide +kernel
theorem dX7_release_31 : decode cX7_release 31 = .ok (.aload_n 0, 1) := by decide +kernel
theorem dX7_release_32 : decode cX7_release 32 = .ok (.dup, 1) := by decide +kernel
theorem dX7_release_33 : decode cX7_release 33 = .ok (.getfield 21, 3) := by decide +kernel
theorem dX7_release_36 : decode cX7_release 36 = .ok (.iconst 1, 1) := by decide +kernel
theorem dX7_release_37 : decode cX7_release 37 = .ok (.isub, 1) := by decide +kernel
theorem dX7_release_38 : decode cX7_release 38 = .ok (.putfield 21, 3) := by decide +kernel
theorem dX7_release_41 : decode cX7_release 41 = .ok (.return_, 1) := by decide +kernel
theorem dX7_sizeOf_0 : decode cX7_sizeOf 0 = .ok (.iload_n 1, 1) := by decide +kernel
theorem dX7_sizeOf_1 : decode cX7_sizeOf 1 = .ok (.ifCond .lt 10, 3) := by decide +kernel
theorem dX7_sizeOf_4 : decode cX7_sizeOf 4 = .ok (.iload_n 1, 1) := by decide +kernel
theorem dX7_sizeOf_5 : decode cX7_sizeOf 5 = .ok (.sipush 240, 3) := by decide +kernel
theorem dX7_sizeOf_8 : decode cX7_sizeOf 8 = .ok (.if_icmp .lt 7, 3) := by decide +kernel
theorem dX7_sizeOf_11 : decode cX7_sizeOf 11 = .ok (.iconst 0, 1) := by decide +kernel
theorem dX7_sizeOf_12 : decode cX7_sizeOf 12 = .ok (.goto 9, 3) := by decide +kernel
theorem dX7_sizeOf_15 : decode cX7_sizeOf 15 = .ok (.aload_n 0, 1) := by decide +kernel
theorem dX7_sizeOf_16 : decode cX7_sizeOf 16 = .ok (.getfield 15, 3) := by decide +kernel
theorem dX7_sizeOf_19 : decode cX7_sizeOf 19 = .ok (.iload_n 1, 1) := by decide +kernel
theorem dX7_sizeOf_20 : decode cX7_sizeOf 20 = .ok (.iaload, 1) := by decide +kernel
theorem dX7_sizeOf_21 : decode cX7_sizeOf 21 = .ok (.ireturn, 1) := by decide +kernel
theorem dX7_usersOf_0 : decode cX7_usersOf 0 = .ok (.iload_n 1, 1) := by decide +kernel
theorem dX7_usersOf_1 : decode cX7_usersOf 1 = .ok (.ifCond .lt 10, 3) := by decide +kernel
theorem dX7_usersOf_4 : decode cX7_usersOf 4 = .ok (.iload_n 1, 1) := by decide +kernel
theorem dX7_usersOf_5 : decode cX7_usersOf 5 = .ok (.sipush 240, 3) := by decide +kernel
theorem dX7_usersOf_8 : decode cX7_usersOf 8 = .ok (.if_icmp .lt 7, 3) := by decide +kernel
theorem dX7_usersOf_11 : decode cX7_usersOf 11 = .ok (.iconst 0, 1) := by decide +kernel
theorem dX7_usersOf_12 : decode cX7_usersOf 12 = .ok (.goto 9, 3) := by decide +kernel
theorem dX7_usersOf_15 : decode cX7_usersOf 15 = .ok (.aload_n 0, 1) := by decide +kernel
theorem dX7_usersOf_16 : decode cX7_usersOf 16 = .ok (.getfield 18, 3) := by decide +kernel
theorem dX7_usersOf_19 : decode cX7_usersOf 19 = .ok (.iload_n 1, 1) := by decide +kernel
theorem dX7_usersOf_20 : decode cX7_usersOf 20 = .ok (.iaload, 1) := by decide +kernel
theorem dX7_usersOf_21 : decode cX7_usersOf 21 = .ok (.ireturn, 1) := by decide +kernel
theorem dX7_numberAt_0 : decode cX7_numberAt 0 = .ok (.aload_n 0, 1) := by decide +kernel
theorem dX7_numberAt_1 : decode cX7_numberAt 1 = .ok (.getfield 9, 3) := by decide +kernel
theorem dX7_numberAt_4 : decode cX7_numberAt 4 = .ok (.iload_n 1, 1) := by decide +kernel
theorem dX7_numberAt_5 : decode cX7_numberAt 5 = .ok (.bipush 6, 2) := by decide +kernel
theorem dX7_numberAt_7 : decode cX7_numberAt 7 = .ok (.imul, 1) := by decide +kernel
theorem dX7_numberAt_8 : decode cX7_numberAt 8 = .ok (.iload_n 2, 1) := by decide +kernel
theorem dX7_numberAt_9 : decode cX7_numberAt 9 = .ok (.iadd, 1) := by decide +kernel
theorem dX7_numberAt_10 : decode cX7_numberAt 10 = .ok (.iaload, 1) := by decide +kernel
theorem dX7_numberAt_11 : decode cX7_numberAt 11 = .ok (.ireturn, 1) := by decide +kernel
theorem dX7_isAlike_0 : decode cX7_isAlike 0 = .ok (.aload_n 0, 1) := by decide +kernel
theorem dX7_isAlike_1 : decode cX7_isAlike 1 = .ok (.iload_n 1, 1) := by decide +kernel
theorem dX7_isAlike_2 : decode cX7_isAlike 2 = .ok (.invokevirtual 37, 3) := by decide +kernel
theorem dX7_isAlike_5 : decode cX7_isAlike 5 = .ok (.iload_n 3, 1) := by decide +kernel
theorem dX7_isAlike_6 : decode cX7_isAlike 6 = .ok (.if_icmp .eq 5, 3) := by decide +kernel
theorem dX7_isAlike_9 : decode cX7_isAlike 9 = .ok (.iconst 0, 1) := by decide +kernel
theorem dX7_isAlike_10 : decode cX7_isAlike 10 = .ok (.ireturn, 1) := by decide +kernel
theorem dX7_isAlike_11 : decode cX7_isAlike 11 = .ok (.iconst 0, 1) := by decide +kernel
theorem dX7_isAlike_12 : decode cX7_isAlike 12 = .ok (.istore 4, 2) := by decide +kernel
theorem dX7_isAlike_14 : decode cX7_isAlike 14 = .ok (.iload 4, 2) := by decide +kernel
theorem dX7_isAlike_16 : decode cX7_isAlike 16 = .ok (.iload_n 3, 1) := by decide +kernel
theorem dX7_isAlike_17 : decode cX7_isAlike 17 = .ok (.if_icmp .ge 25, 3) := by decide +kernel
theorem dX7_isAlike_20 : decode cX7_isAlike 20 = .ok (.aload_n 0, 1) := by decide +kernel
theorem dX7_isAlike_21 : decode cX7_isAlike 21 = .ok (.iload_n 1, 1) := by decide +kernel
theorem dX7_isAlike_22 : decode cX7_isAlike 22 = .ok (.iload 4, 2) := by decide +kernel
theorem dX7_isAlike_24 : decode cX7_isAlike 24 = .ok (.invokevirtual 41, 3) := by decide +kernel
theorem dX7_isAlike_27 : decode cX7_isAlike 27 = .ok (.aload_n 2, 1) := by decide +kernel
theorem dX7_isAlike_28 : decode cX7_isAlike 28 = .ok (.iload 4, 2) := by decide +kernel
theorem dX7_isAlike_30 : decode cX7_isAlike 30 = .ok (.iaload, 1) := by decide +kernel
theorem dX7_isAlike_31 : decode cX7_isAlike 31 = .ok (.if_icmp .eq 5, 3) := by decide +kernel
theorem dX7_isAlike_34 : decode cX7_isAlike 34 = .ok (.iconst 0, 1) := by decide +kernel
theorem dX7_isAlike_35 : decode cX7_isAlike 35 = .ok (.ireturn, 1) := by decide +kernel
theorem dX7_isAlike_36 : decode cX7_isAlike 36 = .ok (.iinc 4 1, 3) := by decide +kernel
theorem dX7_isAlike_39 : decode cX7_isAlike 39 = .ok (.goto (-25), 3) := by decide +kernel
theorem dX7_isAlike_42 : decode cX7_isAlike 42 = .ok (.iconst 1, 1) := by decide +kernel
theorem dX7_isAlike_43 : decode cX7_isAlike 43 = .ok (.ireturn, 1) := by decide +kernel
theorem dX7_addTo_0 : decode cX7_addTo 0 = .ok (.lload_n 1, 1) := by decide +kernel
theorem dX7_addTo_1 : decode cX7_addTo 1 = .ok (.lstore 4, 2) := by decide +kernel
theorem dX7_addTo_3 : decode cX7_addTo 3 = .ok (.iconst 0, 1) := by decide +kernel
theorem dX7_addTo_4 : decode cX7_addTo 4 = .ok (.istore 6, 2) := by decide +kernel
theorem dX7_addTo_6 : decode cX7_addTo 6 = .ok (.iload 6, 2) := by decide +kernel
theorem dX7_addTo_8 : decode cX7_addTo 8 = .ok (.aload_n 0, 1) := by decide +kernel
theorem dX7_addTo_9 : decode cX7_addTo 9 = .ok (.iload_n 3, 1) := by decide +kernel
theorem dX7_addTo_10 : decode cX7_addTo 10 = .ok (.invokevirtual 37, 3) := by decide +kernel
theorem dX7_addTo_13 : decode cX7_addTo 13 = .ok (.if_icmp .ge 26, 3) := by decide +kernel
theorem dX7_addTo_16 : decode cX7_addTo 16 = .ok (.ldc2_w 45, 3) := by decide +kernel
theorem dX7_addTo_19 : decode cX7_addTo 19 = .ok (.lload 4, 2) := by decide +kernel
theorem dX7_addTo_21 : decode cX7_addTo 21 = .ok (.lmul, 1) := by decide +kernel
theorem dX7_addTo_22 : decode cX7_addTo 22 = .ok (.aload_n 0, 1) := by decide +kernel
theorem dX7_addTo_23 : decode cX7_addTo 23 = .ok (.iload_n 3, 1) := by decide +kernel
theorem dX7_addTo_24 : decode cX7_addTo 24 = .ok (.iload 6, 2) := by decide +kernel
theorem dX7_addTo_26 : decode cX7_addTo 26 = .ok (.invokevirtual 41, 3) := by decide +kernel
theorem dX7_addTo_29 : decode cX7_addTo 29 = .ok (.i2l, 1) := by decide +kernel
theorem dX7_addTo_30 : decode cX7_addTo 30 = .ok (.ladd, 1) := by decide +kernel
theorem dX7_addTo_31 : decode cX7_addTo 31 = .ok (.lstore 4, 2) := by decide +kernel
theorem dX7_addTo_33 : decode cX7_addTo 33 = .ok (.iinc 6 1, 3) := by decide +kernel
theorem dX7_addTo_36 : decode cX7_addTo 36 = .ok (.goto (-30), 3) := by decide +kernel
theorem dX7_addTo_39 : decode cX7_addTo 39 = .ok (.lload 4, 2) := by decide +kernel
theorem dX7_addTo_41 : decode cX7_addTo 41 = .ok (.lreturn, 1) := by decide +kernel
theorem dX7_find_0 : decode cX7_find 0 = .ok (.iconst 0, 1) := by decide +kernel
theorem dX7_find_1 : decode cX7_find 1 = .ok (.istore_n 3, 1) := by decide +kernel
theorem dX7_find_2 : decode cX7_find 2 = .ok (.iload_n 3, 1) := by decide +kernel
theorem dX7_find_3 : decode cX7_find 3 = .ok (.sipush 240, 3) := by decide +kernel
theorem dX7_find_6 : decode cX7_find 6 = .ok (.if_icmp .ge 30, 3) := by decide +kernel
theorem dX7_find_9 : decode cX7_find 9 = .ok (.aload_n 0, 1) := by decide +kernel
theorem dX7_find_10 : decode cX7_find 10 = .ok (.getfield 18, 3) := by decide +kernel
theorem dX7_find_13 : decode cX7_find 13 = .ok (.iload_n 3, 1) := by decide +kernel
theorem dX7_find_14 : decode cX7_find 14 = .ok (.iaload, 1) := by decide +kernel
theorem dX7_find_15 : decode cX7_find 15 = .ok (.ifCond .le 15, 3) := by decide +kernel
theorem dX7_find_18 : decode cX7_find 18 = .ok (.aload_n 0, 1) := by decide +kernel
theorem dX7_find_19 : decode cX7_find 19 = .ok (.iload_n 3, 1) := by decide +kernel
theorem dX7_find_20 : decode cX7_find 20 = .ok (.aload_n 1, 1) := by decide +kernel
theorem dX7_find_21 : decode cX7_find 21 = .ok (.iload_n 2, 1) := by decide +kernel
theorem dX7_find_22 : decode cX7_find 22 = .ok (.invokevirtual 47, 3) := by decide +kernel
theorem dX7_find_25 : decode cX7_find 25 = .ok (.ifCond .eq 5, 3) := by decide +kernel
theorem dX7_find_28 : decode cX7_find 28 = .ok (.iload_n 3, 1) := by decide +kernel
theorem dX7_find_29 : decode cX7_find 29 = .ok (.ireturn, 1) := by decide +kernel
theorem dX7_find_30 : decode cX7_find 30 = .ok (.iinc 3 1, 3) := by decide +kernel
theorem dX7_find_33 : decode cX7_find 33 = .ok (.goto (-31), 3) := by decide +kernel
theorem dX7_find_36 : decode cX7_find 36 = .ok (.iconst (-1), 1) := by decide +kernel
theorem dX7_find_37 : decode cX7_find 37 = .ok (.ireturn, 1) := by decide +kernel
theorem dX7_firstFree_0 : decode cX7_firstFree 0 = .ok (.iconst 0, 1) := by decide +kernel
theorem dX7_firstFree_1 : decode cX7_firstFree 1 = .ok (.istore_n 1, 1) := by decide +kernel
theorem dX7_firstFree_2 : decode cX7_firstFree 2 = .ok (.iload_n 1, 1) := by decide +kernel
theorem dX7_firstFree_3 : decode cX7_firstFree 3 = .ok (.sipush 239, 3) := by decide +kernel
theorem dX7_firstFree_6 : decode cX7_firstFree 6 = .ok (.if_icmp .ge 18, 3) := by decide +kernel
theorem dX7_firstFree_9 : decode cX7_firstFree 9 = .ok (.aload_n 0, 1) := by decide +kernel
theorem dX7_firstFree_10 : decode cX7_firstFree 10 = .ok (.getfield 18, 3) := by decide +kernel
theorem dX7_firstFree_13 : decode cX7_firstFree 13 = .ok (.iload_n 1, 1) := by decide +kernel
theorem dX7_firstFree_14 : decode cX7_firstFree 14 = .ok (.iaload, 1) := by decide +kernel
theorem dX7_firstFree_15 : decode cX7_firstFree 15 = .ok (.ifCond .le 9, 3) := by decide +kernel
theorem dX7_firstFree_18 : decode cX7_firstFree 18 = .ok (.iinc 1 1, 3) := by decide +kernel
theorem dX7_firstFree_21 : decode cX7_firstFree 21 = .ok (.goto (-19), 3) := by decide +kernel
theorem dX7_firstFree_24 : decode cX7_firstFree 24 = .ok (.iload_n 1, 1) := by decide +kernel
theorem dX7_firstFree_25 : decode cX7_firstFree 25 = .ok (.ireturn, 1) := by decide +kernel
theorem dX7_fill_0 : decode cX7_fill 0 = .ok (.iconst 0, 1) := by decide +kernel
theorem dX7_fill_1 : decode cX7_fill 1 = .ok (.istore 4, 2) := by decide +kernel
theorem dX7_fill_3 : decode cX7_fill 3 = .ok (.iload 4, 2) := by decide +kernel
theorem dX7_fill_5 : decode cX7_fill 5 = .ok (.iload_n 3, 1) := by decide +kernel
theorem dX7_fill_6 : decode cX7_fill 6 = .ok (.if_icmp .ge 25, 3) := by decide +kernel
theorem dX7_fill_9 : decode cX7_fill 9 = .ok (.aload_n 0, 1) := by decide +kernel
theorem dX7_fill_10 : decode cX7_fill 10 = .ok (.getfield 9, 3) := by decide +kernel
theorem dX7_fill_13 : decode cX7_fill 13 = .ok (.iload_n 1, 1) := by decide +kernel
theorem dX7_fill_14 : decode cX7_fill 14 = .ok (.bipush 6, 2) := by decide +kernel
theorem dX7_fill_16 : decode cX7_fill 16 = .ok (.imul, 1) := by decide +kernel
theorem dX7_fill_17 : decode cX7_fill 17 = .ok (.iload 4, 2) := by decide +kernel
theorem dX7_fill_19 : decode cX7_fill 19 = .ok (.iadd, 1) := by decide +kernel
theorem dX7_fill_20 : decode cX7_fill 20 = .ok (.aload_n 2, 1) := by decide +kernel
theorem dX7_fill_21 : decode cX7_fill 21 = .ok (.iload 4, 2) := by decide +kernel
theorem dX7_fill_23 : decode cX7_fill 23 = .ok (.iaload, 1) := by decide +kernel
theorem dX7_fill_24 : decode cX7_fill 24 = .ok (.iastore, 1) := by decide +kernel
theorem dX7_fill_25 : decode cX7_fill 25 = .ok (.iinc 4 1, 3) := by decide +kernel
theorem dX7_fill_28 : decode cX7_fill 28 = .ok (.goto (-25), 3) := by decide +kernel
theorem dX7_fill_31 : decode cX7_fill 31 = .ok (.aload_n 0, 1) := by decide +kernel
theorem dX7_fill_32 : decode cX7_fill 32 = .ok (.getfield 15, 3) := by decide +kernel
theorem dX7_fill_35 : decode cX7_fill 35 = .ok (.iload_n 1, 1) := by decide +kernel
theorem dX7_fill_36 : decode cX7_fill 36 = .ok (.iload_n 3, 1) := by decide +kernel
theorem dX7_fill_37 : decode cX7_fill 37 = .ok (.iastore, 1) := by decide +kernel
theorem dX7_fill_38 : decode cX7_fill 38 = .ok (.return_, 1) := by decide +kernel
