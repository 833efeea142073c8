theorem dX0_init_0 : decode cX0_init 0 = .ok (.aload_n 0, 1) := by decide +kernel
theorem dX0_init_1 : decode cX0_init 1 = .ok (.invokespecial 3, 3) := by decide +kernel
theorem dX0_init_4 : decode cX0_init 4 = .ok (.aload_n 0, 1) := by decide +kernel
theorem dX0_init_5 : decode cX0_init 5 = .ok (.bipush 30, 2) := by decide +kernel
theorem dX0_init_7 : decode cX0_init 7 = .ok (.newarray .int, 2) := by decide +kernel
theorem dX0_init_9 : decode cX0_init 9 = .ok (.putfield 9, 3) := by decide +kernel
theorem dX0_init_12 : decode cX0_init 12 = .ok (.aload_n 0, 1) := by decide +kernel
theorem dX0_init_13 : decode cX0_init 13 = .ok (.bipush 30, 2) := by decide +kernel
theorem dX0_init_15 : decode cX0_init 15 = .ok (.newarray .int, 2) := by decide +kernel
theorem dX0_init_17 : decode cX0_init 17 = .ok (.putfield 15, 3) := by decide +kernel
theorem dX0_init_20 : decode cX0_init 20 = .ok (.aload_n 0, 1) := by decide +kernel
theorem dX0_init_21 : decode cX0_init 21 = .ok (.bipush 30, 2) := by decide +kernel
theorem dX0_init_23 : decode cX0_init 23 = .ok (.newarray .int, 2) := by decide +kernel
theorem dX0_init_25 : decode cX0_init 25 = .ok (.putfield 18, 3) := by decide +kernel
theorem dX0_init_28 : decode cX0_init 28 = .ok (.aload_n 0, 1) := by decide +kernel
theorem dX0_init_29 : decode cX0_init 29 = .ok (.bipush 30, 2) := by decide +kernel
theorem dX0_init_31 : decode cX0_init 31 = .ok (.newarray .int, 2) := by decide +kernel
theorem dX0_init_33 : decode cX0_init 33 = .ok (.putfield 21, 3) := by decide +kernel
theorem dX0_init_36 : decode cX0_init 36 = .ok (.aload_n 0, 1) := by decide +kernel
theorem dX0_init_37 : decode cX0_init 37 = .ok (.bipush 30, 2) := by decide +kernel
theorem dX0_init_39 : decode cX0_init 39 = .ok (.newarray .boolean, 2) := by decide +kernel
theorem dX0_init_41 : decode cX0_init 41 = .ok (.putfield 24, 3) := by decide +kernel
theorem dX0_init_44 : decode cX0_init 44 = .ok (.aload_n 0, 1) := by decide +kernel
theorem dX0_init_45 : decode cX0_init 45 = .ok (.iconst 0, 1) := by decide +kernel
theorem dX0_init_46 : decode cX0_init 46 = .ok (.putfield 28, 3) := by decide +kernel
theorem dX0_init_49 : decode cX0_init 49 = .ok (.aload_n 0, 1) := by decide +kernel
theorem dX0_init_50 : decode cX0_init 50 = .ok (.bipush 10, 2) := by decide +kernel
theorem dX0_init_52 : decode cX0_init 52 = .ok (.putfield 32, 3) := by decide +kernel
theorem dX0_init_55 : decode cX0_init 55 = .ok (.return_, 1) := by decide +kernel
theorem dX0_dangerBy_0 : decode cX0_dangerBy 0 = .ok (.aload_n 3, 1) := by decide +kernel
theorem dX0_dangerBy_1 : decode cX0_dangerBy 1 = .ok (.getfield 35, 3) := by decide +kernel
theorem dX0_dangerBy_4 : decode cX0_dangerBy 4 = .ok (.aload_n 0, 1) := by decide +kernel
theorem dX0_dangerBy_5 : decode cX0_dangerBy 5 = .ok (.getfield 18, 3) := by decide +kernel
theorem dX0_dangerBy_8 : decode cX0_dangerBy 8 = .ok (.iload_n 1, 1) := by decide +kernel
theorem dX0_dangerBy_9 : decode cX0_dangerBy 9 = .ok (.iaload, 1) := by decide +kernel
theorem dX0_dangerBy_10 : decode cX0_dangerBy 10 = .ok (.baload, 1) := by decide +kernel
theorem dX0_dangerBy_11 : decode cX0_dangerBy 11 = .ok (.ifCond .eq 7, 3) := by decide +kernel
theorem dX0_dangerBy_14 : decode cX0_dangerBy 14 = .ok (.sipush 1000, 3) := by decide +kernel
theorem dX0_dangerBy_17 : decode cX0_dangerBy 17 = .ok (.ireturn, 1) := by decide +kernel
theorem dX0_dangerBy_18 : decode cX0_dangerBy 18 = .ok (.aload_n 2, 1) := by decide +kernel
theorem dX0_dangerBy_19 : decode cX0_dangerBy 19 = .ok (.aload_n 0, 1) := by decide +kernel
theorem dX0_dangerBy_20 : decode cX0_dangerBy 20 = .ok (.getfield 18, 3) := by decide +kernel
theorem dX0_dangerBy_23 : decode cX0_dangerBy 23 = .ok (.iload_n 1, 1) := by decide +kernel
theorem dX0_dangerBy_24 : decode cX0_dangerBy 24 = .ok (.iaload, 1) := by decide +kernel
theorem dX0_dangerBy_25 : decode cX0_dangerBy 25 = .ok (.aload_n 0, 1) := by decide +kernel
theorem dX0_dangerBy_26 : decode cX0_dangerBy 26 = .ok (.getfield 9, 3) := by decide +kernel
theorem dX0_dangerBy_29 : decode cX0_dangerBy 29 = .ok (.iload_n 1, 1) := by decide +kernel
theorem dX0_dangerBy_30 : decode cX0_dangerBy 30 = .ok (.iaload, 1) := by decide +kernel
theorem dX0_dangerBy_31 : decode cX0_dangerBy 31 = .ok (.aload_n 0, 1) := by decide +kernel
theorem dX0_dangerBy_32 : decode cX0_dangerBy 32 = .ok (.getfield 15, 3) := by decide +kernel
theorem dX0_dangerBy_35 : decode cX0_dangerBy 35 = .ok (.iload_n 1, 1) := by decide +kernel
theorem dX0_dangerBy_36 : decode cX0_dangerBy 36 = .ok (.iaload, 1) := by decide +kernel
theorem dX0_dangerBy_37 : decode cX0_dangerBy 37 = .ok (.aload_n 3, 1) := by decide +kernel
theorem dX0_dangerBy_38 : decode cX0_dangerBy 38 = .ok (.invokevirtual 40, 3) := by decide +kernel
theorem dX0_dangerBy_41 : decode cX0_dangerBy 41 = .ok (.istore 4, 2) := by decide +kernel
theorem dX0_dangerBy_43 : decode cX0_dangerBy 43 = .ok (.iload 4, 2) := by decide +kernel
theorem dX0_dangerBy_45 : decode cX0_dangerBy 45 = .ok (.ldc 46, 2) := by decide +kernel
theorem dX0_dangerBy_47 : decode cX0_dangerBy 47 = .ok (.if_icmp .lt 7, 3) := by decide +kernel
theorem dX0_dangerBy_50 : decode cX0_dangerBy 50 = .ok (.sipush 1000, 3) := by decide +kernel
theorem dX0_dangerBy_53 : decode cX0_dangerBy 53 = .ok (.ireturn, 1) := by decide +kernel
theorem dX0_dangerBy_54 : decode cX0_dangerBy 54 = .ok (.iload 4, 2) := by decide +kernel
theorem dX0_dangerBy_56 : decode cX0_dangerBy 56 = .ok (.aload_n 0, 1) := by decide +kernel
theorem dX0_dangerBy_57 : decode cX0_dangerBy 57 = .ok (.getfield 21, 3) := by decide +kernel
theorem dX0_dangerBy_60 : decode cX0_dangerBy 60 = .ok (.iload_n 1, 1) := by decide +kernel
theorem dX0_dangerBy_61 : decode cX0_dangerBy 61 = .ok (.iaload, 1) := by decide +kernel
theorem dX0_dangerBy_62 : decode cX0_dangerBy 62 = .ok (.isub, 1) := by decide +kernel
theorem dX0_dangerBy_63 : decode cX0_dangerBy 63 = .ok (.istore 5, 2) := by decide +kernel
theorem dX0_dangerBy_65 : decode cX0_dangerBy 65 = .ok (.iload 5, 2) := by decide +kernel
theorem dX0_dangerBy_67 : decode cX0_dangerBy 67 = .ok (.bipush 30, 2) := by decide +kernel
theorem dX0_dangerBy_69 : decode cX0_dangerBy 69 = .ok (.if_icmp .ge 7, 3) := by decide +kernel
theorem dX0_dangerBy_72 : decode cX0_dangerBy 72 = .ok (.iconst 0, 1) := by decide +kernel
theorem dX0_dangerBy_73 : decode cX0_dangerBy 73 = .ok (.goto 11, 3) := by decide +kernel
theorem dX0_dangerBy_76 : decode cX0_dangerBy 76 = .ok (.iload 5, 2) := by decide +kernel
theorem dX0_dangerBy_78 : decode cX0_dangerBy 78 = .ok (.sipush 999, 3) := by decide +kernel
theorem dX0_dangerBy_81 : decode cX0_dangerBy 81 = .ok (.invokestatic 47, 3) := by decide +kernel
theorem dX0_dangerBy_84 : decode cX0_dangerBy 84 = .ok (.ireturn, 1) := by decide +kernel
theorem dX1_init_0 : decode cX1_init 0 = .ok (.aload_n 0, 1) := by decide +kernel
theorem dX1_init_1 : decode cX1_init 1 = .ok (.invokespecial 3, 3) := by decide +kernel
theorem dX1_init_4 : decode cX1_init 4 = .ok (.aload_n 0, 1) := by decide +kernel
theorem dX1_init_5 : decode cX1_init 5 = .ok (.sipush 240, 3) := by decide +kernel
theorem dX1_init_8 : decode cX1_init 8 = .ok (.newarray .boolean, 2) := by decide +kernel
theorem dX1_init_10 : decode cX1_init 10 = .ok (.putfield 9, 3) := by decide +kernel
theorem dX1_init_13 : decode cX1_init 13 = .ok (.aload_n 0, 1) := by decide +kernel
theorem dX1_init_14 : decode cX1_init 14 = .ok (.bipush 10, 2) := by decide +kernel
theorem dX1_init_16 : decode cX1_init 16 = .ok (.newarray .int, 2) := by decide +kernel
theorem dX1_init_18 : decode cX1_init 18 = .ok (.putfield 15, 3) := by decide +kernel
theorem dX1_init_21 : decode cX1_init 21 = .ok (.aload_n 0, 1) := by decide +kernel
theorem dX1_init_22 : decode cX1_init 22 = .ok (.iconst 0, 1) := by decide +kernel
theorem dX1_init_23 : decode cX1_init 23 = .ok (.putfield 19, 3) := by decide +kernel
theorem dX1_init_26 : decode cX1_init 26 = .ok (.return_, 1) := by decide +kernel
theorem dX1_draw_0 : decode cX1_draw 0 = .ok (.aload_n 0, 1) := by decide +kernel
theorem dX1_draw_1 : decode cX1_draw 1 = .ok (.getfield 19, 3) := by decide +kernel
theorem dX1_draw_4 : decode cX1_draw 4 = .ok (.istore_n 3, 1) := by decide +kernel
theorem dX1_draw_5 : decode cX1_draw 5 = .ok (.aload_n 0, 1) := by decide +kernel
theorem dX1_draw_6 : decode cX1_draw 6 = .ok (.dup, 1) := by decide +kernel
theorem dX1_draw_7 : decode cX1_draw 7 = .ok (.getfield 19, 3) := by decide +kernel
theorem dX1_draw_10 : decode cX1_draw 10 = .ok (.iconst 1, 1) := by decide +kernel
theorem dX1_draw_11 : decode cX1_draw 11 = .ok (.iadd, 1) := by decide +kernel
theorem dX1_draw_12 : decode cX1_draw 12 = .ok (.putfield 19, 3) := by decide +kernel
theorem dX1_draw_15 : decode cX1_draw 15 = .ok (.aload_n 0, 1) := by decide +kernel
theorem dX1_draw_16 : decode cX1_draw 16 = .ok (.getfield 15, 3) := by decide +kernel
theorem dX1_draw_19 : decode cX1_draw 19 = .ok (.iload_n 3, 1) := by decide +kernel
theorem dX1_draw_20 : decode cX1_draw 20 = .ok (.iload_n 2, 1) := by decide +kernel
theorem dX1_draw_21 : decode cX1_draw 21 = .ok (.iastore, 1) := by decide +kernel
theorem dX1_draw_22 : decode cX1_draw 22 = .ok (.iconst 0, 1) := by decide +kernel
theorem dX1_draw_23 : decode cX1_draw 23 = .ok (.istore 4, 2) := by decide +kernel
theorem dX1_draw_25 : decode cX1_draw 25 = .ok (.iload 4, 2) := by decide +kernel
theorem dX1_draw_27 : decode cX1_draw 27 = .ok (.aload_n 1, 1) := by decide +kernel
theorem dX1_draw_28 : decode cX1_draw 28 = .ok (.getfield 23, 3) := by decide +kernel
theorem dX1_draw_31 : decode cX1_draw 31 = .ok (.if_icmp .ge 39, 3) := by decide +kernel
theorem dX1_draw_34 : decode cX1_draw 34 = .ok (.aload_n 0, 1) := by decide +kernel
theorem dX1_draw_35 : decode cX1_draw 35 = .ok (.getfield 9, 3) := by decide +kernel
theorem dX1_draw_38 : decode cX1_draw 38 = .ok (.iload_n 3, 1) := by decide +kernel
theorem dX1_draw_39 : decode cX1_draw 39 = .ok (.bipush 24, 2) := by decide +kernel
theorem dX1_draw_41 : decode cX1_draw 41 = .ok (.imul, 1) := by decide +kernel
theorem dX1_draw_42 : decode cX1_draw 42 = .ok (.iload 4, 2) := by decide +kernel
theorem dX1_draw_44 : decode cX1_draw 44 = .ok (.iadd, 1) := by decide +kernel
theorem dX1_draw_45 : decode cX1_draw 45 = .ok (.aload_n 1, 1) := by decide +kernel
theorem dX1_draw_46 : decode cX1_draw 46 = .ok (.getfield 28, 3) := by decide +kernel
theorem dX1_draw_49 : decode cX1_draw 49 = .ok (.getfield 32, 3) := by decide +kernel
theorem dX1_draw_52 : decode cX1_draw 52 = .ok (.iload 4, 2) := by decide +kernel
theorem dX1_draw_54 : decode cX1_draw 54 = .ok (.baload, 1) := by decide +kernel
theorem dX1_draw_55 : decode cX1_draw 55 = .ok (.ifCond .ne 7, 3) := by decide +kernel
theorem dX1_draw_58 : decode cX1_draw 58 = .ok (.iconst 1, 1) := by decide +kernel
theorem dX1_draw_59 : decode cX1_draw 59 = .ok (.goto 4, 3) := by decide +kernel
theorem dX1_draw_62 : decode cX1_draw 62 = .ok (.iconst 0, 1) := by decide +kernel
theorem dX1_draw_63 : decode cX1_draw 63 = .ok (.bastore, 1) := by decide +kernel
theorem dX1_draw_64 : decode cX1_draw 64 = .ok (.iinc 4 1, 3) := by decide +kernel
theorem dX1_draw_67 : decode cX1_draw 67 = .ok (.goto (-42), 3) := by decide +kernel
theorem dX1_draw_70 : decode cX1_draw 70 = .ok (.iload_n 3, 1) := by decide +kernel
theorem dX1_draw_71 : decode cX1_draw 71 = .ok (.ireturn, 1) := by decide +kernel
theorem dX1_isDrawn_0 : decode cX1_isDrawn 0 = .ok (.aload_n 0, 1) := by decide +kernel
theorem dX1_isDrawn_1 : decode cX1_isDrawn 1 = .ok (.getfield 9, 3) := by decide +kernel
theorem dX1_isDrawn_4 : decode cX1_isDrawn 4 = .ok (.iload_n 1, 1) := by decide +kernel
theorem dX1_isDrawn_5 : decode cX1_isDrawn 5 = .ok (.bipush 24, 2) := by decide +kernel
theorem dX1_isDrawn_7 : decode cX1_isDrawn 7 = .ok (.imul, 1) := by decide +kernel
theorem dX1_isDrawn_8 : decode cX1_isDrawn 8 = .ok (.iload_n 2, 1) := by decide +kernel
theorem dX1_isDrawn_9 : decode cX1_isDrawn 9 = .ok (.iadd, 1) := by decide +kernel
theorem dX1_isDrawn_10 : decode cX1_isDrawn 10 = .ok (.baload, 1) := by decide +kernel
theorem dX1_isDrawn_11 : decode cX1_isDrawn 11 = .ok (.ireturn, 1) := by decide +kernel
theorem dX2_init_0 : decode cX2_init 0 = .ok (.aload_n 0, 1) := by decide +kernel
theorem dX2_init_1 : decode cX2_init 1 = .ok (.invokespecial 3, 3) := by decide +kernel
theorem dX2_init_4 : decode cX2_init 4 = .ok (.aload_n 0, 1) := by decide +kernel
theorem dX2_init_5 : decode cX2_init 5 = .ok (.bipush 16, 2) := by decide +kernel
theorem dX2_init_7 : decode cX2_init 7 = .ok (.newarray .boolean, 2) := by decide +kernel
theorem dX2_init_9 : decode cX2_init 9 = .ok (.putfield 9, 3) := by decide +kernel
theorem dX2_init_12 : decode cX2_init 12 = .ok (.aload_n 0, 1) := by decide +kernel
theorem dX2_init_13 : decode cX2_init 13 = .ok (.bipush 24, 2) := by decide +kernel
theorem dX2_init_15 : decode cX2_init 15 = .ok (.newarray .int, 2) := by decide +kernel
theorem dX2_init_17 : decode cX2_init 17 = .ok (.putfield 15, 3) := by decide +kernel
theorem dX2_init_20 : decode cX2_init 20 = .ok (.aload_n 0, 1) := by decide +kernel
theorem dX2_init_21 : decode cX2_init 21 = .ok (.bipush 24, 2) := by decide +kernel
theorem dX2_init_23 : decode cX2_init 23 = .ok (.newarray .int, 2) := by decide +kernel
theorem dX2_init_25 : decode cX2_init 25 = .ok (.putfield 19, 3) := by decide +kernel
theorem dX2_init_28 : decode cX2_init 28 = .ok (.aload_n 0, 1) := by decide +kernel
theorem dX2_init_29 : decode cX2_init 29 = .ok (.bipush 24, 2) := by decide +kernel
theorem dX2_init_31 : decode cX2_init 31 = .ok (.newarray .int, 2) := by decide +kernel
theorem dX2_init_33 : decode cX2_init 33 = .ok (.putfield 22, 3) := by decide +kernel
theorem dX2_init_36 : decode cX2_init 36 = .ok (.aload_n 0, 1) := by decide +kernel
theorem dX2_init_37 : decode cX2_init 37 = .ok (.bipush 24, 2) := by decide +kernel
theorem dX2_init_39 : decode cX2_init 39 = .ok (.newarray .int, 2) := by decide +kernel
theorem dX2_init_41 : decode cX2_init 41 = .ok (.putfield 25, 3) := by decide +kernel
theorem dX2_init_44 : decode cX2_init 44 = .ok (.aload_n 0, 1) := by decide +kernel
theorem dX2_init_45 : decode cX2_init 45 = .ok (.new 28, 3) := by decide +kernel
theorem dX2_init_48 : decode cX2_init 48 = .ok (.dup, 1) := by decide +kernel
theorem dX2_init_49 : decode cX2_init 49 = .ok (.invokespecial 30, 3) := by decide +kernel
theorem dX2_init_52 : decode cX2_init 52 = .ok (.putfield 31, 3) := by decide +kernel
theorem dX2_init_55 : decode cX2_init 55 = .ok (.aload_n 0, 1) := by decide +kernel
theorem dX2_init_56 : decode cX2_init 56 = .ok (.new 28, 3) := by decide +kernel
theorem dX2_init_59 : decode cX2_init 59 = .ok (.dup, 1) := by decide +kernel
theorem dX2_init_60 : decode cX2_init 60 = .ok (.invokespecial 30, 3) := by decide +kernel
theorem dX2_init_63 : decode cX2_init 63 = .ok (.putfield 35, 3) := by decide +kernel
theorem dX2_init_66 : decode cX2_init 66 = .ok (.aload_n 0, 1) := by decide +kernel
theorem dX2_init_67 : decode cX2_init 67 = .ok (.sipush 256, 3) := by decide +kernel
theorem dX2_init_70 : decode cX2_init 70 = .ok (.newarray .int, 2) := by decide +kernel
theorem dX2_init_72 : decode cX2_init 72 = .ok (.putfield 38, 3) := by decide +kernel
theorem dX2_init_75 : decode cX2_init 75 = .ok (.aload_n 0, 1) := by decide +kernel
theorem dX2_init_76 : decode cX2_init 76 = .ok (.iconst 0, 1) := by decide +kernel
theorem dX2_init_77 : decode cX2_init 77 = .ok (.putfield 41, 3) := by decide +kernel
theorem dX2_init_80 : decode cX2_init 80 = .ok (.aload_n 0, 1) := by decide +kernel
theorem dX2_init_81 : decode cX2_init 81 = .ok (.iconst 0, 1) := by decide +kernel
theorem dX2_init_82 : decode cX2_init 82 = .ok (.putfield 45, 3) := by decide +kernel
theorem dX2_init_85 : decode cX2_init 85 = .ok (.return_, 1) := by decide +kernel
theorem dX2_view_0 : decode cX2_view 0 = .ok (.iload_n 1, 1) := by decide +kernel
theorem dX2_view_1 : decode cX2_view 1 = .ok (.ifCond .eq 10, 3) := by decide +kernel
theorem dX2_view_4 : decode cX2_view 4 = .ok (.aload_n 0, 1) := by decide +kernel
theorem dX2_view_5 : decode cX2_view 5 = .ok (.getfield 31, 3) := by decide +kernel
theorem dX2_view_8 : decode cX2_view 8 = .ok (.goto 7, 3) := by decide +kernel
theorem dX2_view_11 : decode cX2_view 11 = .ok (.aload_n 0, 1) := by decide +kernel
theorem dX2_view_12 : decode cX2_view 12 = .ok (.getfield 35, 3) := by decide +kernel
theorem dX2_view_15 : decode cX2_view 15 = .ok (.areturn, 1) := by decide +kernel
theorem dX2_join_0 : decode cX2_join 0 = .ok (.aload_n 0, 1) := by decide +kernel
theorem dX2_join_1 : decode cX2_join 1 = .ok (.getfield 45, 3) := by decide +kernel
theorem dX2_join_4 : decode cX2_join 4 = .ok (.istore 5, 2) := by decide +kernel
theorem dX2_join_6 : decode cX2_join 6 = .ok (.aload_n 0, 1) := by decide +kernel
theorem dX2_join_7 : decode cX2_join 7 = .ok (.dup, 1) := by decide +kernel
theorem dX2_join_8 : decode cX2_join 8 = .ok (.getfield 45, 3) := by decide +kernel
theorem dX2_join_11 : decode cX2_join 11 = .ok (.iconst 1, 1) := by decide +kernel
theorem dX2_join_12 : decode cX2_join 12 = .ok (.iadd, 1) := by decide +kernel
theorem dX2_join_13 : decode cX2_join 13 = .ok (.putfield 45, 3) := by decide +kernel
theorem dX2_join_16 : decode cX2_join 16 = .ok (.aload_n 0, 1) := by decide +kernel
theorem dX2_join_17 : decode cX2_join 17 = .ok (.getfield 15, 3) := by decide +kernel
theorem dX2_join_20 : decode cX2_join 20 = .ok (.iload 5, 2) := by decide +kernel
theorem dX2_join_22 : decode cX2_join 22 = .ok (.iload_n 1, 1) := by decide +kernel
theorem dX2_join_23 : decode cX2_join 23 = .ok (.iastore, 1) := by decide +kernel
theorem dX2_join_24 : decode cX2_join 24 = .ok (.aload_n 0, 1) := by decide +kernel
theorem dX2_join_25 : decode cX2_join 25 = .ok (.getfield 19, 3) := by decide +kernel
theorem dX2_join_28 : decode cX2_join 28 = .ok (.iload 5, 2) := by decide +kernel
theorem dX2_join_30 : decode cX2_join 30 = .ok (.iload_n 2, 1) := by decide +kernel
theorem dX2_join_31 : decode cX2_join 31 = .ok (.iastore, 1) := by decide +kernel
theorem dX2_join_32 : decode cX2_join 32 = .ok (.aload_n 0, 1) := by decide +kernel
theorem dX2_join_33 : decode cX2_join 33 = .ok (.getfield 22, 3) := by decide +kernel
theorem dX2_join_36 : decode cX2_join 36 = .ok (.iload 5, 2) := by decide +kernel
theorem dX2_join_38 : decode cX2_join 38 = .ok (.iload_n 3, 1) := by decide +kernel
theorem dX2_join_39 : decode cX2_join 39 = .ok (.iastore, 1) := by decide +kernel
theorem dX2_join_40 : decode cX2_join 40 = .ok (.aload_n 0, 1) := by decide +kernel
theorem dX2_join_41 : decode cX2_join 41 = .ok (.getfield 25, 3) := by decide +kernel
theorem dX2_join_44 : decode cX2_join 44 = .ok (.iload 5, 2) := by decide +kernel
theorem dX2_join_46 : decode cX2_join 46 = .ok (.iload 4, 2) := by decide +kernel
theorem dX2_join_48 : decode cX2_join 48 = .ok (.iastore, 1) := by decide +kernel
theorem dX2_join_49 : decode cX2_join 49 = .ok (.aload_n 0, 1) := by decide +kernel
theorem dX2_join_50 : decode cX2_join 50 = .ok (.aload_n 0, 1) := by decide +kernel
theorem dX2_join_51 : decode cX2_join 51 = .ok (.getfield 31, 3) := by decide +kernel
theorem dX2_join_54 : decode cX2_join 54 = .ok (.invokevirtual 48, 3) := by decide +kernel
theorem dX2_join_57 : decode cX2_join 57 = .ok (.aload_n 0, 1) := by decide +kernel
theorem dX2_join_58 : decode cX2_join 58 = .ok (.aload_n 0, 1) := by decide +kernel
theorem dX2_join_59 : decode cX2_join 59 = .ok (.getfield 35, 3) := by decide +kernel
theorem dX2_join_62 : decode cX2_join 62 = .ok (.invokevirtual 48, 3) := by decide +kernel
theorem dX2_join_65 : decode cX2_join 65 = .ok (.iload 5, 2) := by decide +kernel
theorem dX2_join_67 : decode cX2_join 67 = .ok (.ireturn, 1) := by decide +kernel
theorem dX2_setGone_0 : decode cX2_setGone 0 = .ok (.aload_n 1, 1) := by decide +kernel
theorem dX2_setGone_1 : decode cX2_setGone 1 = .ok (.getfield 52, 3) := by decide +kernel
theorem dX2_setGone_4 : decode cX2_setGone 4 = .ok (.iload_n 2, 1) := by decide +kernel
theorem dX2_setGone_5 : decode cX2_setGone 5 = .ok (.baload, 1) := by decide +kernel
theorem dX2_setGone_6 : decode cX2_setGone 6 = .ok (.iload_n 3, 1) := by decide +kernel
theorem dX2_setGone_7 : decode cX2_setGone 7 = .ok (.if_icmp .eq 15, 3) := by decide +kernel
theorem dX2_setGone_10 : decode cX2_setGone 10 = .ok (.aload_n 1, 1) := by decide +kernel
theorem dX2_setGone_11 : decode cX2_setGone 11 = .ok (.getfield 52, 3) := by decide +kernel
theorem dX2_setGone_14 : decode cX2_setGone 14 = .ok (.iload_n 2, 1) := by decide +kernel
theorem dX2_setGone_15 : decode cX2_setGone 15 = .ok (.iload_n 3, 1) := by decide +kernel
theorem dX2_setGone_16 : decode cX2_setGone 16 = .ok (.bastore, 1) := by decide +kernel
theorem dX2_setGone_17 : decode cX2_setGone 17 = .ok (.aload_n 0, 1) := by decide +kernel
theorem dX2_setGone_18 : decode cX2_setGone 18 = .ok (.aload_n 1, 1) := by decide +kernel
theorem dX2_setGone_19 : decode cX2_setGone 19 = .ok (.invokevirtual 48, 3) := by decide +kernel
theorem dX2_setGone_22 : decode cX2_setGone 22 = .ok (.return_, 1) := by decide +kernel
theorem dX2_otherEnd_0 : decode cX2_otherEnd 0 = .ok (.aload_n 0, 1) := by decide +kernel
theorem dX2_otherEnd_1 : decode cX2_otherEnd 1 = .ok (.getfield 15, 3) := by decide +kernel
theorem dX2_otherEnd_4 : decode cX2_otherEnd 4 = .ok (.iload_n 1, 1) := by decide +kernel
theorem dX2_otherEnd_5 : decode cX2_otherEnd 5 = .ok (.iaload, 1) := by decide +kernel
theorem dX2_otherEnd_6 : decode cX2_otherEnd 6 = .ok (.iload_n 2, 1) := by decide +kernel
theorem dX2_otherEnd_7 : decode cX2_otherEnd 7 = .ok (.if_icmp .ne 12, 3) := by decide +kernel
theorem dX2_otherEnd_10 : decode cX2_otherEnd 10 = .ok (.aload_n 0, 1) := by decide +kernel
theorem dX2_otherEnd_11 : decode cX2_otherEnd 11 = .ok (.getfield 19, 3) := by decide +kernel
theorem dX2_otherEnd_14 : decode cX2_otherEnd 14 = .ok (.iload_n 1, 1) := by decide +kernel
theorem dX2_otherEnd_15 : decode cX2_otherEnd 15 = .ok (.iaload, 1) := by decide +kernel
theorem dX2_otherEnd_16 : decode cX2_otherEnd 16 = .ok (.goto 9, 3) := by decide +kernel
theorem dX2_otherEnd_19 : decode cX2_otherEnd 19 = .ok (.aload_n 0, 1) := by decide +kernel
theorem dX2_otherEnd_20 : decode cX2_otherEnd 20 = .ok (.getfield 15, 3) := by decide +kernel
theorem dX2_otherEnd_23 : decode cX2_otherEnd 23 = .ok (.iload_n 1, 1) := by decide +kernel
theorem dX2_otherEnd_24 : decode cX2_otherEnd 24 = .ok (.iaload, 1) := by decide +kernel
theorem dX2_otherEnd_25 : decode cX2_otherEnd 25 = .ok (.ireturn, 1) := by decide +kernel
theorem dX2_minutesFrom_0 : decode cX2_minutesFrom 0 = .ok (.aload_n 0, 1) := by decide +kernel
theorem dX2_minutesFrom_1 : decode cX2_minutesFrom 1 = .ok (.getfield 15, 3) := by decide +kernel
theorem dX2_minutesFrom_4 : decode cX2_minutesFrom 4 = .ok (.iload_n 1, 1) := by decide +kernel
theorem dX2_minutesFrom_5 : decode cX2_minutesFrom 5 = .ok (.iaload, 1) := by decide +kernel
theorem dX2_minutesFrom_6 : decode cX2_minutesFrom 6 = .ok (.iload_n 2, 1) := by decide +kernel
theorem dX2_minutesFrom_7 : decode cX2_minutesFrom 7 = .ok (.if_icmp .ne 12, 3) := by decide +kernel
theorem dX2_minutesFrom_10 : decode cX2_minutesFrom 10 = .ok (.aload_n 0, 1) := by decide +kernel
theorem dX2_minutesFrom_11 : decode cX2_minutesFrom 11 = .ok (.getfield 22, 3) := by decide +kernel
theorem dX2_minutesFrom_14 : decode cX2_minutesFrom 14 = .ok (.iload_n 1, 1) := by decide +kernel
theorem dX2_minutesFrom_15 : decode cX2_minutesFrom 15 = .ok (.iaload, 1) := by decide +kernel
theorem dX2_minutesFrom_16 : decode cX2_minutesFrom 16 = .ok (.goto 9, 3) := by decide +kernel
theorem dX2_minutesFrom_19 : decode cX2_minutesFrom 19 = .ok (.aload_n 0, 1) := by decide +kernel
theorem dX2_minutesFrom_20 : decode cX2_minutesFrom 20 = .ok (.getfield 25, 3) := by decide +kernel
theorem dX2_minutesFrom_23 : decode cX2_minutesFrom 23 = .ok (.iload_n 1, 1) := by decide +kernel
theorem dX2_minutesFrom_24 : decode cX2_minutesFrom 24 = .ok (.iaload, 1) := by decide +kernel
theorem dX2_minutesFrom_25 : decode cX2_minutesFrom 25 = .ok (.ireturn, 1) := by decide +kernel
theorem dX2_trailTowards_0 : decode cX2_trailTowards 0 = .ok (.aload_n 0, 1) := by decide +kernel
theorem dX2_trailTowards_1 : decode cX2_trailTowards 1 = .ok (.getfield 35, 3) := by decide +kernel
theorem dX2_trailTowards_4 : decode cX2_trailTowards 4 = .ok (.iload_n 1, 1) := by decide +kernel
theorem dX2_trailTowards_5 : decode cX2_trailTowards 5 = .ok (.iload_n 2, 1) := by decide +kernel
theorem dX2_trailTowards_6 : decode cX2_trailTowards 6 = .ok (.invokevirtual 55, 3) := by decide +kernel
theorem dX2_trailTowards_9 : decode cX2_trailTowards 9 = .ok (.istore_n 3, 1) := by decide +kernel
theorem dX2_trailTowards_10 : decode cX2_trailTowards 10 = .ok (.iload_n 1, 1) := by decide +kernel
theorem dX2_trailTowards_11 : decode cX2_trailTowards 11 = .ok (.iload_n 2, 1) := by decide +kernel
theorem dX2_trailTowards_12 : decode cX2_trailTowards 12 = .ok (.if_icmp .eq 9, 3) := by decide +kernel
theorem dX2_trailTowards_15 : decode cX2_trailTowards 15 = .ok (.iload_n 3, 1) := by decide +kernel
theorem dX2_trailTowards_16 : decode cX2_trailTowards 16 = .ok (.ldc 59, 2) := by decide +kernel
theorem dX2_trailTowards_18 : decode cX2_trailTowards 18 = .ok (.if_icmp .lt 5, 3) := by decide +kernel
theorem dX2_trailTowards_21 : decode cX2_trailTowards 21 = .ok (.iconst (-1), 1) := by decide +kernel
theorem dX2_trailTowards_22 : decode cX2_trailTowards 22 = .ok (.ireturn, 1) := by decide +kernel
theorem dX2_trailTowards_23 : decode cX2_trailTowards 23 = .ok (.iconst 0, 1) := by decide +kernel
theorem dX2_trailTowards_24 : decode cX2_trailTowards 24 = .ok (.istore 4, 2) := by decide +kernel
theorem dX2_trailTowards_26 : decode cX2_trailTowards 26 = .ok (.iload 4, 2) := by decide +kernel
theorem dX2_trailTowards_28 : decode cX2_trailTowards 28 = .ok (.aload_n 0, 1) := by decide +kernel
theorem dX2_trailTowards_29 : decode cX2_trailTowards 29 = .ok (.getfield 45, 3) := by decide +kernel
theorem dX2_trailTowards_32 : decode cX2_trailTowards 32 = .ok (.if_icmp .ge 75, 3) := by decide +kernel
theorem dX2_trailTowards_35 : decode cX2_trailTowards 35 = .ok (.aload_n 0, 1) := by decide +kernel
theorem dX2_trailTowards_36 : decode cX2_trailTowards 36 = .ok (.getfield 15, 3) := by decide +kernel
theorem dX2_trailTowards_39 : decode cX2_trailTowards 39 = .ok (.iload 4, 2) := by decide +kernel
theorem dX2_trailTowards_41 : decode cX2_trailTowards 41 = .ok (.iaload, 1) := by decide +kernel
theorem dX2_trailTowards_42 : decode cX2_trailTowards 42 = .ok (.iload_n 1, 1) := by decide +kernel
theorem dX2_trailTowards_43 : decode cX2_trailTowards 43 = .ok (.if_icmp .eq 14, 3) := by decide +kernel
theorem dX2_trailTowards_46 : decode cX2_trailTowards 46 = .ok (.aload_n 0, 1) := by decide +kernel
theorem dX2_trailTowards_47 : decode cX2_trailTowards 47 = .ok (.getfield 19, 3) := by decide +kernel
theorem dX2_trailTowards_50 : decode cX2_trailTowards 50 = .ok (.iload 4, 2) := by decide +kernel
theorem dX2_trailTowards_52 : decode cX2_trailTowards 52 = .ok (.iaload, 1) := by decide +kernel
theorem dX2_trailTowards_53 : decode cX2_trailTowards 53 = .ok (.iload_n 1, 1) := by decide +kernel
theorem dX2_trailTowards_54 : decode cX2_trailTowards 54 = .ok (.if_icmp .ne 7, 3) := by decide +kernel
theorem dX2_trailTowards_57 : decode cX2_trailTowards 57 = .ok (.iconst 1, 1) := by decide +kernel
theorem dX2_trailTowards_58 : decode cX2_trailTowards 58 = .ok (.goto 4, 3) := by decide +kernel
theorem dX2_trailTowards_61 : decode cX2_trailTowards 61 = .ok (.iconst 0, 1) := by decide +kernel
theorem dX2_trailTowards_62 : decode cX2_trailTowards 62 = .ok (.istore 5, 2) := by decide +kernel
theorem dX2_trailTowards_64 : decode cX2_trailTowards 64 = .ok (.iload 5, 2) := by decide +kernel
theorem dX2_trailTowards_66 : decode cX2_trailTowards 66 = .ok (.ifCond .eq 35, 3) := by decide +kernel
theorem dX2_trailTowards_69 : decode cX2_trailTowards 69 = .ok (.aload_n 0, 1) := by decide +kernel
theorem dX2_trailTowards_70 : decode cX2_trailTowards 70 = .ok (.getfield 35, 3) := by decide +kernel
theorem dX2_trailTowards_73 : decode cX2_trailTowards 73 = .ok (.getfield 52, 3) := by decide +kernel
theorem dX2_trailTowards_76 : decode cX2_trailTowards 76 = .ok (.iload 4, 2) := by decide +kernel
theorem dX2_trailTowards_78 : decode cX2_trailTowards 78 = .ok (.baload, 1) := by decide +kernel
theorem dX2_trailTowards_79 : decode cX2_trailTowards 79 = .ok (.ifCond .ne 22, 3) := by decide +kernel
theorem dX2_trailTowards_82 : decode cX2_trailTowards 82 = .ok (.aload_n 0, 1) := by decide +kernel
theorem dX2_trailTowards_83 : decode cX2_trailTowards 83 = .ok (.iload 4, 2) := by decide +kernel
theorem dX2_trailTowards_85 : decode cX2_trailTowards 85 = .ok (.iload_n 1, 1) := by decide +kernel
theorem dX2_trailTowards_86 : decode cX2_trailTowards 86 = .ok (.iload_n 2, 1) := by decide +kernel
theorem dX2_trailTowards_87 : decode cX2_trailTowards 87 = .ok (.aload_n 0, 1) := by decide +kernel
theorem dX2_trailTowards_88 : decode cX2_trailTowards 88 = .ok (.getfield 35, 3) := by decide +kernel
theorem dX2_trailTowards_91 : decode cX2_trailTowards 91 = .ok (.invokevirtual 60, 3) := by decide +kernel
theorem dX2_trailTowards_94 : decode cX2_trailTowards 94 = .ok (.iload_n 3, 1) := by decide +kernel
theorem dX2_trailTowards_95 : decode cX2_trailTowards 95 = .ok (.if_icmp .ne 6, 3) := by decide +kernel
theorem dX2_trailTowards_98 : decode cX2_trailTowards 98 = .ok (.iload 4, 2) := by decide +kernel
theorem dX2_trailTowards_100 : decode cX2_trailTowards 100 = .ok (.ireturn, 1) := by decide +kernel
theorem dX2_trailTowards_101 : decode cX2_trailTowards 101 = .ok (.iinc 4 1, 3) := by decide +kernel
theorem dX2_trailTowards_104 : decode cX2_trailTowards 104 = .ok (.goto (-78), 3) := by decide +kernel
theorem dX2_trailTowards_107 : decode cX2_trailTowards 107 = .ok (.iconst (-1), 1) := by decide +kernel
theorem dX2_trailTowards_108 : decode cX2_trailTowards 108 = .ok (.ireturn, 1) := by decide +kernel
theorem dX2_minutesBy_0 : decode cX2_minutesBy 0 = .ok (.aload_n 0, 1) := by decide +kernel
theorem dX2_minutesBy_1 : decode cX2_minutesBy 1 = .ok (.iload_n 1, 1) := by decide +kernel
theorem dX2_minutesBy_2 : decode cX2_minutesBy 2 = .ok (.iload_n 2, 1) := by decide +kernel
theorem dX2_minutesBy_3 : decode cX2_minutesBy 3 = .ok (.invokevirtual 64, 3) := by decide +kernel
theorem dX2_minutesBy_6 : decode cX2_minutesBy 6 = .ok (.aload 4, 2) := by decide +kernel
theorem dX2_minutesBy_8 : decode cX2_minutesBy 8 = .ok (.aload_n 0, 1) := by decide +kernel
theorem dX2_minutesBy_9 : decode cX2_minutesBy 9 = .ok (.iload_n 1, 1) := by decide +kernel
theorem dX2_minutesBy_10 : decode cX2_minutesBy 10 = .ok (.iload_n 2, 1) := by decide +kernel
theorem dX2_minutesBy_11 : decode cX2_minutesBy 11 = .ok (.invokevirtual 67, 3) := by decide +kernel
theorem dX2_minutesBy_14 : decode cX2_minutesBy 14 = .ok (.iload_n 3, 1) := by decide +kernel
theorem dX2_minutesBy_15 : decode cX2_minutesBy 15 = .ok (.invokevirtual 55, 3) := by decide +kernel
theorem dX2_minutesBy_18 : decode cX2_minutesBy 18 = .ok (.iadd, 1) := by decide +kernel
theorem dX2_minutesBy_19 : decode cX2_minutesBy 19 = .ok (.ireturn, 1) := by decide +kernel
theorem dX2_findWays_0 : decode cX2_findWays 0 = .ok (.aload_n 1, 1) := by decide +kernel
theorem dX2_findWays_1 : decode cX2_findWays 1 = .ok (.invokevirtual 70, 3) := by decide +kernel
theorem dX2_findWays_4 : decode cX2_findWays 4 = .ok (.iconst 1, 1) := by decide +kernel
theorem dX2_findWays_5 : decode cX2_findWays 5 = .ok (.istore_n 2, 1) := by decide +kernel
theorem dX2_findWays_6 : decode cX2_findWays 6 = .ok (.iconst 1, 1) := by decide +kernel
theorem dX2_findWays_7 : decode cX2_findWays 7 = .ok (.istore_n 3, 1) := by decide +kernel
theorem dX2_findWays_8 : decode cX2_findWays 8 = .ok (.iload_n 3, 1) := by decide +kernel
theorem dX2_findWays_9 : decode cX2_findWays 9 = .ok (.aload_n 0, 1) := by decide +kernel
theorem dX2_findWays_10 : decode cX2_findWays 10 = .ok (.getfield 41, 3) := by decide +kernel
theorem dX2_findWays_13 : decode cX2_findWays 13 = .ok (.if_icmp .ge 58, 3) := by decide +kernel
theorem dX2_findWays_16 : decode cX2_findWays 16 = .ok (.iload_n 2, 1) := by decide +kernel
theorem dX2_findWays_17 : decode cX2_findWays 17 = .ok (.ifCond .eq 54, 3) := by decide +kernel
theorem dX2_findWays_20 : decode cX2_findWays 20 = .ok (.iconst 0, 1) := by decide +kernel
theorem dX2_findWays_21 : decode cX2_findWays 21 = .ok (.istore_n 2, 1) := by decide +kernel
theorem dX2_findWays_22 : decode cX2_findWays 22 = .ok (.iconst 0, 1) := by decide +kernel
theorem dX2_findWays_23 : decode cX2_findWays 23 = .ok (.istore 4, 2) := by decide +kernel
theorem dX2_findWays_25 : decode cX2_findWays 25 = .ok (.iload 4, 2) := by decide +kernel
theorem dX2_findWays_27 : decode cX2_findWays 27 = .ok (.aload_n 0, 1) := by decide +kernel
theorem dX2_findWays_28 : decode cX2_findWays 28 = .ok (.getfield 45, 3) := by decide +kernel
theorem dX2_findWays_31 : decode cX2_findWays 31 = .ok (.if_icmp .ge 34, 3) := by decide +kernel
theorem dX2_findWays_34 : decode cX2_findWays 34 = .ok (.aload_n 1, 1) := by decide +kernel
theorem dX2_findWays_35 : decode cX2_findWays 35 = .ok (.getfield 52, 3) := by decide +kernel
theorem dX2_findWays_38 : decode cX2_findWays 38 = .ok (.iload 4, 2) := by decide +kernel
theorem dX2_findWays_40 : decode cX2_findWays 40 = .ok (.baload, 1) := by decide +kernel
theorem dX2_findWays_41 : decode cX2_findWays 41 = .ok (.ifCond .ne 18, 3) := by decide +kernel
theorem dX2_findWays_44 : decode cX2_findWays 44 = .ok (.aload_n 0, 1) := by decide +kernel
theorem dX2_findWays_45 : decode cX2_findWays 45 = .ok (.iload 4, 2) := by decide +kernel
theorem dX2_findWays_47 : decode cX2_findWays 47 = .ok (.aload_n 1, 1) := by decide +kernel
theorem dX2_findWays_48 : decode cX2_findWays 48 = .ok (.getfield 73, 3) := by decide +kernel
theorem dX2_findWays_51 : decode cX2_findWays 51 = .ok (.invokevirtual 76, 3) := by decide +kernel
theorem dX2_findWays_54 : decode cX2_findWays 54 = .ok (.ifCond .eq 5, 3) := by decide +kernel
theorem dX2_findWays_57 : decode cX2_findWays 57 = .ok (.iconst 1, 1) := by decide +kernel
theorem dX2_findWays_58 : decode cX2_findWays 58 = .ok (.istore_n 2, 1) := by decide +kernel
theorem dX2_findWays_59 : decode cX2_findWays 59 = .ok (.iinc 4 1, 3) := by decide +kernel
theorem dX2_findWays_62 : decode cX2_findWays 62 = .ok (.goto (-37), 3) := by decide +kernel
theorem dX2_findWays_65 : decode cX2_findWays 65 = .ok (.iinc 3 1, 3) := by decide +kernel
theorem dX2_findWays_68 : decode cX2_findWays 68 = .ok (.goto (-60), 3) := by decide +kernel
theorem dX2_findWays_71 : decode cX2_findWays 71 = .ok (.return_, 1) := by decide +kernel
theorem dX2_shortenBy_0 : decode cX2_shortenBy 0 = .ok (.iconst 0, 1) := by decide +kernel
theorem dX2_shortenBy_1 : decode cX2_shortenBy 1 = .ok (.istore_n 3, 1) := by decide +kernel
theorem dX2_shortenBy_2 : decode cX2_shortenBy 2 = .ok (.aload_n 0, 1) := by decide +kernel
theorem dX2_shortenBy_3 : decode cX2_shortenBy 3 = .ok (.getfield 15, 3) := by decide +kernel
theorem dX2_shortenBy_6 : decode cX2_shortenBy 6 = .ok (.iload_n 1, 1) := by decide +kernel
theorem dX2_shortenBy_7 : decode cX2_shortenBy 7 = .ok (.iaload, 1) := by decide +kernel
theorem dX2_shortenBy_8 : decode cX2_shortenBy 8 = .ok (.bipush 16, 2) := by decide +kernel
theorem dX2_shortenBy_10 : decode cX2_shortenBy 10 = .ok (.imul, 1) := by decide +kernel
theorem dX2_shortenBy_11 : decode cX2_shortenBy 11 = .ok (.istore 4, 2) := by decide +kernel
theorem dX2_shortenBy_13 : decode cX2_shortenBy 13 = .ok (.aload_n 0, 1) := by decide +kernel
theorem dX2_shortenBy_14 : decode cX2_shortenBy 14 = .ok (.getfield 19, 3) := by decide +kernel
theorem dX2_shortenBy_17 : decode cX2_shortenBy 17 = .ok (.iload_n 1, 1) := by decide +kernel
theorem dX2_shortenBy_18 : decode cX2_shortenBy 18 = .ok (.iaload, 1) := by decide +kernel
theorem dX2_shortenBy_19 : decode cX2_shortenBy 19 = .ok (.bipush 16, 2) := by decide +kernel
theorem dX2_shortenBy_21 : decode cX2_shortenBy 21 = .ok (.imul, 1) := by decide +kernel
theorem dX2_shortenBy_22 : decode cX2_shortenBy 22 = .ok (.istore 5, 2) := by decide +kernel
theorem dX2_shortenBy_24 : decode cX2_shortenBy 24 = .ok (.iconst 0, 1) := by decide +kernel
theorem dX2_shortenBy_25 : decode cX2_shortenBy 25 = .ok (.istore 6, 2) := by decide +kernel
theorem dX2_shortenBy_27 : decode cX2_shortenBy 27 = .ok (.iload 6, 2) := by decide +kernel
theorem dX2_shortenBy_29 : decode cX2_shortenBy 29 = .ok (.aload_n 0, 1) := by decide +kernel
theorem dX2_shortenBy_30 : decode cX2_shortenBy 30 = .ok (.getfield 41, 3) := by decide +kernel
theorem dX2_shortenBy_33 : decode cX2_shortenBy 33 = .ok (.if_icmp .ge 87, 3) := by decide +kernel
theorem dX2_shortenBy_36 : decode cX2_shortenBy 36 = .ok (.aload_n 0, 1) := by decide +kernel
theorem dX2_shortenBy_37 : decode cX2_shortenBy 37 = .ok (.getfield 22, 3) := by decide +kernel
theorem dX2_shortenBy_40 : decode cX2_shortenBy 40 = .ok (.iload_n 1, 1) := by decide +kernel
theorem dX2_shortenBy_41 : decode cX2_shortenBy 41 = .ok (.iaload, 1) := by decide +kernel
theorem dX2_shortenBy_42 : decode cX2_shortenBy 42 = .ok (.aload_n 2, 1) := by decide +kernel
theorem dX2_shortenBy_43 : decode cX2_shortenBy 43 = .ok (.iload 5, 2) := by decide +kernel
theorem dX2_shortenBy_45 : decode cX2_shortenBy 45 = .ok (.iload 6, 2) := by decide +kernel
theorem dX2_shortenBy_47 : decode cX2_shortenBy 47 = .ok (.iadd, 1) := by decide +kernel
theorem dX2_shortenBy_48 : decode cX2_shortenBy 48 = .ok (.iaload, 1) := by decide +kernel
theorem dX2_shortenBy_49 : decode cX2_shortenBy 49 = .ok (.iadd, 1) := by decide +kernel
theorem dX2_shortenBy_50 : decode cX2_shortenBy 50 = .ok (.istore 7, 2) := by decide +kernel
theorem dX2_shortenBy_52 : decode cX2_shortenBy 52 = .ok (.iload 7, 2) := by decide +kernel
theorem dX2_shortenBy_54 : decode cX2_shortenBy 54 = .ok (.aload_n 2, 1) := by decide +kernel
theorem dX2_shortenBy_55 : decode cX2_shortenBy 55 = .ok (.iload 4, 2) := by decide +kernel
theorem dX2_shortenBy_57 : decode cX2_shortenBy 57 = .ok (.iload 6, 2) := by decide +kernel
theorem dX2_shortenBy_59 : decode cX2_shortenBy 59 = .ok (.iadd, 1) := by decide +kernel
theorem dX2_shortenBy_60 : decode cX2_shortenBy 60 = .ok (.iaload, 1) := by decide +kernel
theorem dX2_shortenBy_61 : decode cX2_shortenBy 61 = .ok (.if_icmp .ge 14, 3) := by decide +kernel
theorem dX2_shortenBy_64 : decode cX2_shortenBy 64 = .ok (.aload_n 2, 1) := by decide +kernel
theorem dX2_shortenBy_65 : decode cX2_shortenBy 65 = .ok (.iload 4, 2) := by decide +kernel
theorem dX2_shortenBy_67 : decode cX2_shortenBy 67 = .ok (.iload 6, 2) := by decide +kernel
theorem dX2_shortenBy_69 : decode cX2_shortenBy 69 = .ok (.iadd, 1) := by decide +kernel
theorem dX2_shortenBy_70 : decode cX2_shortenBy 70 = .ok (.iload 7, 2) := by decide +kernel
theorem dX2_shortenBy_72 : decode cX2_shortenBy 72 = .ok (.iastore, 1) := by decide +kernel
theorem dX2_shortenBy_73 : decode cX2_shortenBy 73 = .ok (.iconst 1, 1) := by decide +kernel
theorem dX2_shortenBy_74 : decode cX2_shortenBy 74 = .ok (.istore_n 3, 1) := by decide +kernel
theorem dX2_shortenBy_75 : decode cX2_shortenBy 75 = .ok (.aload_n 0, 1) := by decide +kernel
theorem dX2_shortenBy_76 : decode cX2_shortenBy 76 = .ok (.getfield 25, 3) := by decide +kernel
theorem dX2_shortenBy_79 : decode cX2_shortenBy 79 = .ok (.iload_n 1, 1) := by decide +kernel
theorem dX2_shortenBy_80 : decode cX2_shortenBy 80 = .ok (.iaload, 1) := by decide +kernel
theorem dX2_shortenBy_81 : decode cX2_shortenBy 81 = .ok (.aload_n 2, 1) := by decide +kernel
theorem dX2_shortenBy_82 : decode cX2_shortenBy 82 = .ok (.iload 4, 2) := by decide +kernel
theorem dX2_shortenBy_84 : decode cX2_shortenBy 84 = .ok (.iload 6, 2) := by decide +kernel
theorem dX2_shortenBy_86 : decode cX2_shortenBy 86 = .ok (.iadd, 1) := by decide +kernel
theorem dX2_shortenBy_87 : decode cX2_shortenBy 87 = .ok (.iaload, 1) := by decide +kernel
theorem dX2_shortenBy_88 : decode cX2_shortenBy 88 = .ok (.iadd, 1) := by decide +kernel
theorem dX2_shortenBy_89 : decode cX2_shortenBy 89 = .ok (.istore 8, 2) := by decide +kernel
theorem dX2_shortenBy_91 : decode cX2_shortenBy 91 = .ok (.iload 8, 2) := by decide +kernel
theorem dX2_shortenBy_93 : decode cX2_shortenBy 93 = .ok (.aload_n 2, 1) := by decide +kernel
theorem dX2_shortenBy_94 : decode cX2_shortenBy 94 = .ok (.iload 5, 2) := by decide +kernel
theorem dX2_shortenBy_96 : decode cX2_shortenBy 96 = .ok (.iload 6, 2) := by decide +kernel
theorem dX2_shortenBy_98 : decode cX2_shortenBy 98 = .ok (.iadd, 1) := by decide +kernel
theorem dX2_shortenBy_99 : decode cX2_shortenBy 99 = .ok (.iaload, 1) := by decide +kernel
theorem dX2_shortenBy_100 : decode cX2_shortenBy 100 = .ok (.if_icmp .ge 14, 3) := by decide +kernel
theorem dX2_shortenBy_103 : decode cX2_shortenBy 103 = .ok (.aload_n 2, 1) := by decide +kernel
theorem dX2_shortenBy_104 : decode cX2_shortenBy 104 = .ok (.iload 5, 2) := by decide +kernel
theorem dX2_shortenBy_106 : decode cX2_shortenBy 106 = .ok (.iload 6, 2) := by decide +kernel
theorem dX2_shortenBy_108 : decode cX2_shortenBy 108 = .ok (.iadd, 1) := by decide +kernel
theorem dX2_shortenBy_109 : decode cX2_shortenBy 109 = .ok (.iload 8, 2) := by decide +kernel
theorem dX2_shortenBy_111 : decode cX2_shortenBy 111 = .ok (.iastore, 1) := by decide +kernel
theorem dX2_shortenBy_112 : decode cX2_shortenBy 112 = .ok (.iconst 1, 1) := by decide +kernel
theorem dX2_shortenBy_113 : decode cX2_shortenBy 113 = .ok (.istore_n 3, 1) := by decide +kernel
theorem dX2_shortenBy_114 : decode cX2_shortenBy 114 = .ok (.iinc 6 1, 3) := by decide +kernel
theorem dX2_shortenBy_117 : decode cX2_shortenBy 117 = .ok (.goto (-90), 3) := by decide +kernel
theorem dX2_shortenBy_120 : decode cX2_shortenBy 120 = .ok (.iload_n 3, 1) := by decide +kernel
theorem dX2_shortenBy_121 : decode cX2_shortenBy 121 = .ok (.ireturn, 1) := by decide +kernel
theorem dX2_hasLeastMinutes_0 : decode cX2_hasLeastMinutes 0 = .ok (.aload_n 0, 1) := by decide +kernel
theorem dX2_hasLeastMinutes_1 : decode cX2_hasLeastMinutes 1 = .ok (.aload_n 1, 1) := by decide +kernel
theorem dX2_hasLeastMinutes_2 : decode cX2_hasLeastMinutes 2 = .ok (.invokevirtual 80, 3) := by decide +kernel
theorem dX2_hasLeastMinutes_5 : decode cX2_hasLeastMinutes 5 = .ok (.iconst 0, 1) := by decide +kernel
theorem dX2_hasLeastMinutes_6 : decode cX2_hasLeastMinutes 6 = .ok (.istore_n 2, 1) := by decide +kernel
theorem dX2_hasLeastMinutes_7 : decode cX2_hasLeastMinutes 7 = .ok (.iload_n 2, 1) := by decide +kernel
theorem dX2_hasLeastMinutes_8 : decode cX2_hasLeastMinutes 8 = .ok (.aload_n 0, 1) := by decide +kernel
theorem dX2_hasLeastMinutes_9 : decode cX2_hasLeastMinutes 9 = .ok (.getfield 41, 3) := by decide +kernel
theorem dX2_hasLeastMinutes_12 : decode cX2_hasLeastMinutes 12 = .ok (.if_icmp .ge 14, 3) := by decide +kernel
theorem dX2_hasLeastMinutes_15 : decode cX2_hasLeastMinutes 15 = .ok (.aload_n 0, 1) := by decide +kernel
theorem dX2_hasLeastMinutes_16 : decode cX2_hasLeastMinutes 16 = .ok (.iload_n 2, 1) := by decide +kernel
theorem dX2_hasLeastMinutes_17 : decode cX2_hasLeastMinutes 17 = .ok (.invokevirtual 83, 3) := by decide +kernel
theorem dX2_hasLeastMinutes_20 : decode cX2_hasLeastMinutes 20 = .ok (.iinc 2 1, 3) := by decide +kernel
theorem dX2_hasLeastMinutes_23 : decode cX2_hasLeastMinutes 23 = .ok (.goto (-16), 3) := by decide +kernel
theorem dX2_hasLeastMinutes_26 : decode cX2_hasLeastMinutes 26 = .ok (.iconst 0, 1) := by decide +kernel
theorem dX2_hasLeastMinutes_27 : decode cX2_hasLeastMinutes 27 = .ok (.istore_n 2, 1) := by decide +kernel
theorem dX2_hasLeastMinutes_28 : decode cX2_hasLeastMinutes 28 = .ok (.iload_n 2, 1) := by decide +kernel
theorem dX2_hasLeastMinutes_29 : decode cX2_hasLeastMinutes 29 = .ok (.aload_n 0, 1) := by decide +kernel
theorem dX2_hasLeastMinutes_30 : decode cX2_hasLeastMinutes 30 = .ok (.getfield 41, 3) := by decide +kernel
theorem dX2_hasLeastMinutes_33 : decode cX2_hasLeastMinutes 33 = .ok (.if_icmp .ge 47, 3) := by decide +kernel
theorem dX2_hasLeastMinutes_36 : decode cX2_hasLeastMinutes 36 = .ok (.iconst 0, 1) := by decide +kernel
theorem dX2_hasLeastMinutes_37 : decode cX2_hasLeastMinutes 37 = .ok (.istore_n 3, 1) := by decide +kernel
theorem dX2_hasLeastMinutes_38 : decode cX2_hasLeastMinutes 38 = .ok (.iload_n 3, 1) := by decide +kernel
theorem dX2_hasLeastMinutes_39 : decode cX2_hasLeastMinutes 39 = .ok (.aload_n 0, 1) := by decide +kernel
theorem dX2_hasLeastMinutes_40 : decode cX2_hasLeastMinutes 40 = .ok (.getfield 41, 3) := by decide +kernel
theorem dX2_hasLeastMinutes_43 : decode cX2_hasLeastMinutes 43 = .ok (.if_icmp .ge 31, 3) := by decide +kernel
theorem dX2_hasLeastMinutes_46 : decode cX2_hasLeastMinutes 46 = .ok (.aload_n 0, 1) := by decide +kernel
theorem dX2_hasLeastMinutes_47 : decode cX2_hasLeastMinutes 47 = .ok (.getfield 38, 3) := by decide +kernel
theorem dX2_hasLeastMinutes_50 : decode cX2_hasLeastMinutes 50 = .ok (.iload_n 2, 1) := by decide +kernel
theorem dX2_hasLeastMinutes_51 : decode cX2_hasLeastMinutes 51 = .ok (.bipush 16, 2) := by decide +kernel
theorem dX2_hasLeastMinutes_53 : decode cX2_hasLeastMinutes 53 = .ok (.imul, 1) := by decide +kernel
theorem dX2_hasLeastMinutes_54 : decode cX2_hasLeastMinutes 54 = .ok (.iload_n 3, 1) := by decide +kernel
theorem dX2_hasLeastMinutes_55 : decode cX2_hasLeastMinutes 55 = .ok (.iadd, 1) := by decide +kernel
theorem dX2_hasLeastMinutes_56 : decode cX2_hasLeastMinutes 56 = .ok (.iaload, 1) := by decide +kernel
theorem dX2_hasLeastMinutes_57 : decode cX2_hasLeastMinutes 57 = .ok (.aload_n 1, 1) := by decide +kernel
theorem dX2_hasLeastMinutes_58 : decode cX2_hasLeastMinutes 58 = .ok (.iload_n 2, 1) := by decide +kernel
theorem dX2_hasLeastMinutes_59 : decode cX2_hasLeastMinutes 59 = .ok (.iload_n 3, 1) := by decide +kernel
theorem dX2_hasLeastMinutes_60 : decode cX2_hasLeastMinutes 60 = .ok (.invokevirtual 55, 3) := by decide +kernel
theorem dX2_hasLeastMinutes_63 : decode cX2_hasLeastMinutes 63 = .ok (.if_icmp .eq 5, 3) := by decide +kernel
theorem dX2_hasLeastMinutes_66 : decode cX2_hasLeastMinutes 66 = .ok (.iconst 0, 1) := by decide +kernel
theorem dX2_hasLeastMinutes_67 : decode cX2_hasLeastMinutes 67 = .ok (.ireturn, 1) := by decide +kernel
theorem dX2_hasLeastMinutes_68 : decode cX2_hasLeastMinutes 68 = .ok (.iinc 3 1, 3) := by decide +kernel
theorem dX2_hasLeastMinutes_71 : decode cX2_hasLeastMinutes 71 = .ok (.goto (-33), 3) := by decide +kernel
theorem dX2_hasLeastMinutes_74 : decode cX2_hasLeastMinutes 74 = .ok (.iinc 2 1, 3) := by decide +kernel
theorem dX2_hasLeastMinutes_77 : decode cX2_hasLeastMinutes 77 = .ok (.goto (-49), 3) := by decide +kernel
theorem dX2_hasLeastMinutes_80 : decode cX2_hasLeastMinutes 80 = .ok (.iconst 1, 1) := by decide +kernel
theorem dX2_hasLeastMinutes_81 : decode cX2_hasLeastMinutes 81 = .ok (.ireturn, 1) := by decide +kernel
theorem dX2_startComparing_0 : decode cX2_startComparing 0 = .ok (.iconst 0, 1) := by decide +kernel
theorem dX2_startComparing_1 : decode cX2_startComparing 1 = .ok (.istore_n 2, 1) := by decide +kernel
theorem dX2_startComparing_2 : decode cX2_startComparing 2 = .ok (.iload_n 2, 1) := by decide +kernel
theorem dX2_startComparing_3 : decode cX2_startComparing 3 = .ok (.aload_n 0, 1) := by decide +kernel
theorem dX2_startComparing_4 : decode cX2_startComparing 4 = .ok (.getfield 41, 3) := by decide +kernel
theorem dX2_startComparing_7 : decode cX2_startComparing 7 = .ok (.if_icmp .ge 47, 3) := by decide +kernel
theorem dX2_startComparing_10 : decode cX2_startComparing 10 = .ok (.iconst 0, 1) := by decide +kernel
theorem dX2_startComparing_11 : decode cX2_startComparing 11 = .ok (.istore_n 3, 1) := by decide +kernel
theorem dX2_startComparing_12 : decode cX2_startComparing 12 = .ok (.iload_n 3, 1) := by decide +kernel
theorem dX2_startComparing_13 : decode cX2_startComparing 13 = .ok (.aload_n 0, 1) := by decide +kernel
theorem dX2_startComparing_14 : decode cX2_startComparing 14 = .ok (.getfield 41, 3) := by decide +kernel
theorem dX2_startComparing_17 : decode cX2_startComparing 17 = .ok (.if_icmp .ge 31, 3) := by decide +kernel
theorem dX2_startComparing_20 : decode cX2_startComparing 20 = .ok (.aload_n 0, 1) := by decide +kernel
theorem dX2_startComparing_21 : decode cX2_startComparing 21 = .ok (.getfield 38, 3) := by decide +kernel
theorem dX2_startComparing_24 : decode cX2_startComparing 24 = .ok (.iload_n 2, 1) := by decide +kernel
theorem dX2_startComparing_25 : decode cX2_startComparing 25 = .ok (.bipush 16, 2) := by decide +kernel
theorem dX2_startComparing_27 : decode cX2_startComparing 27 = .ok (.imul, 1) := by decide +kernel
theorem dX2_startComparing_28 : decode cX2_startComparing 28 = .ok (.iload_n 3, 1) := by decide +kernel
theorem dX2_startComparing_29 : decode cX2_startComparing 29 = .ok (.iadd, 1) := by decide +kernel
theorem dX2_startComparing_30 : decode cX2_startComparing 30 = .ok (.iload_n 2, 1) := by decide +kernel
theorem dX2_startComparing_31 : decode cX2_startComparing 31 = .ok (.iload_n 3, 1) := by decide +kernel
theorem dX2_startComparing_32 : decode cX2_startComparing 32 = .ok (.if_icmp .ne 7, 3) := by decide +kernel
theorem dX2_startComparing_35 : decode cX2_startComparing 35 = .ok (.iconst 0, 1) := by decide +kernel
theorem dX2_startComparing_36 : decode cX2_startComparing 36 = .ok (.goto 5, 3) := by decide +kernel
theorem dX2_startComparing_39 : decode cX2_startComparing 39 = .ok (.ldc 59, 2) := by decide +kernel
theorem dX2_startComparing_41 : decode cX2_startComparing 41 = .ok (.iastore, 1) := by decide +kernel
theorem dX2_startComparing_42 : decode cX2_startComparing 42 = .ok (.iinc 3 1, 3) := by decide +kernel
theorem dX2_startComparing_45 : decode cX2_startComparing 45 = .ok (.goto (-33), 3) := by decide +kernel
theorem dX2_startComparing_48 : decode cX2_startComparing 48 = .ok (.iinc 2 1, 3) := by decide +kernel
theorem dX2_startComparing_51 : decode cX2_startComparing 51 = .ok (.goto (-49), 3) := by decide +kernel
theorem dX2_startComparing_54 : decode cX2_startComparing 54 = .ok (.iconst 0, 1) := by decide +kernel
theorem dX2_startComparing_55 : decode cX2_startComparing 55 = .ok (.istore_n 2, 1) := by decide +kernel
theorem dX2_startComparing_56 : decode cX2_startComparing 56 = .ok (.iload_n 2, 1) := by decide +kernel
theorem dX2_startComparing_57 : decode cX2_startComparing 57 = .ok (.aload_n 0, 1) := by decide +kernel
theorem dX2_startComparing_58 : decode cX2_startComparing 58 = .ok (.getfield 45, 3) := by decide +kernel
theorem dX2_startComparing_61 : decode cX2_startComparing 61 = .ok (.if_icmp .ge 97, 3) := by decide +kernel
theorem dX2_startComparing_64 : decode cX2_startComparing 64 = .ok (.aload_n 1, 1) := by decide +kernel
theorem dX2_startComparing_65 : decode cX2_startComparing 65 = .ok (.getfield 52, 3) := by decide +kernel
theorem dX2_startComparing_68 : decode cX2_startComparing 68 = .ok (.iload_n 2, 1) := by decide +kernel
theorem dX2_startComparing_69 : decode cX2_startComparing 69 = .ok (.baload, 1) := by decide +kernel
theorem dX2_startComparing_70 : decode cX2_startComparing 70 = .ok (.ifCond .ne 82, 3) := by decide +kernel
theorem dX2_startComparing_73 : decode cX2_startComparing 73 = .ok (.aload_n 0, 1) := by decide +kernel
theorem dX2_startComparing_74 : decode cX2_startComparing 74 = .ok (.getfield 15, 3) := by decide +kernel
theorem dX2_startComparing_77 : decode cX2_startComparing 77 = .ok (.iload_n 2, 1) := by decide +kernel
theorem dX2_startComparing_78 : decode cX2_startComparing 78 = .ok (.iaload, 1) := by decide +kernel
theorem dX2_startComparing_79 : decode cX2_startComparing 79 = .ok (.bipush 16, 2) := by decide +kernel
theorem dX2_startComparing_81 : decode cX2_startComparing 81 = .ok (.imul, 1) := by decide +kernel
theorem dX2_startComparing_82 : decode cX2_startComparing 82 = .ok (.aload_n 0, 1) := by decide +kernel
theorem dX2_startComparing_83 : decode cX2_startComparing 83 = .ok (.getfield 19, 3) := by decide +kernel
theorem dX2_startComparing_86 : decode cX2_startComparing 86 = .ok (.iload_n 2, 1) := by decide +kernel
theorem dX2_startComparing_87 : decode cX2_startComparing 87 = .ok (.iaload, 1) := by decide +kernel
theorem dX2_startComparing_88 : decode cX2_startComparing 88 = .ok (.iadd, 1) := by decide +kernel
theorem dX2_startComparing_89 : decode cX2_startComparing 89 = .ok (.istore_n 3, 1) := by decide +kernel
theorem dX2_startComparing_90 : decode cX2_startComparing 90 = .ok (.aload_n 0, 1) := by decide +kernel
theorem dX2_startComparing_91 : decode cX2_startComparing 91 = .ok (.getfield 19, 3) := by decide +kernel
theorem dX2_startComparing_94 : decode cX2_startComparing 94 = .ok (.iload_n 2, 1) := by decide +kernel
theorem dX2_startComparing_95 : decode cX2_startComparing 95 = .ok (.iaload, 1) := by decide +kernel
theorem dX2_startComparing_96 : decode cX2_startComparing 96 = .ok (.bipush 16, 2) := by decide +kernel
theorem dX2_startComparing_98 : decode cX2_startComparing 98 = .ok (.imul, 1) := by decide +kernel
theorem dX2_startComparing_99 : decode cX2_startComparing 99 = .ok (.aload_n 0, 1) := by decide +kernel
theorem dX2_startComparing_100 : decode cX2_startComparing 100 = .ok (.getfield 15, 3) := by decide +kernel
theorem dX2_startComparing_103 : decode cX2_startComparing 103 = .ok (.iload_n 2, 1) := by decide +kernel
theorem dX2_startComparing_104 : decode cX2_startComparing 104 = .ok (.iaload, 1) := by decide +kernel
theorem dX2_startComparing_105 : decode cX2_startComparing 105 = .ok (.iadd, 1) := by decide +kernel
theorem dX2_startComparing_106 : decode cX2_startComparing 106 = .ok (.istore 4, 2) := by decide +kernel
theorem dX2_startComparing_108 : decode cX2_startComparing 108 = .ok (.aload_n 0, 1) := by decide +kernel
theorem dX2_startComparing_109 : decode cX2_startComparing 109 = .ok (.getfield 38, 3) := by decide +kernel
theorem dX2_startComparing_112 : decode cX2_startComparing 112 = .ok (.iload_n 3, 1) := by decide +kernel
theorem dX2_startComparing_113 : decode cX2_startComparing 113 = .ok (.aload_n 0, 1) := by decide +kernel
theorem dX2_startComparing_114 : decode cX2_startComparing 114 = .ok (.getfield 38, 3) := by decide +kernel
theorem dX2_startComparing_117 : decode cX2_startComparing 117 = .ok (.iload_n 3, 1) := by decide +kernel
theorem dX2_startComparing_118 : decode cX2_startComparing 118 = .ok (.iaload, 1) := by decide +kernel
theorem dX2_startComparing_119 : decode cX2_startComparing 119 = .ok (.aload_n 0, 1) := by decide +kernel
theorem dX2_startComparing_120 : decode cX2_startComparing 120 = .ok (.getfield 22, 3) := by decide +kernel
theorem dX2_startComparing_123 : decode cX2_startComparing 123 = .ok (.iload_n 2, 1) := by decide +kernel
theorem dX2_startComparing_124 : decode cX2_startComparing 124 = .ok (.iaload, 1) := by decide +kernel
theorem dX2_startComparing_125 : decode cX2_startComparing 125 = .ok (.invokestatic 87, 3) := by decide +kernel
theorem dX2_startComparing_128 : decode cX2_startComparing 128 = .ok (.iastore, 1) := by decide +kernel
theorem dX2_startComparing_129 : decode cX2_startComparing 129 = .ok (.aload_n 0, 1) := by decide +kernel
theorem dX2_startComparing_130 : decode cX2_startComparing 130 = .ok (.getfield 38, 3) := by decide +kernel
theorem dX2_startComparing_133 : decode cX2_startComparing 133 = .ok (.iload 4, 2) := by decide +kernel
theorem dX2_startComparing_135 : decode cX2_startComparing 135 = .ok (.aload_n 0, 1) := by decide +kernel
theorem dX2_startComparing_136 : decode cX2_startComparing 136 = .ok (.getfield 38, 3) := by decide +kernel
theorem dX2_startComparing_139 : decode cX2_startComparing 139 = .ok (.iload 4, 2) := by decide +kernel
theorem dX2_startComparing_141 : decode cX2_startComparing 141 = .ok (.iaload, 1) := by decide +kernel
theorem dX2_startComparing_142 : decode cX2_startComparing 142 = .ok (.aload_n 0, 1) := by decide +kernel
theorem dX2_startComparing_143 : decode cX2_startComparing 143 = .ok (.getfield 25, 3) := by decide +kernel
theorem dX2_startComparing_146 : decode cX2_startComparing 146 = .ok (.iload_n 2, 1) := by decide +kernel
theorem dX2_startComparing_147 : decode cX2_startComparing 147 = .ok (.iaload, 1) := by decide +kernel
theorem dX2_startComparing_148 : decode cX2_startComparing 148 = .ok (.invokestatic 87, 3) := by decide +kernel
theorem dX2_startComparing_151 : decode cX2_startComparing 151 = .ok (.iastore, 1) := by decide +kernel
theorem dX2_startComparing_152 : decode cX2_startComparing 152 = .ok (.iinc 2 1, 3) := by decide +kernel
theorem dX2_startComparing_155 : decode cX2_startComparing 155 = .ok (.goto (-99), 3) := by decide +kernel
theorem dX2_startComparing_158 : decode cX2_startComparing 158 = .ok (.return_, 1) := by decide +kernel
theorem dX2_allowBetween_0 : decode cX2_allowBetween 0 = .ok (.iconst 0, 1) := by decide +kernel
theorem dX2_allowBetween_1 : decode cX2_allowBetween 1 = .ok (.istore_n 2, 1) := by decide +kernel
theorem dX2_allowBetween_2 : decode cX2_allowBetween 2 = .ok (.iload_n 2, 1) := by decide +kernel
theorem dX2_allowBetween_3 : decode cX2_allowBetween 3 = .ok (.aload_n 0, 1) := by decide +kernel
theorem dX2_allowBetween_4 : decode cX2_allowBetween 4 = .ok (.getfield 41, 3) := by decide +kernel
theorem dX2_allowBetween_7 : decode cX2_allowBetween 7 = .ok (.if_icmp .ge 79, 3) := by decide +kernel
theorem dX2_allowBetween_10 : decode cX2_allowBetween 10 = .ok (.aload_n 0, 1) := by decide +kernel
theorem dX2_allowBetween_11 : decode cX2_allowBetween 11 = .ok (.getfield 38, 3) := by decide +kernel
theorem dX2_allowBetween_14 : decode cX2_allowBetween 14 = .ok (.iload_n 2, 1) := by decide +kernel
theorem dX2_allowBetween_15 : decode cX2_allowBetween 15 = .ok (.bipush 16, 2) := by decide +kernel
theorem dX2_allowBetween_17 : decode cX2_allowBetween 17 = .ok (.imul, 1) := by decide +kernel
theorem dX2_allowBetween_18 : decode cX2_allowBetween 18 = .ok (.iload_n 1, 1) := by decide +kernel
theorem dX2_allowBetween_19 : decode cX2_allowBetween 19 = .ok (.iadd, 1) := by decide +kernel
theorem dX2_allowBetween_20 : decode cX2_allowBetween 20 = .ok (.iaload, 1) := by decide +kernel
theorem dX2_allowBetween_21 : decode cX2_allowBetween 21 = .ok (.istore_n 3, 1) := by decide +kernel
theorem dX2_allowBetween_22 : decode cX2_allowBetween 22 = .ok (.iconst 0, 1) := by decide +kernel
theorem dX2_allowBetween_23 : decode cX2_allowBetween 23 = .ok (.istore 4, 2) := by decide +kernel
theorem dX2_allowBetween_25 : decode cX2_allowBetween 25 = .ok (.iload 4, 2) := by decide +kernel
theorem dX2_allowBetween_27 : decode cX2_allowBetween 27 = .ok (.aload_n 0, 1) := by decide +kernel
theorem dX2_allowBetween_28 : decode cX2_allowBetween 28 = .ok (.getfield 41, 3) := by decide +kernel
theorem dX2_allowBetween_31 : decode cX2_allowBetween 31 = .ok (.if_icmp .ge 49, 3) := by decide +kernel
theorem dX2_allowBetween_34 : decode cX2_allowBetween 34 = .ok (.iload_n 2, 1) := by decide +kernel
theorem dX2_allowBetween_35 : decode cX2_allowBetween 35 = .ok (.bipush 16, 2) := by decide +kernel
theorem dX2_allowBetween_37 : decode cX2_allowBetween 37 = .ok (.imul, 1) := by decide +kernel
theorem dX2_allowBetween_38 : decode cX2_allowBetween 38 = .ok (.iload 4, 2) := by decide +kernel
theorem dX2_allowBetween_40 : decode cX2_allowBetween 40 = .ok (.iadd, 1) := by decide +kernel
theorem dX2_allowBetween_41 : decode cX2_allowBetween 41 = .ok (.istore 5, 2) := by decide +kernel
theorem dX2_allowBetween_43 : decode cX2_allowBetween 43 = .ok (.aload_n 0, 1) := by decide +kernel
theorem dX2_allowBetween_44 : decode cX2_allowBetween 44 = .ok (.getfield 38, 3) := by decide +kernel
theorem dX2_allowBetween_47 : decode cX2_allowBetween 47 = .ok (.iload 5, 2) := by decide +kernel
theorem dX2_allowBetween_49 : decode cX2_allowBetween 49 = .ok (.aload_n 0, 1) := by decide +kernel
theorem dX2_allowBetween_50 : decode cX2_allowBetween 50 = .ok (.getfield 38, 3) := by decide +kernel
theorem dX2_allowBetween_53 : decode cX2_allowBetween 53 = .ok (.iload 5, 2) := by decide +kernel
theorem dX2_allowBetween_55 : decode cX2_allowBetween 55 = .ok (.iaload, 1) := by decide +kernel
theorem dX2_allowBetween_56 : decode cX2_allowBetween 56 = .ok (.iload_n 3, 1) := by decide +kernel
theorem dX2_allowBetween_57 : decode cX2_allowBetween 57 = .ok (.aload_n 0, 1) := by decide +kernel
theorem dX2_allowBetween_58 : decode cX2_allowBetween 58 = .ok (.getfield 38, 3) := by decide +kernel
theorem dX2_allowBetween_61 : decode cX2_allowBetween 61 = .ok (.iload_n 1, 1) := by decide +kernel
theorem dX2_allowBetween_62 : decode cX2_allowBetween 62 = .ok (.bipush 16, 2) := by decide +kernel
theorem dX2_allowBetween_64 : decode cX2_allowBetween 64 = .ok (.imul, 1) := by decide +kernel
theorem dX2_allowBetween_65 : decode cX2_allowBetween 65 = .ok (.iload 4, 2) := by decide +kernel
theorem dX2_allowBetween_67 : decode cX2_allowBetween 67 = .ok (.iadd, 1) := by decide +kernel
theorem dX2_allowBetween_68 : decode cX2_allowBetween 68 = .ok (.iaload, 1) := by decide +kernel
theorem dX2_allowBetween_69 : decode cX2_allowBetween 69 = .ok (.iadd, 1) := by decide +kernel
theorem dX2_allowBetween_70 : decode cX2_allowBetween 70 = .ok (.invokestatic 87, 3) := by decide +kernel
theorem dX2_allowBetween_73 : decode cX2_allowBetween 73 = .ok (.iastore, 1) := by decide +kernel
theorem dX2_allowBetween_74 : decode cX2_allowBetween 74 = .ok (.iinc 4 1, 3) := by decide +kernel
theorem dX2_allowBetween_77 : decode cX2_allowBetween 77 = .ok (.goto (-52), 3) := by decide +kernel
theorem dX2_allowBetween_80 : decode cX2_allowBetween 80 = .ok (.iinc 2 1, 3) := by decide +kernel
theorem dX2_allowBetween_83 : decode cX2_allowBetween 83 = .ok (.goto (-81), 3) := by decide +kernel
theorem dX2_allowBetween_86 : decode cX2_allowBetween 86 = .ok (.return_, 1) := by decide +kernel
theorem dX3_init_0 : decode cX3_init 0 = .ok (.aload_n 0, 1) := by decide +kernel
theorem dX3_init_1 : decode cX3_init 1 = .ok (.invokespecial 3, 3) := by decide +kernel
theorem dX3_init_4 : decode cX3_init 4 = .ok (.aload_n 0, 1) := by decide +kernel
theorem dX3_init_5 : decode cX3_init 5 = .ok (.iconst 4, 1) := by decide +kernel
theorem dX3_init_6 : decode cX3_init 6 = .ok (.newarray .int, 2) := by decide +kernel
theorem dX3_init_8 : decode cX3_init 8 = .ok (.putfield 9, 3) := by decide +kernel
theorem dX3_init_11 : decode cX3_init 11 = .ok (.aload_n 0, 1) := by decide +kernel
theorem dX3_init_12 : decode cX3_init 12 = .ok (.iconst 4, 1) := by decide +kernel
theorem dX3_init_13 : decode cX3_init 13 = .ok (.newarray .int, 2) := by decide +kernel
theorem dX3_init_15 : decode cX3_init 15 = .ok (.putfield 15, 3) := by decide +kernel
theorem dX3_init_18 : decode cX3_init 18 = .ok (.aload_n 0, 1) := by decide +kernel
theorem dX3_init_19 : decode cX3_init 19 = .ok (.iconst 4, 1) := by decide +kernel
theorem dX3_init_20 : decode cX3_init 20 = .ok (.newarray .int, 2) := by decide +kernel
theorem dX3_init_22 : decode cX3_init 22 = .ok (.putfield 18, 3) := by decide +kernel
theorem dX3_init_25 : decode cX3_init 25 = .ok (.aload_n 0, 1) := by decide +kernel
theorem dX3_init_26 : decode cX3_init 26 = .ok (.iconst 0, 1) := by decide +kernel
theorem dX3_init_27 : decode cX3_init 27 = .ok (.putfield 21, 3) := by decide +kernel
theorem dX3_init_30 : decode cX3_init 30 = .ok (.aload_n 0, 1) := by decide +kernel
theorem dX3_init_31 : decode cX3_init 31 = .ok (.iconst 0, 1) := by decide +kernel
theorem dX3_init_32 : decode cX3_init 32 = .ok (.putfield 25, 3) := by decide +kernel
theorem dX3_init_35 : decode cX3_init 35 = .ok (.return_, 1) := by decide +kernel
theorem dX3_enlist_0 : decode cX3_enlist 0 = .ok (.aload_n 0, 1) := by decide +kernel
theorem dX3_enlist_1 : decode cX3_enlist 1 = .ok (.getfield 21, 3) := by decide +kernel
theorem dX3_enlist_4 : decode cX3_enlist 4 = .ok (.istore_n 3, 1) := by decide +kernel
theorem dX3_enlist_5 : decode cX3_enlist 5 = .ok (.aload_n 0, 1) := by decide +kernel
theorem dX3_enlist_6 : decode cX3_enlist 6 = .ok (.dup, 1) := by decide +kernel
theorem dX3_enlist_7 : decode cX3_enlist 7 = .ok (.getfield 21, 3) := by decide +kernel
theorem dX3_enlist_10 : decode cX3_enlist 10 = .ok (.iconst 1, 1) := by decide +kernel
theorem dX3_enlist_11 : decode cX3_enlist 11 = .ok (.iadd, 1) := by decide +kernel
theorem dX3_enlist_12 : decode cX3_enlist 12 = .ok (.putfield 21, 3) := by decide +kernel
theorem dX3_enlist_15 : decode cX3_enlist 15 = .ok (.aload_n 0, 1) := by decide +kernel
theorem dX3_enlist_16 : decode cX3_enlist 16 = .ok (.getfield 9, 3) := by decide +kernel
theorem dX3_enlist_19 : decode cX3_enlist 19 = .ok (.iload_n 3, 1) := by decide +kernel
theorem dX3_enlist_20 : decode cX3_enlist 20 = .ok (.iload_n 1, 1) := by decide +kernel
theorem dX3_enlist_21 : decode cX3_enlist 21 = .ok (.iastore, 1) := by decide +kernel
theorem dX3_enlist_22 : decode cX3_enlist 22 = .ok (.aload_n 0, 1) := by decide +kernel
theorem dX3_enlist_23 : decode cX3_enlist 23 = .ok (.getfield 15, 3) := by decide +kernel
theorem dX3_enlist_26 : decode cX3_enlist 26 = .ok (.iload_n 3, 1) := by decide +kernel
theorem dX3_enlist_27 : decode cX3_enlist 27 = .ok (.iload_n 2, 1) := by decide +kernel
theorem dX3_enlist_28 : decode cX3_enlist 28 = .ok (.iastore, 1) := by decide +kernel
theorem dX3_enlist_29 : decode cX3_enlist 29 = .ok (.iload_n 3, 1) := by decide +kernel
theorem dX3_enlist_30 : decode cX3_enlist 30 = .ok (.ireturn, 1) := by decide +kernel
theorem dX3_hasTool_0 : decode cX3_hasTool 0 = .ok (.aload_n 0, 1) := by decide +kernel
theorem dX3_hasTool_1 : decode cX3_hasTool 1 = .ok (.getfield 15, 3) := by decide +kernel
theorem dX3_hasTool_4 : decode cX3_hasTool 4 = .ok (.iload_n 1, 1) := by decide +kernel
theorem dX3_hasTool_5 : decode cX3_hasTool 5 = .ok (.iaload, 1) := by decide +kernel
theorem dX3_hasTool_6 : decode cX3_hasTool 6 = .ok (.iload_n 2, 1) := by decide +kernel
theorem dX3_hasTool_7 : decode cX3_hasTool 7 = .ok (.iand, 1) := by decide +kernel
theorem dX3_hasTool_8 : decode cX3_hasTool 8 = .ok (.iload_n 2, 1) := by decide +kernel
theorem dX3_hasTool_9 : decode cX3_hasTool 9 = .ok (.if_icmp .ne 7, 3) := by decide +kernel
theorem dX3_hasTool_12 : decode cX3_hasTool 12 = .ok (.iconst 1, 1) := by decide +kernel
theorem dX3_hasTool_13 : decode cX3_hasTool 13 = .ok (.goto 4, 3) := by decide +kernel
theorem dX3_hasTool_16 : decode cX3_hasTool 16 = .ok (.iconst 0, 1) := by decide +kernel
theorem dX3_hasTool_17 : decode cX3_hasTool 17 = .ok (.ireturn, 1) := by decide +kernel
theorem dX3_spend_0 : decode cX3_spend 0 = .ok (.aload_n 0, 1) := by decide +kernel
theorem dX3_spend_1 : decode cX3_spend 1 = .ok (.dup, 1) := by decide +kernel
theorem dX3_spend_2 : decode cX3_spend 2 = .ok (.getfield 25, 3) := by decide +kernel
theorem dX3_spend_5 : decode cX3_spend 5 = .ok (.iload_n 2, 1) := by decide +kernel
theorem dX3_spend_6 : decode cX3_spend 6 = .ok (.isub, 1) := by decide +kernel
theorem dX3_spend_7 : decode cX3_spend 7 = .ok (.putfield 25, 3) := by decide +kernel
theorem dX3_spend_10 : decode cX3_spend 10 = .ok (.aload_n 0, 1) := by decide +kernel
theorem dX3_spend_11 : decode cX3_spend 11 = .ok (.getfield 18, 3) := by decide +kernel
theorem dX3_spend_14 : decode cX3_spend 14 = .ok (.iload_n 1, 1) := by decide +kernel
theorem dX3_spend_15 : decode cX3_spend 15 = .ok (.dup2, 1) := by decide +kernel
theorem dX3_spend_16 : decode cX3_spend 16 = .ok (.iaload, 1) := by decide +kernel
theorem dX3_spend_17 : decode cX3_spend 17 = .ok (.iload_n 2, 1) := by decide +kernel
theorem dX3_spend_18 : decode cX3_spend 18 = .ok (.iadd, 1) := by decide +kernel
theorem dX3_spend_19 : decode cX3_spend 19 = .ok (.iastore, 1) := by decide +kernel
theorem dX3_spend_20 : decode cX3_spend 20 = .ok (.return_, 1) := by decide +kernel
theorem dX4_init_0 : decode cX4_init 0 = .ok (.aload_n 0, 1) := by decide +kernel
theorem dX4_init_1 : decode cX4_init 1 = .ok (.invokespecial 3, 3) := by decide +kernel
theorem dX4_init_4 : decode cX4_init 4 = .ok (.aload_n 0, 1) := by decide +kernel
theorem dX4_init_5 : decode cX4_init 5 = .ok (.bipush 40, 2) := by decide +kernel
theorem dX4_init_7 : decode cX4_init 7 = .ok (.newarray .char, 2) := by decide +kernel
theorem dX4_init_9 : decode cX4_init 9 = .ok (.putfield 9, 3) := by decide +kernel
theorem dX4_init_12 : decode cX4_init 12 = .ok (.aload_n 0, 1) := by decide +kernel
theorem dX4_init_13 : decode cX4_init 13 = .ok (.bipush 40, 2) := by decide +kernel
theorem dX4_init_15 : decode cX4_init 15 = .ok (.newarray .int, 2) := by decide +kernel
theorem dX4_init_17 : decode cX4_init 17 = .ok (.putfield 15, 3) := by decide +kernel
theorem dX4_init_20 : decode cX4_init 20 = .ok (.aload_n 0, 1) := by decide +kernel
theorem dX4_init_21 : decode cX4_init 21 = .ok (.bipush 40, 2) := by decide +kernel
theorem dX4_init_23 : decode cX4_init 23 = .ok (.newarray .int, 2) := by decide +kernel
theorem dX4_init_25 : decode cX4_init 25 = .ok (.putfield 19, 3) := by decide +kernel
theorem dX4_init_28 : decode cX4_init 28 = .ok (.aload_n 0, 1) := by decide +kernel
theorem dX4_init_29 : decode cX4_init 29 = .ok (.bipush 40, 2) := by decide +kernel
theorem dX4_init_31 : decode cX4_init 31 = .ok (.newarray .int, 2) := by decide +kernel
theorem dX4_init_33 : decode cX4_init 33 = .ok (.putfield 22, 3) := by decide +kernel
theorem dX4_init_36 : decode cX4_init 36 = .ok (.aload_n 0, 1) := by decide +kernel
theorem dX4_init_37 : decode cX4_init 37 = .ok (.iconst 0, 1) := by decide +kernel
theorem dX4_init_38 : decode cX4_init 38 = .ok (.putfield 25, 3) := by decide +kernel
theorem dX4_init_41 : decode cX4_init 41 = .ok (.return_, 1) := by decide +kernel
theorem dX4_hasRoom_0 : decode cX4_hasRoom 0 = .ok (.aload_n 0, 1) := by decide +kernel
theorem dX4_hasRoom_1 : decode cX4_hasRoom 1 = .ok (.getfield 25, 3) := by decide +kernel
theorem dX4_hasRoom_4 : decode cX4_hasRoom 4 = .ok (.bipush 40, 2) := by decide +kernel
theorem dX4_hasRoom_6 : decode cX4_hasRoom 6 = .ok (.if_icmp .ge 7, 3) := by decide +kernel
theorem dX4_hasRoom_9 : decode cX4_hasRoom 9 = .ok (.iconst 1, 1) := by decide +kernel
theorem dX4_hasRoom_10 : decode cX4_hasRoom 10 = .ok (.goto 4, 3) := by decide +kernel
theorem dX4_hasRoom_13 : decode cX4_hasRoom 13 = .ok (.iconst 0, 1) := by decide +kernel
theorem dX4_hasRoom_14 : decode cX4_hasRoom 14 = .ok (.ireturn, 1) := by decide +kernel
theorem dX4_make_0 : decode cX4_make 0 = .ok (.aload_n 0, 1) := by decide +kernel
theorem dX4_make_1 : decode cX4_make 1 = .ok (.getfield 25, 3) := by decide +kernel
theorem dX4_make_4 : decode cX4_make 4 = .ok (.istore 4, 2) := by decide +kernel
theorem dX4_make_6 : decode cX4_make 6 = .ok (.aload_n 0, 1) := by decide +kernel
theorem dX4_make_7 : decode cX4_make 7 = .ok (.dup, 1) := by decide +kernel
theorem dX4_make_8 : decode cX4_make 8 = .ok (.getfield 25, 3) := by decide +kernel
theorem dX4_make_11 : decode cX4_make 11 = .ok (.iconst 1, 1) := by decide +kernel
theorem dX4_make_12 : decode cX4_make 12 = .ok (.iadd, 1) := by decide +kernel
theorem dX4_make_13 : decode cX4_make 13 = .ok (.putfield 25, 3) := by decide +kernel
theorem dX4_make_16 : decode cX4_make 16 = .ok (.aload_n 0, 1) := by decide +kernel
theorem dX4_make_17 : decode cX4_make 17 = .ok (.getfield 9, 3) := by decide +kernel
theorem dX4_make_20 : decode cX4_make 20 = .ok (.iload 4, 2) := by decide +kernel
theorem dX4_make_22 : decode cX4_make 22 = .ok (.iload_n 1, 1) := by decide +kernel
theorem dX4_make_23 : decode cX4_make 23 = .ok (.castore, 1) := by decide +kernel
theorem dX4_make_24 : decode cX4_make 24 = .ok (.aload_n 0, 1) := by decide +kernel
theorem dX4_make_25 : decode cX4_make 25 = .ok (.getfield 15, 3) := by decide +kernel
theorem dX4_make_28 : decode cX4_make 28 = .ok (.iload 4, 2) := by decide +kernel
theorem dX4_make_30 : decode cX4_make 30 = .ok (.iload_n 2, 1) := by decide +kernel
theorem dX4_make_31 : decode cX4_make 31 = .ok (.iastore, 1) := by decide +kernel
theorem dX4_make_32 : decode cX4_make 32 = .ok (.aload_n 0, 1) := by decide +kernel
theorem dX4_make_33 : decode cX4_make 33 = .ok (.getfield 19, 3) := by decide +kernel
theorem dX4_make_36 : decode cX4_make 36 = .ok (.iload 4, 2) := by decide +kernel
theorem dX4_make_38 : decode cX4_make 38 = .ok (.iload_n 3, 1) := by decide +kernel
theorem dX4_make_39 : decode cX4_make 39 = .ok (.iastore, 1) := by decide +kernel
theorem dX4_make_40 : decode cX4_make 40 = .ok (.aload_n 0, 1) := by decide +kernel
theorem dX4_make_41 : decode cX4_make 41 = .ok (.getfield 22, 3) := by decide +kernel
theorem dX4_make_44 : decode cX4_make 44 = .ok (.iload 4, 2) := by decide +kernel
theorem dX4_make_46 : decode cX4_make 46 = .ok (.iconst (-1), 1) := by decide +kernel
theorem dX4_make_47 : decode cX4_make 47 = .ok (.iastore, 1) := by decide +kernel
theorem dX4_make_48 : decode cX4_make 48 = .ok (.iload 4, 2) := by decide +kernel
theorem dX4_make_50 : decode cX4_make 50 = .ok (.ireturn, 1) := by decide +kernel
theorem dX4_isOpen_0 : decode cX4_isOpen 0 = .ok (.aload_n 0, 1) := by decide +kernel
theorem dX4_isOpen_1 : decode cX4_isOpen 1 = .ok (.getfield 22, 3) := by decide +kernel
theorem dX4_isOpen_4 : decode cX4_isOpen 4 = .ok (.iload_n 1, 1) := by decide +kernel
theorem dX4_isOpen_5 : decode cX4_isOpen 5 = .ok (.iaload, 1) := by decide +kernel
theorem dX4_isOpen_6 : decode cX4_isOpen 6 = .ok (.iconst (-1), 1) := by decide +kernel
theorem dX4_isOpen_7 : decode cX4_isOpen 7 = .ok (.if_icmp .ne 7, 3) := by decide +kernel
theorem dX4_isOpen_10 : decode cX4_isOpen 10 = .ok (.iconst 1, 1) := by decide +kernel
theorem dX4_isOpen_11 : decode cX4_isOpen 11 = .ok (.goto 4, 3) := by decide +kernel
theorem dX4_isOpen_14 : decode cX4_isOpen 14 = .ok (.iconst 0, 1) := by decide +kernel
theorem dX4_isOpen_15 : decode cX4_isOpen 15 = .ok (.ireturn, 1) := by decide +kernel
theorem dX4_isAsked_0 : decode cX4_isAsked 0 = .ok (.iconst 0, 1) := by decide +kernel
theorem dX4_isAsked_1 : decode cX4_isAsked 1 = .ok (.istore_n 3, 1) := by decide +kernel
theorem dX4_isAsked_2 : decode cX4_isAsked 2 = .ok (.iload_n 3, 1) := by decide +kernel
theorem dX4_isAsked_3 : decode cX4_isAsked 3 = .ok (.aload_n 0, 1) := by decide +kernel
theorem dX4_isAsked_4 : decode cX4_isAsked 4 = .ok (.getfield 25, 3) := by decide +kernel
theorem dX4_isAsked_7 : decode cX4_isAsked 7 = .ok (.if_icmp .ge 39, 3) := by decide +kernel
theorem dX4_isAsked_10 : decode cX4_isAsked 10 = .ok (.aload_n 0, 1) := by decide +kernel
theorem dX4_isAsked_11 : decode cX4_isAsked 11 = .ok (.iload_n 3, 1) := by decide +kernel
theorem dX4_isAsked_12 : decode cX4_isAsked 12 = .ok (.invokevirtual 29, 3) := by decide +kernel
theorem dX4_isAsked_15 : decode cX4_isAsked 15 = .ok (.ifCond .eq 25, 3) := by decide +kernel
theorem dX4_isAsked_18 : decode cX4_isAsked 18 = .ok (.aload_n 0, 1) := by decide +kernel
theorem dX4_isAsked_19 : decode cX4_isAsked 19 = .ok (.getfield 9, 3) := by decide +kernel
theorem dX4_isAsked_22 : decode cX4_isAsked 22 = .ok (.iload_n 3, 1) := by decide +kernel
theorem dX4_isAsked_23 : decode cX4_isAsked 23 = .ok (.caload, 1) := by decide +kernel
theorem dX4_isAsked_24 : decode cX4_isAsked 24 = .ok (.iload_n 1, 1) := by decide +kernel
theorem dX4_isAsked_25 : decode cX4_isAsked 25 = .ok (.if_icmp .ne 15, 3) := by decide +kernel
theorem dX4_isAsked_28 : decode cX4_isAsked 28 = .ok (.aload_n 0, 1) := by decide +kernel
theorem dX4_isAsked_29 : decode cX4_isAsked 29 = .ok (.getfield 15, 3) := by decide +kernel
theorem dX4_isAsked_32 : decode cX4_isAsked 32 = .ok (.iload_n 3, 1) := by decide +kernel
theorem dX4_isAsked_33 : decode cX4_isAsked 33 = .ok (.iaload, 1) := by decide +kernel
theorem dX4_isAsked_34 : decode cX4_isAsked 34 = .ok (.iload_n 2, 1) := by decide +kernel
theorem dX4_isAsked_35 : decode cX4_isAsked 35 = .ok (.if_icmp .ne 5, 3) := by decide +kernel
theorem dX4_isAsked_38 : decode cX4_isAsked 38 = .ok (.iconst 1, 1) := by decide +kernel
theorem dX4_isAsked_39 : decode cX4_isAsked 39 = .ok (.ireturn, 1) := by decide +kernel
theorem dX4_isAsked_40 : decode cX4_isAsked 40 = .ok (.iinc 3 1, 3) := by decide +kernel
theorem dX4_isAsked_43 : decode cX4_isAsked 43 = .ok (.goto (-41), 3) := by decide +kernel
theorem dX4_isAsked_46 : decode cX4_isAsked 46 = .ok (.iconst 0, 1) := by decide +kernel
theorem dX4_isAsked_47 : decode cX4_isAsked 47 = .ok (.ireturn, 1) := by decide +kernel
theorem dX4_areDoneByOneOf_0 : decode cX4_areDoneByOneOf 0 = .ok (.iconst 0, 1) := by decide +kernel
theorem dX4_areDoneByOneOf_1 : decode cX4_areDoneByOneOf 1 = .ok (.istore_n 2, 1) := by decide +kernel
theorem dX4_areDoneByOneOf_2 : decode cX4_areDoneByOneOf 2 = .ok (.iload_n 2, 1) := by decide +kernel
theorem dX4_areDoneByOneOf_3 : decode cX4_areDoneByOneOf 3 = .ok (.aload_n 0, 1) := by decide +kernel
theorem dX4_areDoneByOneOf_4 : decode cX4_areDoneByOneOf 4 = .ok (.getfield 25, 3) := by decide +kernel
theorem dX4_areDoneByOneOf_7 : decode cX4_areDoneByOneOf 7 = .ok (.if_icmp .ge 38, 3) := by decide +kernel
theorem dX4_areDoneByOneOf_10 : decode cX4_areDoneByOneOf 10 = .ok (.aload_n 0, 1) := by decide +kernel
theorem dX4_areDoneByOneOf_11 : decode cX4_areDoneByOneOf 11 = .ok (.iload_n 2, 1) := by decide +kernel
theorem dX4_areDoneByOneOf_12 : decode cX4_areDoneByOneOf 12 = .ok (.invokevirtual 29, 3) := by decide +kernel
theorem dX4_areDoneByOneOf_15 : decode cX4_areDoneByOneOf 15 = .ok (.ifCond .ne 24, 3) := by decide +kernel
theorem dX4_areDoneByOneOf_18 : decode cX4_areDoneByOneOf 18 = .ok (.aload_n 0, 1) := by decide +kernel
theorem dX4_areDoneByOneOf_19 : decode cX4_areDoneByOneOf 19 = .ok (.getfield 22, 3) := by decide +kernel
theorem dX4_areDoneByOneOf_22 : decode cX4_areDoneByOneOf 22 = .ok (.iload_n 2, 1) := by decide +kernel
theorem dX4_areDoneByOneOf_23 : decode cX4_areDoneByOneOf 23 = .ok (.iaload, 1) := by decide +kernel
theorem dX4_areDoneByOneOf_24 : decode cX4_areDoneByOneOf 24 = .ok (.ifCond .lt 13, 3) := by decide +kernel
theorem dX4_areDoneByOneOf_27 : decode cX4_areDoneByOneOf 27 = .ok (.aload_n 0, 1) := by decide +kernel
theorem dX4_areDoneByOneOf_28 : decode cX4_areDoneByOneOf 28 = .ok (.getfield 22, 3) := by decide +kernel
theorem dX4_areDoneByOneOf_31 : decode cX4_areDoneByOneOf 31 = .ok (.iload_n 2, 1) := by decide +kernel
theorem dX4_areDoneByOneOf_32 : decode cX4_areDoneByOneOf 32 = .ok (.iaload, 1) := by decide +kernel
theorem dX4_areDoneByOneOf_33 : decode cX4_areDoneByOneOf 33 = .ok (.iload_n 1, 1) := by decide +kernel
theorem dX4_areDoneByOneOf_34 : decode cX4_areDoneByOneOf 34 = .ok (.if_icmp .lt 5, 3) := by decide +kernel
theorem dX4_areDoneByOneOf_37 : decode cX4_areDoneByOneOf 37 = .ok (.iconst 0, 1) := by decide +kernel
theorem dX4_areDoneByOneOf_38 : decode cX4_areDoneByOneOf 38 = .ok (.ireturn, 1) := by decide +kernel
theorem dX4_areDoneByOneOf_39 : decode cX4_areDoneByOneOf 39 = .ok (.iinc 2 1, 3) := by decide +kernel
theorem dX4_areDoneByOneOf_42 : decode cX4_areDoneByOneOf 42 = .ok (.goto (-40), 3) := by decide +kernel
theorem dX4_areDoneByOneOf_45 : decode cX4_areDoneByOneOf 45 = .ok (.iconst 1, 1) := by decide +kernel
theorem dX4_areDoneByOneOf_46 : decode cX4_areDoneByOneOf 46 = .ok (.ireturn, 1) := by decide +kernel
theorem dX5_init_0 : decode cX5_init 0 = .ok (.aload_n 0, 1) := by decide +kernel
theorem dX5_init_1 : decode cX5_init 1 = .ok (.invokespecial 3, 3) := by decide +kernel
theorem dX5_init_4 : decode cX5_init 4 = .ok (.aload_n 0, 1) := by decide +kernel
theorem dX5_init_5 : decode cX5_init 5 = .ok (.bipush 24, 2) := by decide +kernel
theorem dX5_init_7 : decode cX5_init 7 = .ok (.newarray .boolean, 2) := by decide +kernel
theorem dX5_init_9 : decode cX5_init 9 = .ok (.putfield 9, 3) := by decide +kernel
theorem dX5_init_12 : decode cX5_init 12 = .ok (.aload_n 0, 1) := by decide +kernel
theorem dX5_init_13 : decode cX5_init 13 = .ok (.sipush 256, 3) := by decide +kernel
theorem dX5_init_16 : decode cX5_init 16 = .ok (.newarray .int, 2) := by decide +kernel
theorem dX5_init_18 : decode cX5_init 18 = .ok (.putfield 15, 3) := by decide +kernel
theorem dX5_init_21 : decode cX5_init 21 = .ok (.aload_n 0, 1) := by decide +kernel
theorem dX5_init_22 : decode cX5_init 22 = .ok (.invokevirtual 19, 3) := by decide +kernel
theorem dX5_init_25 : decode cX5_init 25 = .ok (.return_, 1) := by decide +kernel
theorem dX5_forgetWays_0 : decode cX5_forgetWays 0 = .ok (.iconst 0, 1) := by decide +kernel
theorem dX5_forgetWays_1 : decode cX5_forgetWays 1 = .ok (.istore_n 1, 1) := by decide +kernel
theorem dX5_forgetWays_2 : decode cX5_forgetWays 2 = .ok (.iload_n 1, 1) := by decide +kernel
theorem dX5_forgetWays_3 : decode cX5_forgetWays 3 = .ok (.bipush 16, 2) := by decide +kernel
theorem dX5_forgetWays_5 : decode cX5_forgetWays 5 = .ok (.if_icmp .ge 45, 3) := by decide +kernel
theorem dX5_forgetWays_8 : decode cX5_forgetWays 8 = .ok (.iconst 0, 1) := by decide +kernel
theorem dX5_forgetWays_9 : decode cX5_forgetWays 9 = .ok (.istore_n 2, 1) := by decide +kernel
theorem dX5_forgetWays_10 : decode cX5_forgetWays 10 = .ok (.iload_n 2, 1) := by decide +kernel
theorem dX5_forgetWays_11 : decode cX5_forgetWays 11 = .ok (.bipush 16, 2) := by decide +kernel
theorem dX5_forgetWays_13 : decode cX5_forgetWays 13 = .ok (.if_icmp .ge 31, 3) := by decide +kernel
theorem dX5_forgetWays_16 : decode cX5_forgetWays 16 = .ok (.aload_n 0, 1) := by decide +kernel
theorem dX5_forgetWays_17 : decode cX5_forgetWays 17 = .ok (.getfield 15, 3) := by decide +kernel
theorem dX5_forgetWays_20 : decode cX5_forgetWays 20 = .ok (.iload_n 1, 1) := by decide +kernel
theorem dX5_forgetWays_21 : decode cX5_forgetWays 21 = .ok (.bipush 16, 2) := by decide +kernel
theorem dX5_forgetWays_23 : decode cX5_forgetWays 23 = .ok (.imul, 1) := by decide +kernel
theorem dX5_forgetWays_24 : decode cX5_forgetWays 24 = .ok (.iload_n 2, 1) := by decide +kernel
theorem dX5_forgetWays_25 : decode cX5_forgetWays 25 = .ok (.iadd, 1) := by decide +kernel
theorem dX5_forgetWays_26 : decode cX5_forgetWays 26 = .ok (.iload_n 1, 1) := by decide +kernel
theorem dX5_forgetWays_27 : decode cX5_forgetWays 27 = .ok (.iload_n 2, 1) := by decide +kernel
theorem dX5_forgetWays_28 : decode cX5_forgetWays 28 = .ok (.if_icmp .ne 7, 3) := by decide +kernel
theorem dX5_forgetWays_31 : decode cX5_forgetWays 31 = .ok (.iconst 0, 1) := by decide +kernel
theorem dX5_forgetWays_32 : decode cX5_forgetWays 32 = .ok (.goto 5, 3) := by decide +kernel
theorem dX5_forgetWays_35 : decode cX5_forgetWays 35 = .ok (.ldc 22, 2) := by decide +kernel
theorem dX5_forgetWays_37 : decode cX5_forgetWays 37 = .ok (.iastore, 1) := by decide +kernel
theorem dX5_forgetWays_38 : decode cX5_forgetWays 38 = .ok (.iinc 2 1, 3) := by decide +kernel
theorem dX5_forgetWays_41 : decode cX5_forgetWays 41 = .ok (.goto (-31), 3) := by decide +kernel
theorem dX5_forgetWays_44 : decode cX5_forgetWays 44 = .ok (.iinc 1 1, 3) := by decide +kernel
theorem dX5_forgetWays_47 : decode cX5_forgetWays 47 = .ok (.goto (-45), 3) := by decide +kernel
theorem dX5_forgetWays_50 : decode cX5_forgetWays 50 = .ok (.return_, 1) := by decide +kernel
theorem dX5_leastMinutes_0 : decode cX5_leastMinutes 0 = .ok (.aload_n 0, 1) := by decide +kernel
theorem dX5_leastMinutes_1 : decode cX5_leastMinutes 1 = .ok (.getfield 15, 3) := by decide +kernel
theorem dX5_leastMinutes_4 : decode cX5_leastMinutes 4 = .ok (.iload_n 1, 1) := by decide +kernel
theorem dX5_leastMinutes_5 : decode cX5_leastMinutes 5 = .ok (.bipush 16, 2) := by decide +kernel
theorem dX5_leastMinutes_7 : decode cX5_leastMinutes 7 = .ok (.imul, 1) := by decide +kernel
theorem dX5_leastMinutes_8 : decode cX5_leastMinutes 8 = .ok (.iload_n 2, 1) := by decide +kernel
theorem dX5_leastMinutes_9 : decode cX5_leastMinutes 9 = .ok (.iadd, 1) := by decide +kernel
theorem dX5_leastMinutes_10 : decode cX5_leastMinutes 10 = .ok (.iaload, 1) := by decide +kernel
theorem dX5_leastMinutes_11 : decode cX5_leastMinutes 11 = .ok (.ireturn, 1) := by decide +kernel
theorem dX6_init_0 : decode cX6_init 0 = .ok (.aload_n 0, 1) := by decide +kernel
theorem dX6_init_1 : decode cX6_init 1 = .ok (.invokespecial 3, 3) := by decide +kernel
theorem dX6_init_4 : decode cX6_init 4 = .ok (.aload_n 0, 1) := by decide +kernel
theorem dX6_init_5 : decode cX6_init 5 = .ok (.bipush 10, 2) := by decide +kernel
theorem dX6_init_7 : decode cX6_init 7 = .ok (.newarray .int, 2) := by decide +kernel
theorem dX6_init_9 : decode cX6_init 9 = .ok (.putfield 9, 3) := by decide +kernel
theorem dX6_init_12 : decode cX6_init 12 = .ok (.aload_n 0, 1) := by decide +kernel
theorem dX6_init_13 : decode cX6_init 13 = .ok (.sipush 240, 3) := by decide +kernel
theorem dX6_init_16 : decode cX6_init 16 = .ok (.newarray .int, 2) := by decide +kernel
theorem dX6_init_18 : decode cX6_init 18 = .ok (.putfield 15, 3) := by decide +kernel
theorem dX6_init_21 : decode cX6_init 21 = .ok (.iconst 0, 1) := by decide +kernel
theorem dX6_init_22 : decode cX6_init 22 = .ok (.istore_n 1, 1) := by decide +kernel
theorem dX6_init_23 : decode cX6_init 23 = .ok (.iload_n 1, 1) := by decide +kernel
theorem dX6_init_24 : decode cX6_init 24 = .ok (.bipush 10, 2) := by decide +kernel
theorem dX6_init_26 : decode cX6_init 26 = .ok (.if_icmp .ge 17, 3) := by decide +kernel
theorem dX6_init_29 : decode cX6_init 29 = .ok (.aload_n 0, 1) := by decide +kernel
theorem dX6_init_30 : decode cX6_init 30 = .ok (.getfield 9, 3) := by decide +kernel
theorem dX6_init_33 : decode cX6_init 33 = .ok (.iload_n 1, 1) := by decide +kernel
theorem dX6_init_34 : decode cX6_init 34 = .ok (.bipush 50, 2) := by decide +kernel
theorem dX6_init_36 : decode cX6_init 36 = .ok (.iastore, 1) := by decide +kernel
theorem dX6_init_37 : decode cX6_init 37 = .ok (.iinc 1 1, 3) := by decide +kernel
theorem dX6_init_40 : decode cX6_init 40 = .ok (.goto (-17), 3) := by decide +kernel
theorem dX6_init_43 : decode cX6_init 43 = .ok (.return_, 1) := by decide +kernel
theorem dX6_note_0 : decode cX6_note 0 = .ok (.aload_n 0, 1) := by decide +kernel
theorem dX6_note_1 : decode cX6_note 1 = .ok (.getfield 15, 3) := by decide +kernel
theorem dX6_note_4 : decode cX6_note 4 = .ok (.iload_n 2, 1) := by decide +kernel
theorem dX6_note_5 : decode cX6_note 5 = .ok (.bipush 10, 2) := by decide +kernel
theorem dX6_note_7 : decode cX6_note 7 = .ok (.imul, 1) := by decide +kernel
theorem dX6_note_8 : decode cX6_note 8 = .ok (.iload_n 1, 1) := by decide +kernel
theorem dX6_note_9 : decode cX6_note 9 = .ok (.iadd, 1) := by decide +kernel
theorem dX6_note_10 : decode cX6_note 10 = .ok (.iload_n 3, 1) := by decide +kernel
theorem dX6_note_11 : decode cX6_note 11 = .ok (.ifCond .eq 7, 3) := by decide +kernel
theorem dX6_note_14 : decode cX6_note 14 = .ok (.iconst 2, 1) := by decide +kernel
theorem dX6_note_15 : decode cX6_note 15 = .ok (.goto 4, 3) := by decide +kernel
theorem dX6_note_18 : decode cX6_note 18 = .ok (.iconst 1, 1) := by decide +kernel
theorem dX6_note_19 : decode cX6_note 19 = .ok (.iastore, 1) := by decide +kernel
theorem dX6_note_20 : decode cX6_note 20 = .ok (.return_, 1) := by decide +kernel
theorem dX6_countNotes_0 : decode cX6_countNotes 0 = .ok (.iconst 0, 1) := by decide +kernel
theorem dX6_countNotes_1 : decode cX6_countNotes 1 = .ok (.istore_n 2, 1) := by decide +kernel
theorem dX6_countNotes_2 : decode cX6_countNotes 2 = .ok (.iconst 0, 1) := by decide +kernel
theorem dX6_countNotes_3 : decode cX6_countNotes 3 = .ok (.istore_n 3, 1) := by decide +kernel
theorem dX6_countNotes_4 : decode cX6_countNotes 4 = .ok (.iload_n 3, 1) := by decide +kernel
theorem dX6_countNotes_5 : decode cX6_countNotes 5 = .ok (.bipush 10, 2) := by decide +kernel
theorem dX6_countNotes_7 : decode cX6_countNotes 7 = .ok (.if_icmp .ge 26, 3) := by decide +kernel
theorem dX6_countNotes_10 : decode cX6_countNotes 10 = .ok (.aload_n 0, 1) := by decide +kernel
theorem dX6_countNotes_11 : decode cX6_countNotes 11 = .ok (.getfield 15, 3) := by decide +kernel
theorem dX6_countNotes_14 : decode cX6_countNotes 14 = .ok (.iload_n 1, 1) := by decide +kernel
theorem dX6_countNotes_15 : decode cX6_countNotes 15 = .ok (.bipush 10, 2) := by decide +kernel
theorem dX6_countNotes_17 : decode cX6_countNotes 17 = .ok (.imul, 1) := by decide +kernel
theorem dX6_countNotes_18 : decode cX6_countNotes 18 = .ok (.iload_n 3, 1) := by decide +kernel
theorem dX6_countNotes_19 : decode cX6_countNotes 19 = .ok (.iadd, 1) := by decide +kernel
theorem dX6_countNotes_20 : decode cX6_countNotes 20 = .ok (.iaload, 1) := by decide +kernel
theorem dX6_countNotes_21 : decode cX6_countNotes 21 = .ok (.ifCond .eq 6, 3) := by decide +kernel
theorem dX6_countNotes_24 : decode cX6_countNotes 24 = .ok (.iinc 2 1, 3) := by decide +kernel
theorem dX6_countNotes_27 : decode cX6_countNotes 27 = .ok (.iinc 3 1, 3) := by decide +kernel
theorem dX6_countNotes_30 : decode cX6_countNotes 30 = .ok (.goto (-26), 3) := by decide +kernel
theorem dX6_countNotes_33 : decode cX6_countNotes 33 = .ok (.iload_n 2, 1) := by decide +kernel
theorem dX6_countNotes_34 : decode cX6_countNotes 34 = .ok (.ireturn, 1) := by decide +kernel
theorem dX6_believe_0 : decode cX6_believe 0 = .ok (.aload_n 0, 1) := by decide +kernel
theorem dX6_believe_1 : decode cX6_believe 1 = .ok (.iload_n 1, 1) := by decide +kernel
theorem dX6_believe_2 : decode cX6_believe 2 = .ok (.iconst 2, 1) := by decide +kernel
theorem dX6_believe_3 : decode cX6_believe 3 = .ok (.invokevirtual 18, 3) := by decide +kernel
theorem dX6_believe_6 : decode cX6_believe 6 = .ok (.istore_n 3, 1) := by decide +kernel
theorem dX6_believe_7 : decode cX6_believe 7 = .ok (.aload_n 0, 1) := by decide +kernel
theorem dX6_believe_8 : decode cX6_believe 8 = .ok (.iload_n 1, 1) := by decide +kernel
theorem dX6_believe_9 : decode cX6_believe 9 = .ok (.iconst 1, 1) := by decide +kernel
theorem dX6_believe_10 : decode cX6_believe 10 = .ok (.invokevirtual 18, 3) := by decide +kernel
theorem dX6_believe_13 : decode cX6_believe 13 = .ok (.istore 4, 2) := by decide +kernel
theorem dX6_believe_15 : decode cX6_believe 15 = .ok (.iload_n 3, 1) := by decide +kernel
theorem dX6_believe_16 : decode cX6_believe 16 = .ok (.bipush 100, 2) := by decide +kernel
theorem dX6_believe_18 : decode cX6_believe 18 = .ok (.if_icmp .lt 11, 3) := by decide +kernel
theorem dX6_believe_21 : decode cX6_believe 21 = .ok (.iload_n 3, 1) := by decide +kernel
theorem dX6_believe_22 : decode cX6_believe 22 = .ok (.iload 4, 2) := by decide +kernel
theorem dX6_believe_24 : decode cX6_believe 24 = .ok (.if_icmp .le 5, 3) := by decide +kernel
theorem dX6_believe_27 : decode cX6_believe 27 = .ok (.iconst 1, 1) := by decide +kernel
theorem dX6_believe_28 : decode cX6_believe 28 = .ok (.ireturn, 1) := by decide +kernel
theorem dX6_believe_29 : decode cX6_believe 29 = .ok (.iload 4, 2) := by decide +kernel
theorem dX6_believe_31 : decode cX6_believe 31 = .ok (.bipush 100, 2) := by decide +kernel
theorem dX6_believe_33 : decode cX6_believe 33 = .ok (.if_icmp .lt 11, 3) := by decide +kernel
theorem dX6_believe_36 : decode cX6_believe 36 = .ok (.iload 4, 2) := by decide +kernel
theorem dX6_believe_38 : decode cX6_believe 38 = .ok (.iload_n 3, 1) := by decide +kernel
theorem dX6_believe_39 : decode cX6_believe 39 = .ok (.if_icmp .lt 5, 3) := by decide +kernel
theorem dX6_believe_42 : decode cX6_believe 42 = .ok (.iconst 0, 1) := by decide +kernel
theorem dX6_believe_43 : decode cX6_believe 43 = .ok (.ireturn, 1) := by decide +kernel
theorem dX6_believe_44 : decode cX6_believe 44 = .ok (.iload_n 2, 1) := by decide +kernel
theorem dX6_believe_45 : decode cX6_believe 45 = .ok (.ireturn, 1) := by decide +kernel
theorem dX6_trustOfAll_0 : decode cX6_trustOfAll 0 = .ok (.iconst 0, 1) := by decide +kernel
theorem dX6_trustOfAll_1 : decode cX6_trustOfAll 1 = .ok (.istore_n 3, 1) := by decide +kernel
theorem dX6_trustOfAll_2 : decode cX6_trustOfAll 2 = .ok (.iconst 0, 1) := by decide +kernel
theorem dX6_trustOfAll_3 : decode cX6_trustOfAll 3 = .ok (.istore 4, 2) := by decide +kernel
theorem dX6_trustOfAll_5 : decode cX6_trustOfAll 5 = .ok (.iload 4, 2) := by decide +kernel
theorem dX6_trustOfAll_7 : decode cX6_trustOfAll 7 = .ok (.bipush 10, 2) := by decide +kernel
theorem dX6_trustOfAll_9 : decode cX6_trustOfAll 9 = .ok (.if_icmp .ge 35, 3) := by decide +kernel
theorem dX6_trustOfAll_12 : decode cX6_trustOfAll 12 = .ok (.aload_n 0, 1) := by decide +kernel
theorem dX6_trustOfAll_13 : decode cX6_trustOfAll 13 = .ok (.getfield 15, 3) := by decide +kernel
theorem dX6_trustOfAll_16 : decode cX6_trustOfAll 16 = .ok (.iload_n 1, 1) := by decide +kernel
theorem dX6_trustOfAll_17 : decode cX6_trustOfAll 17 = .ok (.bipush 10, 2) := by decide +kernel
theorem dX6_trustOfAll_19 : decode cX6_trustOfAll 19 = .ok (.imul, 1) := by decide +kernel
theorem dX6_trustOfAll_20 : decode cX6_trustOfAll 20 = .ok (.iload 4, 2) := by decide +kernel
theorem dX6_trustOfAll_22 : decode cX6_trustOfAll 22 = .ok (.iadd, 1) := by decide +kernel
theorem dX6_trustOfAll_23 : decode cX6_trustOfAll 23 = .ok (.iaload, 1) := by decide +kernel
theorem dX6_trustOfAll_24 : decode cX6_trustOfAll 24 = .ok (.iload_n 2, 1) := by decide +kernel
theorem dX6_trustOfAll_25 : decode cX6_trustOfAll 25 = .ok (.if_icmp .ne 13, 3) := by decide +kernel
theorem dX6_trustOfAll_28 : decode cX6_trustOfAll 28 = .ok (.iload_n 3, 1) := by decide +kernel
theorem dX6_trustOfAll_29 : decode cX6_trustOfAll 29 = .ok (.aload_n 0, 1) := by decide +kernel
theorem dX6_trustOfAll_30 : decode cX6_trustOfAll 30 = .ok (.getfield 9, 3) := by decide +kernel
theorem dX6_trustOfAll_33 : decode cX6_trustOfAll 33 = .ok (.iload 4, 2) := by decide +kernel
theorem dX6_trustOfAll_35 : decode cX6_trustOfAll 35 = .ok (.iaload, 1) := by decide +kernel
theorem dX6_trustOfAll_36 : decode cX6_trustOfAll 36 = .ok (.iadd, 1) := by decide +kernel
theorem dX6_trustOfAll_37 : decode cX6_trustOfAll 37 = .ok (.istore_n 3, 1) := by decide +kernel
theorem dX6_trustOfAll_38 : decode cX6_trustOfAll 38 = .ok (.iinc 4 1, 3) := by decide +kernel
theorem dX6_trustOfAll_41 : decode cX6_trustOfAll 41 = .ok (.goto (-36), 3) := by decide +kernel
theorem dX6_trustOfAll_44 : decode cX6_trustOfAll 44 = .ok (.iload_n 3, 1) := by decide +kernel
theorem dX6_trustOfAll_45 : decode cX6_trustOfAll 45 = .ok (.ireturn, 1) := by decide +kernel
theorem dX6_judge_0 : decode cX6_judge 0 = .ok (.iload_n 2, 1) := by decide +kernel
theorem dX6_judge_1 : decode cX6_judge 1 = .ok (.ifCond .eq 7, 3) := by decide +kernel
theorem dX6_judge_4 : decode cX6_judge 4 = .ok (.iconst 2, 1) := by decide +kernel
theorem dX6_judge_5 : decode cX6_judge 5 = .ok (.goto 4, 3) := by decide +kernel
theorem dX6_judge_8 : decode cX6_judge 8 = .ok (.iconst 1, 1) := by decide +kernel
theorem dX6_judge_9 : decode cX6_judge 9 = .ok (.istore_n 3, 1) := by decide +kernel
theorem dX6_judge_10 : decode cX6_judge 10 = .ok (.iconst 0, 1) := by decide +kernel
theorem dX6_judge_11 : decode cX6_judge 11 = .ok (.istore 4, 2) := by decide +kernel
theorem dX6_judge_13 : decode cX6_judge 13 = .ok (.iload 4, 2) := by decide +kernel
theorem dX6_judge_15 : decode cX6_judge 15 = .ok (.bipush 10, 2) := by decide +kernel
theorem dX6_judge_17 : decode cX6_judge 17 = .ok (.if_icmp .ge 93, 3) := by decide +kernel
theorem dX6_judge_20 : decode cX6_judge 20 = .ok (.aload_n 0, 1) := by decide +kernel
theorem dX6_judge_21 : decode cX6_judge 21 = .ok (.getfield 15, 3) := by decide +kernel
theorem dX6_judge_24 : decode cX6_judge 24 = .ok (.iload_n 1, 1) := by decide +kernel
theorem dX6_judge_25 : decode cX6_judge 25 = .ok (.bipush 10, 2) := by decide +kernel
theorem dX6_judge_27 : decode cX6_judge 27 = .ok (.imul, 1) := by decide +kernel
theorem dX6_judge_28 : decode cX6_judge 28 = .ok (.iload 4, 2) := by decide +kernel
theorem dX6_judge_30 : decode cX6_judge 30 = .ok (.iadd, 1) := by decide +kernel
theorem dX6_judge_31 : decode cX6_judge 31 = .ok (.iaload, 1) := by decide +kernel
theorem dX6_judge_32 : decode cX6_judge 32 = .ok (.istore 5, 2) := by decide +kernel
theorem dX6_judge_34 : decode cX6_judge 34 = .ok (.iload 5, 2) := by decide +kernel
theorem dX6_judge_36 : decode cX6_judge 36 = .ok (.iload_n 3, 1) := by decide +kernel
theorem dX6_judge_37 : decode cX6_judge 37 = .ok (.if_icmp .ne 28, 3) := by decide +kernel
theorem dX6_judge_40 : decode cX6_judge 40 = .ok (.aload_n 0, 1) := by decide +kernel
theorem dX6_judge_41 : decode cX6_judge 41 = .ok (.getfield 9, 3) := by decide +kernel
theorem dX6_judge_44 : decode cX6_judge 44 = .ok (.iload 4, 2) := by decide +kernel
theorem dX6_judge_46 : decode cX6_judge 46 = .ok (.aload_n 0, 1) := by decide +kernel
theorem dX6_judge_47 : decode cX6_judge 47 = .ok (.getfield 9, 3) := by decide +kernel
theorem dX6_judge_50 : decode cX6_judge 50 = .ok (.iload 4, 2) := by decide +kernel
theorem dX6_judge_52 : decode cX6_judge 52 = .ok (.iaload, 1) := by decide +kernel
theorem dX6_judge_53 : decode cX6_judge 53 = .ok (.bipush 10, 2) := by decide +kernel
theorem dX6_judge_55 : decode cX6_judge 55 = .ok (.iadd, 1) := by decide +kernel
theorem dX6_judge_56 : decode cX6_judge 56 = .ok (.bipush 100, 2) := by decide +kernel
theorem dX6_judge_58 : decode cX6_judge 58 = .ok (.invokestatic 22, 3) := by decide +kernel
theorem dX6_judge_61 : decode cX6_judge 61 = .ok (.iastore, 1) := by decide +kernel
theorem dX6_judge_62 : decode cX6_judge 62 = .ok (.goto 29, 3) := by decide +kernel
theorem dX6_judge_65 : decode cX6_judge 65 = .ok (.iload 5, 2) := by decide +kernel
theorem dX6_judge_67 : decode cX6_judge 67 = .ok (.ifCond .eq 24, 3) := by decide +kernel
theorem dX6_judge_70 : decode cX6_judge 70 = .ok (.aload_n 0, 1) := by decide +kernel
theorem dX6_judge_71 : decode cX6_judge 71 = .ok (.getfield 9, 3) := by decide +kernel
theorem dX6_judge_74 : decode cX6_judge 74 = .ok (.iload 4, 2) := by decide +kernel
theorem dX6_judge_76 : decode cX6_judge 76 = .ok (.aload_n 0, 1) := by decide +kernel
theorem dX6_judge_77 : decode cX6_judge 77 = .ok (.getfield 9, 3) := by decide +kernel
theorem dX6_judge_80 : decode cX6_judge 80 = .ok (.iload 4, 2) := by decide +kernel
theorem dX6_judge_82 : decode cX6_judge 82 = .ok (.iaload, 1) := by decide +kernel
theorem dX6_judge_83 : decode cX6_judge 83 = .ok (.bipush 20, 2) := by decide +kernel
theorem dX6_judge_85 : decode cX6_judge 85 = .ok (.isub, 1) := by decide +kernel
theorem dX6_judge_86 : decode cX6_judge 86 = .ok (.iconst 0, 1) := by decide +kernel
theorem dX6_judge_87 : decode cX6_judge 87 = .ok (.invokestatic 27, 3) := by decide +kernel
theorem dX6_judge_90 : decode cX6_judge 90 = .ok (.iastore, 1) := by decide +kernel
theorem dX6_judge_91 : decode cX6_judge 91 = .ok (.aload_n 0, 1) := by decide +kernel
theorem dX6_judge_92 : decode cX6_judge 92 = .ok (.getfield 15, 3) := by decide +kernel
theorem dX6_judge_95 : decode cX6_judge 95 = .ok (.iload_n 1, 1) := by decide +kernel
theorem dX6_judge_96 : decode cX6_judge 96 = .ok (.bipush 10, 2) := by decide +kernel
theorem dX6_judge_98 : decode cX6_judge 98 = .ok (.imul, 1) := by decide +kernel
theorem dX6_judge_99 : decode cX6_judge 99 = .ok (.iload 4, 2) := by decide +kernel
theorem dX6_judge_101 : decode cX6_judge 101 = .ok (.iadd, 1) := by decide +kernel
theorem dX6_judge_102 : decode cX6_judge 102 = .ok (.iconst 0, 1) := by decide +kernel
theorem dX6_judge_103 : decode cX6_judge 103 = .ok (.iastore, 1) := by decide +kernel
theorem dX6_judge_104 : decode cX6_judge 104 = .ok (.iinc 4 1, 3) := by decide +kernel
theorem dX6_judge_107 : decode cX6_judge 107 = .ok (.goto (-94), 3) := by decide +kernel
theorem dX6_judge_110 : decode cX6_judge 110 = .ok (.return_, 1) := by decide +kernel
theorem dX7_init_0 : decode cX7_init 0 = .ok (.aload_n 0, 1) := by decide +kernel
theorem dX7_init_1 : decode cX7_init 1 = .ok (.invokespecial 1, 3) := by decide +kernel
theorem dX7_init_4 : decode cX7_init 4 = .ok (.aload_n 0, 1) := by decide +kernel
theorem dX7_init_5 : decode cX7_init 5 = .ok (.new 7, 3) := by decide +kernel
theorem dX7_init_8 : decode cX7_init 8 = .ok (.dup, 1) := by decide +kernel
theorem dX7_init_9 : decode cX7_init 9 = .ok (.invokespecial 9, 3) := by decide +kernel
theorem dX7_init_12 : decode cX7_init 12 = .ok (.putfield 10, 3) := by decide +kernel
theorem dX7_init_15 : decode cX7_init 15 = .ok (.aload_n 0, 1) := by decide +kernel
theorem dX7_init_16 : decode cX7_init 16 = .ok (.new 16, 3) := by decide +kernel
theorem dX7_init_19 : decode cX7_init 19 = .ok (.dup, 1) := by decide +kernel
theorem dX7_init_20 : decode cX7_init 20 = .ok (.invokespecial 18, 3) := by decide +kernel
theorem dX7_init_23 : decode cX7_init 23 = .ok (.putfield 19, 3) := by decide +kernel
theorem dX7_init_26 : decode cX7_init 26 = .ok (.aload_n 0, 1) := by decide +kernel
theorem dX7_init_27 : decode cX7_init 27 = .ok (.new 23, 3) := by decide +kernel
theorem dX7_init_30 : decode cX7_init 30 = .ok (.dup, 1) := by decide +kernel
theorem dX7_init_31 : decode cX7_init 31 = .ok (.invokespecial 25, 3) := by decide +kernel
theorem dX7_init_34 : decode cX7_init 34 = .ok (.putfield 26, 3) := by decide +kernel
theorem dX7_init_37 : decode cX7_init 37 = .ok (.aload_n 0, 1) := by decide +kernel
theorem dX7_init_38 : decode cX7_init 38 = .ok (.new 30, 3) := by decide +kernel
theorem dX7_init_41 : decode cX7_init 41 = .ok (.dup, 1) := by decide +kernel
theorem dX7_init_42 : decode cX7_init 42 = .ok (.invokespecial 32, 3) := by decide +kernel
theorem dX7_init_45 : decode cX7_init 45 = .ok (.putfield 33, 3) := by decide +kernel
theorem dX7_init_48 : decode cX7_init 48 = .ok (.aload_n 0, 1) := by decide +kernel
theorem dX7_init_49 : decode cX7_init 49 = .ok (.new 37, 3) := by decide +kernel
theorem dX7_init_52 : decode cX7_init 52 = .ok (.dup, 1) := by decide +kernel
theorem dX7_init_53 : decode cX7_init 53 = .ok (.invokespecial 39, 3) := by decide +kernel
theorem dX7_init_56 : decode cX7_init 56 = .ok (.putfield 40, 3) := by decide +kernel
theorem dX7_init_59 : decode cX7_init 59 = .ok (.aload_n 0, 1) := by decide +kernel
theorem dX7_init_60 : decode cX7_init 60 = .ok (.new 44, 3) := by decide +kernel
theorem dX7_init_63 : decode cX7_init 63 = .ok (.dup, 1) := by decide +kernel
theorem dX7_init_64 : decode cX7_init 64 = .ok (.invokespecial 46, 3) := by decide +kernel
theorem dX7_init_67 : decode cX7_init 67 = .ok (.putfield 47, 3) := by decide +kernel
theorem dX7_init_70 : decode cX7_init 70 = .ok (.aload_n 0, 1) := by decide +kernel
theorem dX7_init_71 : decode cX7_init 71 = .ok (.iconst 0, 1) := by decide +kernel
theorem dX7_init_72 : decode cX7_init 72 = .ok (.putfield 51, 3) := by decide +kernel
theorem dX7_init_75 : decode cX7_init 75 = .ok (.return_, 1) := by decide +kernel
theorem dX7_addFork_0 : decode cX7_addFork 0 = .ok (.aload_n 0, 1) := by decide +kernel
theorem dX7_addFork_1 : decode cX7_addFork 1 = .ok (.getfield 10, 3) := by decide +kernel
theorem dX7_addFork_4 : decode cX7_addFork 4 = .ok (.getfield 55, 3) := by decide +kernel
theorem dX7_addFork_7 : decode cX7_addFork 7 = .ok (.bipush 16, 2) := by decide +kernel
theorem dX7_addFork_9 : decode cX7_addFork 9 = .ok (.if_icmp .lt 13, 3) := by decide +kernel
theorem dX7_addFork_12 : decode cX7_addFork 12 = .ok (.new 58, 3) := by decide +kernel
theorem dX7_addFork_15 : decode cX7_addFork 15 = .ok (.dup, 1) := by decide +kernel
theorem dX7_addFork_16 : decode cX7_addFork 16 = .ok (.ldc 60, 2) := by decide +kernel
theorem dX7_addFork_18 : decode cX7_addFork 18 = .ok (.invokespecial 62, 3) := by decide +kernel
theorem dX7_addFork_21 : decode cX7_addFork 21 = .ok (.athrow, 1) := by decide +kernel
theorem dX7_addFork_22 : decode cX7_addFork 22 = .ok (.aload_n 0, 1) := by decide +kernel
theorem dX7_addFork_23 : decode cX7_addFork 23 = .ok (.getfield 10, 3) := by decide +kernel
theorem dX7_addFork_26 : decode cX7_addFork 26 = .ok (.getfield 65, 3) := by decide +kernel
theorem dX7_addFork_29 : decode cX7_addFork 29 = .ok (.aload_n 0, 1) := by decide +kernel
theorem dX7_addFork_30 : decode cX7_addFork 30 = .ok (.getfield 10, 3) := by decide +kernel
theorem dX7_addFork_33 : decode cX7_addFork 33 = .ok (.getfield 55, 3) := by decide +kernel
theorem dX7_addFork_36 : decode cX7_addFork 36 = .ok (.iload_n 1, 1) := by decide +kernel
theorem dX7_addFork_37 : decode cX7_addFork 37 = .ok (.bastore, 1) := by decide +kernel
theorem dX7_addFork_38 : decode cX7_addFork 38 = .ok (.aload_n 0, 1) := by decide +kernel
theorem dX7_addFork_39 : decode cX7_addFork 39 = .ok (.getfield 10, 3) := by decide +kernel
theorem dX7_addFork_42 : decode cX7_addFork 42 = .ok (.dup, 1) := by decide +kernel
theorem dX7_addFork_43 : decode cX7_addFork 43 = .ok (.getfield 55, 3) := by decide +kernel
theorem dX7_addFork_46 : decode cX7_addFork 46 = .ok (.iconst 1, 1) := by decide +kernel
theorem dX7_addFork_47 : decode cX7_addFork 47 = .ok (.iadd, 1) := by decide +kernel
theorem dX7_addFork_48 : decode cX7_addFork 48 = .ok (.putfield 55, 3) := by decide +kernel
theorem dX7_addFork_51 : decode cX7_addFork 51 = .ok (.aload_n 0, 1) := by decide +kernel
theorem dX7_addFork_52 : decode cX7_addFork 52 = .ok (.getfield 10, 3) := by decide +kernel
theorem dX7_addFork_55 : decode cX7_addFork 55 = .ok (.getfield 55, 3) := by decide +kernel
theorem dX7_addFork_58 : decode cX7_addFork 58 = .ok (.iconst 1, 1) := by decide +kernel
theorem dX7_addFork_59 : decode cX7_addFork 59 = .ok (.isub, 1) := by decide +kernel
theorem dX7_addFork_60 : decode cX7_addFork 60 = .ok (.ireturn, 1) := by decide +kernel
theorem dX7_addTrail_0 : decode cX7_addTrail 0 = .ok (.aload_n 0, 1) := by decide +kernel
theorem dX7_addTrail_1 : decode cX7_addTrail 1 = .ok (.iload_n 1, 1) := by decide +kernel
theorem dX7_addTrail_2 : decode cX7_addTrail 2 = .ok (.invokevirtual 69, 3) := by decide +kernel
theorem dX7_addTrail_5 : decode cX7_addTrail 5 = .ok (.aload_n 0, 1) := by decide +kernel
theorem dX7_addTrail_6 : decode cX7_addTrail 6 = .ok (.iload_n 2, 1) := by decide +kernel
theorem dX7_addTrail_7 : decode cX7_addTrail 7 = .ok (.invokevirtual 69, 3) := by decide +kernel
theorem dX7_addTrail_10 : decode cX7_addTrail 10 = .ok (.iload_n 1, 1) := by decide +kernel
theorem dX7_addTrail_11 : decode cX7_addTrail 11 = .ok (.iload_n 2, 1) := by decide +kernel
theorem dX7_addTrail_12 : decode cX7_addTrail 12 = .ok (.if_icmp .ne 13, 3) := by decide +kernel
theorem dX7_addTrail_15 : decode cX7_addTrail 15 = .ok (.new 73, 3) := by decide +kernel
theorem dX7_addTrail_18 : decode cX7_addTrail 18 = .ok (.dup, 1) := by decide +kernel
theorem dX7_addTrail_19 : decode cX7_addTrail 19 = .ok (.ldc 75, 2) := by decide +kernel
theorem dX7_addTrail_21 : decode cX7_addTrail 21 = .ok (.invokespecial 77, 3) := by decide +kernel
theorem dX7_addTrail_24 : decode cX7_addTrail 24 = .ok (.athrow, 1) := by decide +kernel
theorem dX7_addTrail_25 : decode cX7_addTrail 25 = .ok (.aload_n 0, 1) := by decide +kernel
theorem dX7_addTrail_26 : decode cX7_addTrail 26 = .ok (.iload_n 3, 1) := by decide +kernel
theorem dX7_addTrail_27 : decode cX7_addTrail 27 = .ok (.invokevirtual 78, 3) := by decide +kernel
theorem dX7_addTrail_30 : decode cX7_addTrail 30 = .ok (.aload_n 0, 1) := by decide +kernel
theorem dX7_addTrail_31 : decode cX7_addTrail 31 = .ok (.iload 4, 2) := by decide +kernel
theorem dX7_addTrail_33 : decode cX7_addTrail 33 = .ok (.invokevirtual 78, 3) := by decide +kernel
theorem dX7_addTrail_36 : decode cX7_addTrail 36 = .ok (.aload_n 0, 1) := by decide +kernel
theorem dX7_addTrail_37 : decode cX7_addTrail 37 = .ok (.getfield 10, 3) := by decide +kernel
theorem dX7_addTrail_40 : decode cX7_addTrail 40 = .ok (.getfield 81, 3) := by decide +kernel
theorem dX7_addTrail_43 : decode cX7_addTrail 43 = .ok (.bipush 24, 2) := by decide +kernel
theorem dX7_addTrail_45 : decode cX7_addTrail 45 = .ok (.if_icmp .lt 13, 3) := by decide +kernel
theorem dX7_addTrail_48 : decode cX7_addTrail 48 = .ok (.new 58, 3) := by decide +kernel
theorem dX7_addTrail_51 : decode cX7_addTrail 51 = .ok (.dup, 1) := by decide +kernel
theorem dX7_addTrail_52 : decode cX7_addTrail 52 = .ok (.ldc 84, 2) := by decide +kernel
theorem dX7_addTrail_54 : decode cX7_addTrail 54 = .ok (.invokespecial 62, 3) := by decide +kernel
theorem dX7_addTrail_57 : decode cX7_addTrail 57 = .ok (.athrow, 1) := by decide +kernel
theorem dX7_addTrail_58 : decode cX7_addTrail 58 = .ok (.aload_n 0, 1) := by decide +kernel
theorem dX7_addTrail_59 : decode cX7_addTrail 59 = .ok (.getfield 10, 3) := by decide +kernel
theorem dX7_addTrail_62 : decode cX7_addTrail 62 = .ok (.iload_n 1, 1) := by decide +kernel
theorem dX7_addTrail_63 : decode cX7_addTrail 63 = .ok (.iload_n 2, 1) := by decide +kernel
theorem dX7_addTrail_64 : decode cX7_addTrail 64 = .ok (.iload_n 3, 1) := by decide +kernel
theorem dX7_addTrail_65 : decode cX7_addTrail 65 = .ok (.iload 4, 2) := by decide +kernel
theorem dX7_addTrail_67 : decode cX7_addTrail 67 = .ok (.invokevirtual 86, 3) := by decide +kernel
theorem dX7_addTrail_70 : decode cX7_addTrail 70 = .ok (.ireturn, 1) := by decide +kernel
theorem dX7_washOut_0 : decode cX7_washOut 0 = .ok (.aload_n 0, 1) := by decide +kernel
theorem dX7_washOut_1 : decode cX7_washOut 1 = .ok (.iload_n 1, 1) := by decide +kernel
theorem dX7_washOut_2 : decode cX7_washOut 2 = .ok (.invokevirtual 90, 3) := by decide +kernel
theorem dX7_washOut_5 : decode cX7_washOut 5 = .ok (.aload_n 0, 1) := by decide +kernel
theorem dX7_washOut_6 : decode cX7_washOut 6 = .ok (.getfield 10, 3) := by decide +kernel
theorem dX7_washOut_9 : decode cX7_washOut 9 = .ok (.getfield 93, 3) := by decide +kernel
theorem dX7_washOut_12 : decode cX7_washOut 12 = .ok (.getfield 97, 3) := by decide +kernel
theorem dX7_washOut_15 : decode cX7_washOut 15 = .ok (.iload_n 1, 1) := by decide +kernel
theorem dX7_washOut_16 : decode cX7_washOut 16 = .ok (.baload, 1) := by decide +kernel
theorem dX7_washOut_17 : decode cX7_washOut 17 = .ok (.ifCond .ne 7, 3) := by decide +kernel
theorem dX7_washOut_20 : decode cX7_washOut 20 = .ok (.iconst 1, 1) := by decide +kernel
theorem dX7_washOut_21 : decode cX7_washOut 21 = .ok (.goto 4, 3) := by decide +kernel
theorem dX7_washOut_24 : decode cX7_washOut 24 = .ok (.iconst 0, 1) := by decide +kernel
theorem dX7_washOut_25 : decode cX7_washOut 25 = .ok (.istore_n 2, 1) := by decide +kernel
theorem dX7_washOut_26 : decode cX7_washOut 26 = .ok (.aload_n 0, 1) := by decide +kernel
theorem dX7_washOut_27 : decode cX7_washOut 27 = .ok (.getfield 10, 3) := by decide +kernel
theorem dX7_washOut_30 : decode cX7_washOut 30 = .ok (.aload_n 0, 1) := by decide +kernel
theorem dX7_washOut_31 : decode cX7_washOut 31 = .ok (.getfield 10, 3) := by decide +kernel
theorem dX7_washOut_34 : decode cX7_washOut 34 = .ok (.getfield 93, 3) := by decide +kernel
theorem dX7_washOut_37 : decode cX7_washOut 37 = .ok (.iload_n 1, 1) := by decide +kernel
theorem dX7_washOut_38 : decode cX7_washOut 38 = .ok (.iconst 1, 1) := by decide +kernel
theorem dX7_washOut_39 : decode cX7_washOut 39 = .ok (.invokevirtual 102, 3) := by decide +kernel
theorem dX7_washOut_42 : decode cX7_washOut 42 = .ok (.iload_n 2, 1) := by decide +kernel
theorem dX7_washOut_43 : decode cX7_washOut 43 = .ok (.ireturn, 1) := by decide +kernel
theorem dX7_isGone_0 : decode cX7_isGone 0 = .ok (.aload_n 0, 1) := by decide +kernel
theorem dX7_isGone_1 : decode cX7_isGone 1 = .ok (.iload_n 1, 1) := by decide +kernel
theorem dX7_isGone_2 : decode cX7_isGone 2 = .ok (.invokevirtual 90, 3) := by decide +kernel
theorem dX7_isGone_5 : decode cX7_isGone 5 = .ok (.aload_n 0, 1) := by decide +kernel
theorem dX7_isGone_6 : decode cX7_isGone 6 = .ok (.getfield 10, 3) := by decide +kernel
theorem dX7_isGone_9 : decode cX7_isGone 9 = .ok (.iload_n 2, 1) := by decide +kernel
theorem dX7_isGone_10 : decode cX7_isGone 10 = .ok (.invokevirtual 106, 3) := by decide +kernel
theorem dX7_isGone_13 : decode cX7_isGone 13 = .ok (.getfield 97, 3) := by decide +kernel
theorem dX7_isGone_16 : decode cX7_isGone 16 = .ok (.iload_n 1, 1) := by decide +kernel
theorem dX7_isGone_17 : decode cX7_isGone 17 = .ok (.baload, 1) := by decide +kernel
theorem dX7_isGone_18 : decode cX7_isGone 18 = .ok (.ireturn, 1) := by decide +kernel
theorem dX7_minutes_0 : decode cX7_minutes 0 = .ok (.aload_n 0, 1) := by decide +kernel
theorem dX7_minutes_1 : decode cX7_minutes 1 = .ok (.iload_n 1, 1) := by decide +kernel
theorem dX7_minutes_2 : decode cX7_minutes 2 = .ok (.invokevirtual 69, 3) := by decide +kernel
theorem dX7_minutes_5 : decode cX7_minutes 5 = .ok (.aload_n 0, 1) := by decide +kernel
theorem dX7_minutes_6 : decode cX7_minutes 6 = .ok (.iload_n 2, 1) := by decide +kernel
theorem dX7_minutes_7 : decode cX7_minutes 7 = .ok (.invokevirtual 69, 3) := by decide +kernel
theorem dX7_minutes_10 : decode cX7_minutes 10 = .ok (.aload_n 0, 1) := by decide +kernel
theorem dX7_minutes_11 : decode cX7_minutes 11 = .ok (.getfield 10, 3) := by decide +kernel
theorem dX7_minutes_14 : decode cX7_minutes 14 = .ok (.iload_n 3, 1) := by decide +kernel
theorem dX7_minutes_15 : decode cX7_minutes 15 = .ok (.invokevirtual 106, 3) := by decide +kernel
theorem dX7_minutes_18 : decode cX7_minutes 18 = .ok (.iload_n 1, 1) := by decide +kernel
theorem dX7_minutes_19 : decode cX7_minutes 19 = .ok (.iload_n 2, 1) := by decide +kernel
theorem dX7_minutes_20 : decode cX7_minutes 20 = .ok (.invokevirtual 110, 3) := by decide +kernel
theorem dX7_minutes_23 : decode cX7_minutes 23 = .ok (.istore 4, 2) := by decide +kernel
theorem dX7_minutes_25 : decode cX7_minutes 25 = .ok (.iload 4, 2) := by decide +kernel
theorem dX7_minutes_27 : decode cX7_minutes 27 = .ok (.ldc 114, 2) := by decide +kernel
theorem dX7_minutes_29 : decode cX7_minutes 29 = .ok (.if_icmp .lt 13, 3) := by decide +kernel
theorem dX7_minutes_32 : decode cX7_minutes 32 = .ok (.new 115, 3) := by decide +kernel
theorem dX7_minutes_35 : decode cX7_minutes 35 = .ok (.dup, 1) := by decide +kernel
theorem dX7_minutes_36 : decode cX7_minutes 36 = .ok (.ldc 117, 2) := by decide +kernel
theorem dX7_minutes_38 : decode cX7_minutes 38 = .ok (.invokespecial 119, 3) := by decide +kernel
theorem dX7_minutes_41 : decode cX7_minutes 41 = .ok (.athrow, 1) := by decide +kernel
theorem dX7_minutes_42 : decode cX7_minutes 42 = .ok (.iload 4, 2) := by decide +kernel
theorem dX7_minutes_44 : decode cX7_minutes 44 = .ok (.ireturn, 1) := by decide +kernel
theorem dX7_firstTrail_0 : decode cX7_firstTrail 0 = .ok (.aload_n 0, 1) := by decide +kernel
theorem dX7_firstTrail_1 : decode cX7_firstTrail 1 = .ok (.iload_n 1, 1) := by decide +kernel
theorem dX7_firstTrail_2 : decode cX7_firstTrail 2 = .ok (.invokevirtual 69, 3) := by decide +kernel
theorem dX7_firstTrail_5 : decode cX7_firstTrail 5 = .ok (.aload_n 0, 1) := by decide +kernel
theorem dX7_firstTrail_6 : decode cX7_firstTrail 6 = .ok (.iload_n 2, 1) := by decide +kernel
theorem dX7_firstTrail_7 : decode cX7_firstTrail 7 = .ok (.invokevirtual 69, 3) := by decide +kernel
theorem dX7_firstTrail_10 : decode cX7_firstTrail 10 = .ok (.aload_n 0, 1) := by decide +kernel
theorem dX7_firstTrail_11 : decode cX7_firstTrail 11 = .ok (.getfield 10, 3) := by decide +kernel
theorem dX7_firstTrail_14 : decode cX7_firstTrail 14 = .ok (.iload_n 1, 1) := by decide +kernel
theorem dX7_firstTrail_15 : decode cX7_firstTrail 15 = .ok (.iload_n 2, 1) := by decide +kernel
theorem dX7_firstTrail_16 : decode cX7_firstTrail 16 = .ok (.invokevirtual 120, 3) := by decide +kernel
theorem dX7_firstTrail_19 : decode cX7_firstTrail 19 = .ok (.istore_n 3, 1) := by decide +kernel
theorem dX7_firstTrail_20 : decode cX7_firstTrail 20 = .ok (.iload_n 3, 1) := by decide +kernel
theorem dX7_firstTrail_21 : decode cX7_firstTrail 21 = .ok (.iconst (-1), 1) := by decide +kernel
theorem dX7_firstTrail_22 : decode cX7_firstTrail 22 = .ok (.if_icmp .ne 13, 3) := by decide +kernel
theorem dX7_firstTrail_25 : decode cX7_firstTrail 25 = .ok (.new 115, 3) := by decide +kernel
theorem dX7_firstTrail_28 : decode cX7_firstTrail 28 = .ok (.dup, 1) := by decide +kernel
theorem dX7_firstTrail_29 : decode cX7_firstTrail 29 = .ok (.ldc 123, 2) := by decide +kernel
theorem dX7_firstTrail_31 : decode cX7_firstTrail 31 = .ok (.invokespecial 119, 3) := by decide +kernel
theorem dX7_firstTrail_34 : decode cX7_firstTrail 34 = .ok (.athrow, 1) := by decide +kernel
theorem dX7_firstTrail_35 : decode cX7_firstTrail 35 = .ok (.iload_n 3, 1) := by decide +kernel
theorem dX7_firstTrail_36 : decode cX7_firstTrail 36 = .ok (.ireturn, 1) := by decide +kernel
theorem dX7_addWood_0 : decode cX7_addWood 0 = .ok (.iload_n 1, 1) := by decide +kernel
theorem dX7_addWood_1 : decode cX7_addWood 1 = .ok (.iconst 1, 1) := by decide +kernel
theorem dX7_addWood_2 : decode cX7_addWood 2 = .ok (.if_icmp .lt 9, 3) := by decide +kernel
theorem dX7_addWood_5 : decode cX7_addWood 5 = .ok (.iload_n 1, 1) := by decide +kernel
theorem dX7_addWood_6 : decode cX7_addWood 6 = .ok (.bipush 99, 2) := by decide +kernel
theorem dX7_addWood_8 : decode cX7_addWood 8 = .ok (.if_icmp .le 13, 3) := by decide +kernel
theorem dX7_addWood_11 : decode cX7_addWood 11 = .ok (.new 73, 3) := by decide +kernel
theorem dX7_addWood_14 : decode cX7_addWood 14 = .ok (.dup, 1) := by decide +kernel
theorem dX7_addWood_15 : decode cX7_addWood 15 = .ok (.ldc 125, 2) := by decide +kernel
theorem dX7_addWood_17 : decode cX7_addWood 17 = .ok (.invokespecial 77, 3) := by decide +kernel
theorem dX7_addWood_20 : decode cX7_addWood 20 = .ok (.athrow, 1) := by decide +kernel
theorem dX7_addWood_21 : decode cX7_addWood 21 = .ok (.aload_n 0, 1) := by decide +kernel
theorem dX7_addWood_22 : decode cX7_addWood 22 = .ok (.getfield 19, 3) := by decide +kernel
theorem dX7_addWood_25 : decode cX7_addWood 25 = .ok (.dup, 1) := by decide +kernel
theorem dX7_addWood_26 : decode cX7_addWood 26 = .ok (.getfield 127, 3) := by decide +kernel
theorem dX7_addWood_29 : decode cX7_addWood 29 = .ok (.iload_n 1, 1) := by decide +kernel
theorem dX7_addWood_30 : decode cX7_addWood 30 = .ok (.iadd, 1) := by decide +kernel
theorem dX7_addWood_31 : decode cX7_addWood 31 = .ok (.putfield 127, 3) := by decide +kernel
theorem dX7_addWood_34 : decode cX7_addWood 34 = .ok (.aload_n 0, 1) := by decide +kernel
theorem dX7_addWood_35 : decode cX7_addWood 35 = .ok (.getfield 19, 3) := by decide +kernel
theorem dX7_addWood_38 : decode cX7_addWood 38 = .ok (.getfield 127, 3) := by decide +kernel
theorem dX7_addWood_41 : decode cX7_addWood 41 = .ok (.ireturn, 1) := by decide +kernel
theorem dX7_cut_0 : decode cX7_cut 0 = .ok (.aload_n 0, 1) := by decide +kernel
theorem dX7_cut_1 : decode cX7_cut 1 = .ok (.iload_n 1, 1) := by decide +kernel
theorem dX7_cut_2 : decode cX7_cut 2 = .ok (.invokevirtual 69, 3) := by decide +kernel
theorem dX7_cut_5 : decode cX7_cut 5 = .ok (.aload_n 0, 1) := by decide +kernel
theorem dX7_cut_6 : decode cX7_cut 6 = .ok (.iload_n 2, 1) := by decide +kernel
theorem dX7_cut_7 : decode cX7_cut 7 = .ok (.invokevirtual 69, 3) := by decide +kernel
theorem dX7_cut_10 : decode cX7_cut 10 = .ok (.aload_n 0, 1) := by decide +kernel
theorem dX7_cut_11 : decode cX7_cut 11 = .ok (.getfield 10, 3) := by decide +kernel
theorem dX7_cut_14 : decode cX7_cut 14 = .ok (.getfield 65, 3) := by decide +kernel
theorem dX7_cut_17 : decode cX7_cut 17 = .ok (.iload_n 2, 1) := by decide +kernel
theorem dX7_cut_18 : decode cX7_cut 18 = .ok (.baload, 1) := by decide +kernel
theorem dX7_cut_19 : decode cX7_cut 19 = .ok (.ifCond .eq 8, 3) := by decide +kernel
theorem dX7_cut_22 : decode cX7_cut 22 = .ok (.iload_n 1, 1) := by decide +kernel
theorem dX7_cut_23 : decode cX7_cut 23 = .ok (.iload_n 2, 1) := by decide +kernel
theorem dX7_cut_24 : decode cX7_cut 24 = .ok (.if_icmp .ne 13, 3) := by decide +kernel
theorem dX7_cut_27 : decode cX7_cut 27 = .ok (.new 73, 3) := by decide +kernel
theorem dX7_cut_30 : decode cX7_cut 30 = .ok (.dup, 1) := by decide +kernel
theorem dX7_cut_31 : decode cX7_cut 31 = .ok (.ldc 130, 2) := by decide +kernel
theorem dX7_cut_33 : decode cX7_cut 33 = .ok (.invokespecial 77, 3) := by decide +kernel
theorem dX7_cut_36 : decode cX7_cut 36 = .ok (.athrow, 1) := by decide +kernel
theorem dX7_cut_37 : decode cX7_cut 37 = .ok (.aload_n 0, 1) := by decide +kernel
theorem dX7_cut_38 : decode cX7_cut 38 = .ok (.iload_n 1, 1) := by decide +kernel
theorem dX7_cut_39 : decode cX7_cut 39 = .ok (.iload_n 2, 1) := by decide +kernel
theorem dX7_cut_40 : decode cX7_cut 40 = .ok (.invokevirtual 132, 3) := by decide +kernel
theorem dX7_cut_43 : decode cX7_cut 43 = .ok (.ifCond .ne 13, 3) := by decide +kernel
theorem dX7_cut_46 : decode cX7_cut 46 = .ok (.new 115, 3) := by decide +kernel
theorem dX7_cut_49 : decode cX7_cut 49 = .ok (.dup, 1) := by decide +kernel
theorem dX7_cut_50 : decode cX7_cut 50 = .ok (.ldc 136, 2) := by decide +kernel
theorem dX7_cut_52 : decode cX7_cut 52 = .ok (.invokespecial 119, 3) := by decide +kernel
theorem dX7_cut_55 : decode cX7_cut 55 = .ok (.athrow, 1) := by decide +kernel
theorem dX7_cut_56 : decode cX7_cut 56 = .ok (.aload_n 0, 1) := by decide +kernel
theorem dX7_cut_57 : decode cX7_cut 57 = .ok (.getfield 19, 3) := by decide +kernel
theorem dX7_cut_60 : decode cX7_cut 60 = .ok (.getfield 127, 3) := by decide +kernel
theorem dX7_cut_63 : decode cX7_cut 63 = .ok (.iconst 1, 1) := by decide +kernel
theorem dX7_cut_64 : decode cX7_cut 64 = .ok (.if_icmp .ge 13, 3) := by decide +kernel
theorem dX7_cut_67 : decode cX7_cut 67 = .ok (.new 138, 3) := by decide +kernel
theorem dX7_cut_70 : decode cX7_cut 70 = .ok (.dup, 1) := by decide +kernel
theorem dX7_cut_71 : decode cX7_cut 71 = .ok (.ldc 140, 2) := by decide +kernel
theorem dX7_cut_73 : decode cX7_cut 73 = .ok (.invokespecial 142, 3) := by decide +kernel
theorem dX7_cut_76 : decode cX7_cut 76 = .ok (.athrow, 1) := by decide +kernel
theorem dX7_cut_77 : decode cX7_cut 77 = .ok (.aload_n 0, 1) := by decide +kernel
theorem dX7_cut_78 : decode cX7_cut 78 = .ok (.getfield 19, 3) := by decide +kernel
theorem dX7_cut_81 : decode cX7_cut 81 = .ok (.getfield 143, 3) := by decide +kernel
theorem dX7_cut_84 : decode cX7_cut 84 = .ok (.bipush 30, 2) := by decide +kernel
theorem dX7_cut_86 : decode cX7_cut 86 = .ok (.if_icmp .lt 13, 3) := by decide +kernel
theorem dX7_cut_89 : decode cX7_cut 89 = .ok (.new 58, 3) := by decide +kernel
theorem dX7_cut_92 : decode cX7_cut 92 = .ok (.dup, 1) := by decide +kernel
theorem dX7_cut_93 : decode cX7_cut 93 = .ok (.ldc 146, 2) := by decide +kernel
theorem dX7_cut_95 : decode cX7_cut 95 = .ok (.invokespecial 62, 3) := by decide +kernel
theorem dX7_cut_98 : decode cX7_cut 98 = .ok (.athrow, 1) := by decide +kernel
theorem dX7_cut_99 : decode cX7_cut 99 = .ok (.aload_n 0, 1) := by decide +kernel
theorem dX7_cut_100 : decode cX7_cut 100 = .ok (.getfield 19, 3) := by decide +kernel
theorem dX7_cut_103 : decode cX7_cut 103 = .ok (.getfield 143, 3) := by decide +kernel
theorem dX7_cut_106 : decode cX7_cut 106 = .ok (.istore_n 3, 1) := by decide +kernel
theorem dX7_cut_107 : decode cX7_cut 107 = .ok (.aload_n 0, 1) := by decide +kernel
theorem dX7_cut_108 : decode cX7_cut 108 = .ok (.getfield 19, 3) := by decide +kernel
theorem dX7_cut_111 : decode cX7_cut 111 = .ok (.dup, 1) := by decide +kernel
theorem dX7_cut_112 : decode cX7_cut 112 = .ok (.getfield 143, 3) := by decide +kernel
theorem dX7_cut_115 : decode cX7_cut 115 = .ok (.iconst 1, 1) := by decide +kernel
theorem dX7_cut_116 : decode cX7_cut 116 = .ok (.iadd, 1) := by decide +kernel
theorem dX7_cut_117 : decode cX7_cut 117 = .ok (.putfield 143, 3) := by decide +kernel
theorem dX7_cut_120 : decode cX7_cut 120 = .ok (.aload_n 0, 1) := by decide +kernel
theorem dX7_cut_121 : decode cX7_cut 121 = .ok (.getfield 19, 3) := by decide +kernel
theorem dX7_cut_124 : decode cX7_cut 124 = .ok (.getfield 148, 3) := by decide +kernel
theorem dX7_cut_127 : decode cX7_cut 127 = .ok (.iload_n 3, 1) := by decide +kernel
theorem dX7_cut_128 : decode cX7_cut 128 = .ok (.iload_n 1, 1) := by decide +kernel
theorem dX7_cut_129 : decode cX7_cut 129 = .ok (.iastore, 1) := by decide +kernel
theorem dX7_cut_130 : decode cX7_cut 130 = .ok (.aload_n 0, 1) := by decide +kernel
theorem dX7_cut_131 : decode cX7_cut 131 = .ok (.getfield 19, 3) := by decide +kernel
theorem dX7_cut_134 : decode cX7_cut 134 = .ok (.getfield 152, 3) := by decide +kernel
theorem dX7_cut_137 : decode cX7_cut 137 = .ok (.iload_n 3, 1) := by decide +kernel
theorem dX7_cut_138 : decode cX7_cut 138 = .ok (.iload_n 2, 1) := by decide +kernel
theorem dX7_cut_139 : decode cX7_cut 139 = .ok (.iastore, 1) := by decide +kernel
theorem dX7_cut_140 : decode cX7_cut 140 = .ok (.aload_n 0, 1) := by decide +kernel
theorem dX7_cut_141 : decode cX7_cut 141 = .ok (.iload_n 3, 1) := by decide +kernel
theorem dX7_cut_142 : decode cX7_cut 142 = .ok (.invokevirtual 155, 3) := by decide +kernel
theorem dX7_cut_145 : decode cX7_cut 145 = .ok (.iload_n 3, 1) := by decide +kernel
theorem dX7_cut_146 : decode cX7_cut 146 = .ok (.ireturn, 1) := by decide +kernel
theorem dX7_trailOf_0 : decode cX7_trailOf 0 = .ok (.aload_n 0, 1) := by decide +kernel
theorem dX7_trailOf_1 : decode cX7_trailOf 1 = .ok (.iload_n 1, 1) := by decide +kernel
theorem dX7_trailOf_2 : decode cX7_trailOf 2 = .ok (.invokevirtual 158, 3) := by decide +kernel
theorem dX7_trailOf_5 : decode cX7_trailOf 5 = .ok (.aload_n 0, 1) := by decide +kernel
theorem dX7_trailOf_6 : decode cX7_trailOf 6 = .ok (.getfield 19, 3) := by decide +kernel
theorem dX7_trailOf_9 : decode cX7_trailOf 9 = .ok (.getfield 161, 3) := by decide +kernel
theorem dX7_trailOf_12 : decode cX7_trailOf 12 = .ok (.iload_n 1, 1) := by decide +kernel
theorem dX7_trailOf_13 : decode cX7_trailOf 13 = .ok (.iaload, 1) := by decide +kernel
theorem dX7_trailOf_14 : decode cX7_trailOf 14 = .ok (.ireturn, 1) := by decide +kernel
theorem dX7_told_0 : decode cX7_told 0 = .ok (.aload_n 0, 1) := by decide +kernel
theorem dX7_told_1 : decode cX7_told 1 = .ok (.iload_n 1, 1) := by decide +kernel
theorem dX7_told_2 : decode cX7_told 2 = .ok (.invokevirtual 158, 3) := by decide +kernel
theorem dX7_told_5 : decode cX7_told 5 = .ok (.aload_n 0, 1) := by decide +kernel
theorem dX7_told_6 : decode cX7_told 6 = .ok (.getfield 19, 3) := by decide +kernel
theorem dX7_told_9 : decode cX7_told 9 = .ok (.getfield 164, 3) := by decide +kernel
theorem dX7_told_12 : decode cX7_told 12 = .ok (.iload_n 1, 1) := by decide +kernel
theorem dX7_told_13 : decode cX7_told 13 = .ok (.iaload, 1) := by decide +kernel
theorem dX7_told_14 : decode cX7_told 14 = .ok (.ireturn, 1) := by decide +kernel
theorem dX7_isCovered_0 : decode cX7_isCovered 0 = .ok (.aload_n 0, 1) := by decide +kernel
theorem dX7_isCovered_1 : decode cX7_isCovered 1 = .ok (.iload_n 1, 1) := by decide +kernel
theorem dX7_isCovered_2 : decode cX7_isCovered 2 = .ok (.invokevirtual 158, 3) := by decide +kernel
theorem dX7_isCovered_5 : decode cX7_isCovered 5 = .ok (.aload_n 0, 1) := by decide +kernel
theorem dX7_isCovered_6 : decode cX7_isCovered 6 = .ok (.getfield 19, 3) := by decide +kernel
theorem dX7_isCovered_9 : decode cX7_isCovered 9 = .ok (.getfield 167, 3) := by decide +kernel
theorem dX7_isCovered_12 : decode cX7_isCovered 12 = .ok (.iload_n 1, 1) := by decide +kernel
theorem dX7_isCovered_13 : decode cX7_isCovered 13 = .ok (.baload, 1) := by decide +kernel
theorem dX7_isCovered_14 : decode cX7_isCovered 14 = .ok (.ireturn, 1) := by decide +kernel
theorem dX7_danger_0 : decode cX7_danger 0 = .ok (.aload_n 0, 1) := by decide +kernel
theorem dX7_danger_1 : decode cX7_danger 1 = .ok (.iload_n 1, 1) := by decide +kernel
theorem dX7_danger_2 : decode cX7_danger 2 = .ok (.invokevirtual 158, 3) := by decide +kernel
theorem dX7_danger_5 : decode cX7_danger 5 = .ok (.aload_n 0, 1) := by decide +kernel
theorem dX7_danger_6 : decode cX7_danger 6 = .ok (.getfield 19, 3) := by decide +kernel
theorem dX7_danger_9 : decode cX7_danger 9 = .ok (.iload_n 1, 1) := by decide +kernel
theorem dX7_danger_10 : decode cX7_danger 10 = .ok (.aload_n 0, 1) := by decide +kernel
theorem dX7_danger_11 : decode cX7_danger 11 = .ok (.getfield 10, 3) := by decide +kernel
theorem dX7_danger_14 : decode cX7_danger 14 = .ok (.aload_n 0, 1) := by decide +kernel
theorem dX7_danger_15 : decode cX7_danger 15 = .ok (.getfield 10, 3) := by decide +kernel
theorem dX7_danger_18 : decode cX7_danger 18 = .ok (.iload_n 2, 1) := by decide +kernel
theorem dX7_danger_19 : decode cX7_danger 19 = .ok (.invokevirtual 106, 3) := by decide +kernel
theorem dX7_danger_22 : decode cX7_danger 22 = .ok (.invokevirtual 170, 3) := by decide +kernel
theorem dX7_danger_25 : decode cX7_danger 25 = .ok (.ireturn, 1) := by decide +kernel
theorem dX7_unsafe_0 : decode cX7_unsafe 0 = .ok (.iconst 0, 1) := by decide +kernel
theorem dX7_unsafe_1 : decode cX7_unsafe 1 = .ok (.istore_n 2, 1) := by decide +kernel
theorem dX7_unsafe_2 : decode cX7_unsafe 2 = .ok (.iconst 0, 1) := by decide +kernel
theorem dX7_unsafe_3 : decode cX7_unsafe 3 = .ok (.istore_n 3, 1) := by decide +kernel
theorem dX7_unsafe_4 : decode cX7_unsafe 4 = .ok (.iload_n 3, 1) := by decide +kernel
theorem dX7_unsafe_5 : decode cX7_unsafe 5 = .ok (.aload_n 0, 1) := by decide +kernel
theorem dX7_unsafe_6 : decode cX7_unsafe 6 = .ok (.getfield 19, 3) := by decide +kernel
theorem dX7_unsafe_9 : decode cX7_unsafe 9 = .ok (.getfield 143, 3) := by decide +kernel
theorem dX7_unsafe_12 : decode cX7_unsafe 12 = .ok (.if_icmp .ge 50, 3) := by decide +kernel
theorem dX7_unsafe_15 : decode cX7_unsafe 15 = .ok (.aload_n 0, 1) := by decide +kernel
theorem dX7_unsafe_16 : decode cX7_unsafe 16 = .ok (.getfield 19, 3) := by decide +kernel
theorem dX7_unsafe_19 : decode cX7_unsafe 19 = .ok (.getfield 167, 3) := by decide +kernel
theorem dX7_unsafe_22 : decode cX7_unsafe 22 = .ok (.iload_n 3, 1) := by decide +kernel
theorem dX7_unsafe_23 : decode cX7_unsafe 23 = .ok (.baload, 1) := by decide +kernel
theorem dX7_unsafe_24 : decode cX7_unsafe 24 = .ok (.ifCond .ne 32, 3) := by decide +kernel
theorem dX7_unsafe_27 : decode cX7_unsafe 27 = .ok (.aload_n 0, 1) := by decide +kernel
theorem dX7_unsafe_28 : decode cX7_unsafe 28 = .ok (.getfield 19, 3) := by decide +kernel
theorem dX7_unsafe_31 : decode cX7_unsafe 31 = .ok (.iload_n 3, 1) := by decide +kernel
theorem dX7_unsafe_32 : decode cX7_unsafe 32 = .ok (.aload_n 0, 1) := by decide +kernel
theorem dX7_unsafe_33 : decode cX7_unsafe 33 = .ok (.getfield 10, 3) := by decide +kernel
theorem dX7_unsafe_36 : decode cX7_unsafe 36 = .ok (.aload_n 0, 1) := by decide +kernel
theorem dX7_unsafe_37 : decode cX7_unsafe 37 = .ok (.getfield 10, 3) := by decide +kernel
theorem dX7_unsafe_40 : decode cX7_unsafe 40 = .ok (.iload_n 1, 1) := by decide +kernel
theorem dX7_unsafe_41 : decode cX7_unsafe 41 = .ok (.invokevirtual 106, 3) := by decide +kernel
theorem dX7_unsafe_44 : decode cX7_unsafe 44 = .ok (.invokevirtual 170, 3) := by decide +kernel
theorem dX7_unsafe_47 : decode cX7_unsafe 47 = .ok (.sipush 1000, 3) := by decide +kernel
theorem dX7_unsafe_50 : decode cX7_unsafe 50 = .ok (.if_icmp .ne 6, 3) := by decide +kernel
theorem dX7_unsafe_53 : decode cX7_unsafe 53 = .ok (.iinc 2 1, 3) := by decide +kernel
theorem dX7_unsafe_56 : decode cX7_unsafe 56 = .ok (.iinc 3 1, 3) := by decide +kernel
theorem dX7_unsafe_59 : decode cX7_unsafe 59 = .ok (.goto (-55), 3) := by decide +kernel
theorem dX7_unsafe_62 : decode cX7_unsafe 62 = .ok (.iload_n 2, 1) := by decide +kernel
theorem dX7_unsafe_63 : decode cX7_unsafe 63 = .ok (.ireturn, 1) := by decide +kernel
theorem dX7_report_0 : decode cX7_report 0 = .ok (.aload_n 0, 1) := by decide +kernel
theorem dX7_report_1 : decode cX7_report 1 = .ok (.iload_n 1, 1) := by decide +kernel
theorem dX7_report_2 : decode cX7_report 2 = .ok (.invokevirtual 174, 3) := by decide +kernel
theorem dX7_report_5 : decode cX7_report 5 = .ok (.aload_n 0, 1) := by decide +kernel
theorem dX7_report_6 : decode cX7_report 6 = .ok (.iload_n 2, 1) := by decide +kernel
theorem dX7_report_7 : decode cX7_report 7 = .ok (.invokevirtual 90, 3) := by decide +kernel
theorem dX7_report_10 : decode cX7_report 10 = .ok (.aload_n 0, 1) := by decide +kernel
theorem dX7_report_11 : decode cX7_report 11 = .ok (.getfield 26, 3) := by decide +kernel
theorem dX7_report_14 : decode cX7_report 14 = .ok (.iload_n 1, 1) := by decide +kernel
theorem dX7_report_15 : decode cX7_report 15 = .ok (.iload_n 2, 1) := by decide +kernel
theorem dX7_report_16 : decode cX7_report 16 = .ok (.iload_n 3, 1) := by decide +kernel
theorem dX7_report_17 : decode cX7_report 17 = .ok (.invokevirtual 177, 3) := by decide +kernel
theorem dX7_report_20 : decode cX7_report 20 = .ok (.aload_n 0, 1) := by decide +kernel
theorem dX7_report_21 : decode cX7_report 21 = .ok (.getfield 10, 3) := by decide +kernel
theorem dX7_report_24 : decode cX7_report 24 = .ok (.aload_n 0, 1) := by decide +kernel
theorem dX7_report_25 : decode cX7_report 25 = .ok (.getfield 10, 3) := by decide +kernel
theorem dX7_report_28 : decode cX7_report 28 = .ok (.getfield 181, 3) := by decide +kernel
theorem dX7_report_31 : decode cX7_report 31 = .ok (.iload_n 2, 1) := by decide +kernel
theorem dX7_report_32 : decode cX7_report 32 = .ok (.aload_n 0, 1) := by decide +kernel
theorem dX7_report_33 : decode cX7_report 33 = .ok (.getfield 26, 3) := by decide +kernel
theorem dX7_report_36 : decode cX7_report 36 = .ok (.iload_n 2, 1) := by decide +kernel
theorem dX7_report_37 : decode cX7_report 37 = .ok (.aload_n 0, 1) := by decide +kernel
theorem dX7_report_38 : decode cX7_report 38 = .ok (.getfield 10, 3) := by decide +kernel
theorem dX7_report_41 : decode cX7_report 41 = .ok (.getfield 181, 3) := by decide +kernel
theorem dX7_report_44 : decode cX7_report 44 = .ok (.getfield 97, 3) := by decide +kernel
theorem dX7_report_47 : decode cX7_report 47 = .ok (.iload_n 2, 1) := by decide +kernel
theorem dX7_report_48 : decode cX7_report 48 = .ok (.baload, 1) := by decide +kernel
theorem dX7_report_49 : decode cX7_report 49 = .ok (.invokevirtual 184, 3) := by decide +kernel
theorem dX7_report_52 : decode cX7_report 52 = .ok (.invokevirtual 102, 3) := by decide +kernel
theorem dX7_report_55 : decode cX7_report 55 = .ok (.aload_n 0, 1) := by decide +kernel
theorem dX7_report_56 : decode cX7_report 56 = .ok (.getfield 10, 3) := by decide +kernel
theorem dX7_report_59 : decode cX7_report 59 = .ok (.getfield 181, 3) := by decide +kernel
theorem dX7_report_62 : decode cX7_report 62 = .ok (.getfield 97, 3) := by decide +kernel
theorem dX7_report_65 : decode cX7_report 65 = .ok (.iload_n 2, 1) := by decide +kernel
theorem dX7_report_66 : decode cX7_report 66 = .ok (.baload, 1) := by decide +kernel
theorem dX7_report_67 : decode cX7_report 67 = .ok (.ireturn, 1) := by decide +kernel
theorem dX7_trust_0 : decode cX7_trust 0 = .ok (.aload_n 0, 1) := by decide +kernel
theorem dX7_trust_1 : decode cX7_trust 1 = .ok (.iload_n 1, 1) := by decide +kernel
theorem dX7_trust_2 : decode cX7_trust 2 = .ok (.invokevirtual 174, 3) := by decide +kernel
theorem dX7_trust_5 : decode cX7_trust 5 = .ok (.aload_n 0, 1) := by decide +kernel
theorem dX7_trust_6 : decode cX7_trust 6 = .ok (.getfield 26, 3) := by decide +kernel
theorem dX7_trust_9 : decode cX7_trust 9 = .ok (.getfield 188, 3) := by decide +kernel
theorem dX7_trust_12 : decode cX7_trust 12 = .ok (.iload_n 1, 1) := by decide +kernel
theorem dX7_trust_13 : decode cX7_trust 13 = .ok (.iaload, 1) := by decide +kernel
theorem dX7_trust_14 : decode cX7_trust 14 = .ok (.ireturn, 1) := by decide +kernel
theorem dX7_reports_0 : decode cX7_reports 0 = .ok (.aload_n 0, 1) := by decide +kernel
theorem dX7_reports_1 : decode cX7_reports 1 = .ok (.iload_n 1, 1) := by decide +kernel
theorem dX7_reports_2 : decode cX7_reports 2 = .ok (.invokevirtual 90, 3) := by decide +kernel
theorem dX7_reports_5 : decode cX7_reports 5 = .ok (.aload_n 0, 1) := by decide +kernel
theorem dX7_reports_6 : decode cX7_reports 6 = .ok (.getfield 26, 3) := by decide +kernel
theorem dX7_reports_9 : decode cX7_reports 9 = .ok (.iload_n 1, 1) := by decide +kernel
theorem dX7_reports_10 : decode cX7_reports 10 = .ok (.invokevirtual 191, 3) := by decide +kernel
theorem dX7_reports_13 : decode cX7_reports 13 = .ok (.ireturn, 1) := by decide +kernel
theorem dX7_addTask_0 : decode cX7_addTask 0 = .ok (.iload_n 1, 1) := by decide +kernel
theorem dX7_addTask_1 : decode cX7_addTask 1 = .ok (.bipush 109, 2) := by decide +kernel
theorem dX7_addTask_3 : decode cX7_addTask 3 = .ok (.if_icmp .eq 19, 3) := by decide +kernel
theorem dX7_addTask_6 : decode cX7_addTask 6 = .ok (.iload_n 1, 1) := by decide +kernel
theorem dX7_addTask_7 : decode cX7_addTask 7 = .ok (.bipush 114, 2) := by decide +kernel
theorem dX7_addTask_9 : decode cX7_addTask 9 = .ok (.if_icmp .eq 13, 3) := by decide +kernel
theorem dX7_addTask_12 : decode cX7_addTask 12 = .ok (.new 73, 3) := by decide +kernel
theorem dX7_addTask_15 : decode cX7_addTask 15 = .ok (.dup, 1) := by decide +kernel
theorem dX7_addTask_16 : decode cX7_addTask 16 = .ok (.ldc 195, 2) := by decide +kernel
theorem dX7_addTask_18 : decode cX7_addTask 18 = .ok (.invokespecial 77, 3) := by decide +kernel
theorem dX7_addTask_21 : decode cX7_addTask 21 = .ok (.athrow, 1) := by decide +kernel
theorem dX7_addTask_22 : decode cX7_addTask 22 = .ok (.iload_n 3, 1) := by decide +kernel
theorem dX7_addTask_23 : decode cX7_addTask 23 = .ok (.ifCond .lt 10, 3) := by decide +kernel
theorem dX7_addTask_26 : decode cX7_addTask 26 = .ok (.iload_n 3, 1) := by decide +kernel
theorem dX7_addTask_27 : decode cX7_addTask 27 = .ok (.sipush 999, 3) := by decide +kernel
theorem dX7_addTask_30 : decode cX7_addTask 30 = .ok (.if_icmp .le 13, 3) := by decide +kernel
theorem dX7_addTask_33 : decode cX7_addTask 33 = .ok (.new 73, 3) := by decide +kernel
theorem dX7_addTask_36 : decode cX7_addTask 36 = .ok (.dup, 1) := by decide +kernel
theorem dX7_addTask_37 : decode cX7_addTask 37 = .ok (.ldc 197, 2) := by decide +kernel
theorem dX7_addTask_39 : decode cX7_addTask 39 = .ok (.invokespecial 77, 3) := by decide +kernel
theorem dX7_addTask_42 : decode cX7_addTask 42 = .ok (.athrow, 1) := by decide +kernel
theorem dX7_addTask_43 : decode cX7_addTask 43 = .ok (.iload_n 1, 1) := by decide +kernel
theorem dX7_addTask_44 : decode cX7_addTask 44 = .ok (.bipush 109, 2) := by decide +kernel
theorem dX7_addTask_46 : decode cX7_addTask 46 = .ok (.if_icmp .ne 11, 3) := by decide +kernel
theorem dX7_addTask_49 : decode cX7_addTask 49 = .ok (.aload_n 0, 1) := by decide +kernel
theorem dX7_addTask_50 : decode cX7_addTask 50 = .ok (.iload_n 2, 1) := by decide +kernel
theorem dX7_addTask_51 : decode cX7_addTask 51 = .ok (.invokevirtual 90, 3) := by decide +kernel
theorem dX7_addTask_54 : decode cX7_addTask 54 = .ok (.goto 8, 3) := by decide +kernel
theorem dX7_addTask_57 : decode cX7_addTask 57 = .ok (.aload_n 0, 1) := by decide +kernel
theorem dX7_addTask_58 : decode cX7_addTask 58 = .ok (.iload_n 2, 1) := by decide +kernel
theorem dX7_addTask_59 : decode cX7_addTask 59 = .ok (.invokevirtual 158, 3) := by decide +kernel
theorem dX7_addTask_62 : decode cX7_addTask 62 = .ok (.aload_n 0, 1) := by decide +kernel
theorem dX7_addTask_63 : decode cX7_addTask 63 = .ok (.getfield 33, 3) := by decide +kernel
theorem dX7_addTask_66 : decode cX7_addTask 66 = .ok (.invokevirtual 199, 3) := by decide +kernel
theorem dX7_addTask_69 : decode cX7_addTask 69 = .ok (.ifCond .ne 13, 3) := by decide +kernel
theorem dX7_addTask_72 : decode cX7_addTask 72 = .ok (.new 58, 3) := by decide +kernel
theorem dX7_addTask_75 : decode cX7_addTask 75 = .ok (.dup, 1) := by decide +kernel
theorem dX7_addTask_76 : decode cX7_addTask 76 = .ok (.ldc 203, 2) := by decide +kernel
theorem dX7_addTask_78 : decode cX7_addTask 78 = .ok (.invokespecial 62, 3) := by decide +kernel
theorem dX7_addTask_81 : decode cX7_addTask 81 = .ok (.athrow, 1) := by decide +kernel
theorem dX7_addTask_82 : decode cX7_addTask 82 = .ok (.aload_n 0, 1) := by decide +kernel
theorem dX7_addTask_83 : decode cX7_addTask 83 = .ok (.getfield 33, 3) := by decide +kernel
theorem dX7_addTask_86 : decode cX7_addTask 86 = .ok (.iload_n 1, 1) := by decide +kernel
theorem dX7_addTask_87 : decode cX7_addTask 87 = .ok (.iload_n 2, 1) := by decide +kernel
theorem dX7_addTask_88 : decode cX7_addTask 88 = .ok (.iload_n 3, 1) := by decide +kernel
theorem dX7_addTask_89 : decode cX7_addTask 89 = .ok (.invokevirtual 205, 3) := by decide +kernel
theorem dX7_addTask_92 : decode cX7_addTask 92 = .ok (.ireturn, 1) := by decide +kernel
theorem dX7_plan_0 : decode cX7_plan 0 = .ok (.iconst 0, 1) := by decide +kernel
theorem dX7_plan_1 : decode cX7_plan 1 = .ok (.istore_n 1, 1) := by decide +kernel
theorem dX7_plan_2 : decode cX7_plan 2 = .ok (.iconst 0, 1) := by decide +kernel
theorem dX7_plan_3 : decode cX7_plan 3 = .ok (.istore_n 2, 1) := by decide +kernel
theorem dX7_plan_4 : decode cX7_plan 4 = .ok (.iload_n 2, 1) := by decide +kernel
theorem dX7_plan_5 : decode cX7_plan 5 = .ok (.bipush 30, 2) := by decide +kernel
theorem dX7_plan_7 : decode cX7_plan 7 = .ok (.if_icmp .ge 67, 3) := by decide +kernel
theorem dX7_plan_10 : decode cX7_plan 10 = .ok (.aload_n 0, 1) := by decide +kernel
theorem dX7_plan_11 : decode cX7_plan 11 = .ok (.getfield 33, 3) := by decide +kernel
theorem dX7_plan_14 : decode cX7_plan 14 = .ok (.invokevirtual 199, 3) := by decide +kernel
theorem dX7_plan_17 : decode cX7_plan 17 = .ok (.ifCond .eq 57, 3) := by decide +kernel
theorem dX7_plan_20 : decode cX7_plan 20 = .ok (.aload_n 0, 1) := by decide +kernel
theorem dX7_plan_21 : decode cX7_plan 21 = .ok (.invokevirtual 209, 3) := by decide +kernel
theorem dX7_plan_24 : decode cX7_plan 24 = .ok (.istore_n 3, 1) := by decide +kernel
theorem dX7_plan_25 : decode cX7_plan 25 = .ok (.iload_n 3, 1) := by decide +kernel
theorem dX7_plan_26 : decode cX7_plan 26 = .ok (.iconst (-1), 1) := by decide +kernel
theorem dX7_plan_27 : decode cX7_plan 27 = .ok (.if_icmp .ne 5, 3) := by decide +kernel
theorem dX7_plan_30 : decode cX7_plan 30 = .ok (.iload_n 1, 1) := by decide +kernel
theorem dX7_plan_31 : decode cX7_plan 31 = .ok (.ireturn, 1) := by decide +kernel
theorem dX7_plan_32 : decode cX7_plan 32 = .ok (.aload_n 0, 1) := by decide +kernel
theorem dX7_plan_33 : decode cX7_plan 33 = .ok (.getfield 33, 3) := by decide +kernel
theorem dX7_plan_36 : decode cX7_plan 36 = .ok (.aload_n 0, 1) := by decide +kernel
theorem dX7_plan_37 : decode cX7_plan 37 = .ok (.iload_n 3, 1) := by decide +kernel
theorem dX7_plan_38 : decode cX7_plan 38 = .ok (.invokevirtual 213, 3) := by decide +kernel
theorem dX7_plan_41 : decode cX7_plan 41 = .ok (.iload_n 3, 1) := by decide +kernel
theorem dX7_plan_42 : decode cX7_plan 42 = .ok (.aload_n 0, 1) := by decide +kernel
theorem dX7_plan_43 : decode cX7_plan 43 = .ok (.getfield 19, 3) := by decide +kernel
theorem dX7_plan_46 : decode cX7_plan 46 = .ok (.iload_n 3, 1) := by decide +kernel
theorem dX7_plan_47 : decode cX7_plan 47 = .ok (.aload_n 0, 1) := by decide +kernel
theorem dX7_plan_48 : decode cX7_plan 48 = .ok (.getfield 10, 3) := by decide +kernel
theorem dX7_plan_51 : decode cX7_plan 51 = .ok (.aload_n 0, 1) := by decide +kernel
theorem dX7_plan_52 : decode cX7_plan 52 = .ok (.getfield 10, 3) := by decide +kernel
theorem dX7_plan_55 : decode cX7_plan 55 = .ok (.getfield 181, 3) := by decide +kernel
theorem dX7_plan_58 : decode cX7_plan 58 = .ok (.invokevirtual 170, 3) := by decide +kernel
theorem dX7_plan_61 : decode cX7_plan 61 = .ok (.invokevirtual 205, 3) := by decide +kernel
theorem dX7_plan_64 : decode cX7_plan 64 = .ok (.pop, 1) := by decide +kernel
theorem dX7_plan_65 : decode cX7_plan 65 = .ok (.iinc 1 1, 3) := by decide +kernel
theorem dX7_plan_68 : decode cX7_plan 68 = .ok (.iinc 2 1, 3) := by decide +kernel
theorem dX7_plan_71 : decode cX7_plan 71 = .ok (.goto (-67), 3) := by decide +kernel
theorem dX7_plan_74 : decode cX7_plan 74 = .ok (.iload_n 1, 1) := by decide +kernel
theorem dX7_plan_75 : decode cX7_plan 75 = .ok (.ireturn, 1) := by decide +kernel
theorem dX7_kindOf_0 : decode cX7_kindOf 0 = .ok (.aload_n 0, 1) := by decide +kernel
theorem dX7_kindOf_1 : decode cX7_kindOf 1 = .ok (.iload_n 1, 1) := by decide +kernel
theorem dX7_kindOf_2 : decode cX7_kindOf 2 = .ok (.invokevirtual 217, 3) := by decide +kernel
theorem dX7_kindOf_5 : decode cX7_kindOf 5 = .ok (.aload_n 0, 1) := by decide +kernel
theorem dX7_kindOf_6 : decode cX7_kindOf 6 = .ok (.getfield 33, 3) := by decide +kernel
theorem dX7_kindOf_9 : decode cX7_kindOf 9 = .ok (.getfield 220, 3) := by decide +kernel
theorem dX7_kindOf_12 : decode cX7_kindOf 12 = .ok (.iload_n 1, 1) := by decide +kernel
theorem dX7_kindOf_13 : decode cX7_kindOf 13 = .ok (.caload, 1) := by decide +kernel
theorem dX7_kindOf_14 : decode cX7_kindOf 14 = .ok (.ireturn, 1) := by decide +kernel
theorem dX7_numberOf_0 : decode cX7_numberOf 0 = .ok (.aload_n 0, 1) := by decide +kernel
theorem dX7_numberOf_1 : decode cX7_numberOf 1 = .ok (.iload_n 1, 1) := by decide +kernel
theorem dX7_numberOf_2 : decode cX7_numberOf 2 = .ok (.invokevirtual 217, 3) := by decide +kernel
theorem dX7_numberOf_5 : decode cX7_numberOf 5 = .ok (.aload_n 0, 1) := by decide +kernel
theorem dX7_numberOf_6 : decode cX7_numberOf 6 = .ok (.getfield 33, 3) := by decide +kernel
theorem dX7_numberOf_9 : decode cX7_numberOf 9 = .ok (.getfield 224, 3) := by decide +kernel
theorem dX7_numberOf_12 : decode cX7_numberOf 12 = .ok (.iload_n 1, 1) := by decide +kernel
theorem dX7_numberOf_13 : decode cX7_numberOf 13 = .ok (.iaload, 1) := by decide +kernel
theorem dX7_numberOf_14 : decode cX7_numberOf 14 = .ok (.ireturn, 1) := by decide +kernel
theorem dX7_doneBy_0 : decode cX7_doneBy 0 = .ok (.aload_n 0, 1) := by decide +kernel
theorem dX7_doneBy_1 : decode cX7_doneBy 1 = .ok (.iload_n 1, 1) := by decide +kernel
theorem dX7_doneBy_2 : decode cX7_doneBy 2 = .ok (.invokevirtual 217, 3) := by decide +kernel
theorem dX7_doneBy_5 : decode cX7_doneBy 5 = .ok (.aload_n 0, 1) := by decide +kernel
theorem dX7_doneBy_6 : decode cX7_doneBy 6 = .ok (.getfield 33, 3) := by decide +kernel
theorem dX7_doneBy_9 : decode cX7_doneBy 9 = .ok (.iload_n 1, 1) := by decide +kernel
theorem dX7_doneBy_10 : decode cX7_doneBy 10 = .ok (.invokevirtual 227, 3) := by decide +kernel
theorem dX7_doneBy_13 : decode cX7_doneBy 13 = .ok (.ifCond .eq 13, 3) := by decide +kernel
theorem dX7_doneBy_16 : decode cX7_doneBy 16 = .ok (.new 115, 3) := by decide +kernel
theorem dX7_doneBy_19 : decode cX7_doneBy 19 = .ok (.dup, 1) := by decide +kernel
theorem dX7_doneBy_20 : decode cX7_doneBy 20 = .ok (.ldc 231, 2) := by decide +kernel
theorem dX7_doneBy_22 : decode cX7_doneBy 22 = .ok (.invokespecial 119, 3) := by decide +kernel
theorem dX7_doneBy_25 : decode cX7_doneBy 25 = .ok (.athrow, 1) := by decide +kernel
theorem dX7_doneBy_26 : decode cX7_doneBy 26 = .ok (.aload_n 0, 1) := by decide +kernel
theorem dX7_doneBy_27 : decode cX7_doneBy 27 = .ok (.getfield 33, 3) := by decide +kernel
theorem dX7_doneBy_30 : decode cX7_doneBy 30 = .ok (.getfield 233, 3) := by decide +kernel
theorem dX7_doneBy_33 : decode cX7_doneBy 33 = .ok (.iload_n 1, 1) := by decide +kernel
theorem dX7_doneBy_34 : decode cX7_doneBy 34 = .ok (.iaload, 1) := by decide +kernel
theorem dX7_doneBy_35 : decode cX7_doneBy 35 = .ok (.ireturn, 1) := by decide +kernel
theorem dX7_openTasks_0 : decode cX7_openTasks 0 = .ok (.iconst 0, 1) := by decide +kernel
theorem dX7_openTasks_1 : decode cX7_openTasks 1 = .ok (.istore_n 1, 1) := by decide +kernel
theorem dX7_openTasks_2 : decode cX7_openTasks 2 = .ok (.iconst 0, 1) := by decide +kernel
theorem dX7_openTasks_3 : decode cX7_openTasks 3 = .ok (.istore_n 2, 1) := by decide +kernel
theorem dX7_openTasks_4 : decode cX7_openTasks 4 = .ok (.iload_n 2, 1) := by decide +kernel
theorem dX7_openTasks_5 : decode cX7_openTasks 5 = .ok (.aload_n 0, 1) := by decide +kernel
theorem dX7_openTasks_6 : decode cX7_openTasks 6 = .ok (.getfield 33, 3) := by decide +kernel
theorem dX7_openTasks_9 : decode cX7_openTasks 9 = .ok (.getfield 236, 3) := by decide +kernel
theorem dX7_openTasks_12 : decode cX7_openTasks 12 = .ok (.if_icmp .ge 23, 3) := by decide +kernel
theorem dX7_openTasks_15 : decode cX7_openTasks 15 = .ok (.aload_n 0, 1) := by decide +kernel
theorem dX7_openTasks_16 : decode cX7_openTasks 16 = .ok (.getfield 33, 3) := by decide +kernel
theorem dX7_openTasks_19 : decode cX7_openTasks 19 = .ok (.iload_n 2, 1) := by decide +kernel
theorem dX7_openTasks_20 : decode cX7_openTasks 20 = .ok (.invokevirtual 227, 3) := by decide +kernel
theorem dX7_openTasks_23 : decode cX7_openTasks 23 = .ok (.ifCond .eq 6, 3) := by decide +kernel
theorem dX7_openTasks_26 : decode cX7_openTasks 26 = .ok (.iinc 1 1, 3) := by decide +kernel
theorem dX7_openTasks_29 : decode cX7_openTasks 29 = .ok (.iinc 2 1, 3) := by decide +kernel
theorem dX7_openTasks_32 : decode cX7_openTasks 32 = .ok (.goto (-28), 3) := by decide +kernel
theorem dX7_openTasks_35 : decode cX7_openTasks 35 = .ok (.iload_n 1, 1) := by decide +kernel
theorem dX7_openTasks_36 : decode cX7_openTasks 36 = .ok (.ireturn, 1) := by decide +kernel
theorem dX7_addRanger_0 : decode cX7_addRanger 0 = .ok (.aload_n 0, 1) := by decide +kernel
theorem dX7_addRanger_1 : decode cX7_addRanger 1 = .ok (.iload_n 1, 1) := by decide +kernel
theorem dX7_addRanger_2 : decode cX7_addRanger 2 = .ok (.invokevirtual 69, 3) := by decide +kernel
theorem dX7_addRanger_5 : decode cX7_addRanger 5 = .ok (.iload_n 2, 1) := by decide +kernel
theorem dX7_addRanger_6 : decode cX7_addRanger 6 = .ok (.ifCond .lt 8, 3) := by decide +kernel
theorem dX7_addRanger_9 : decode cX7_addRanger 9 = .ok (.iload_n 2, 1) := by decide +kernel
theorem dX7_addRanger_10 : decode cX7_addRanger 10 = .ok (.iconst 3, 1) := by decide +kernel
theorem dX7_addRanger_11 : decode cX7_addRanger 11 = .ok (.if_icmp .le 13, 3) := by decide +kernel
theorem dX7_addRanger_14 : decode cX7_addRanger 14 = .ok (.new 73, 3) := by decide +kernel
theorem dX7_addRanger_17 : decode cX7_addRanger 17 = .ok (.dup, 1) := by decide +kernel
theorem dX7_addRanger_18 : decode cX7_addRanger 18 = .ok (.ldc 237, 2) := by decide +kernel
theorem dX7_addRanger_20 : decode cX7_addRanger 20 = .ok (.invokespecial 77, 3) := by decide +kernel
theorem dX7_addRanger_23 : decode cX7_addRanger 23 = .ok (.athrow, 1) := by decide +kernel
theorem dX7_addRanger_24 : decode cX7_addRanger 24 = .ok (.aload_n 0, 1) := by decide +kernel
theorem dX7_addRanger_25 : decode cX7_addRanger 25 = .ok (.getfield 40, 3) := by decide +kernel
theorem dX7_addRanger_28 : decode cX7_addRanger 28 = .ok (.getfield 239, 3) := by decide +kernel
theorem dX7_addRanger_31 : decode cX7_addRanger 31 = .ok (.iconst 4, 1) := by decide +kernel
theorem dX7_addRanger_32 : decode cX7_addRanger 32 = .ok (.if_icmp .lt 13, 3) := by decide +kernel
theorem dX7_addRanger_35 : decode cX7_addRanger 35 = .ok (.new 58, 3) := by decide +kernel
theorem dX7_addRanger_38 : decode cX7_addRanger 38 = .ok (.dup, 1) := by decide +kernel
theorem dX7_addRanger_39 : decode cX7_addRanger 39 = .ok (.ldc 240, 2) := by decide +kernel
theorem dX7_addRanger_41 : decode cX7_addRanger 41 = .ok (.invokespecial 62, 3) := by decide +kernel
theorem dX7_addRanger_44 : decode cX7_addRanger 44 = .ok (.athrow, 1) := by decide +kernel
theorem dX7_addRanger_45 : decode cX7_addRanger 45 = .ok (.aload_n 0, 1) := by decide +kernel
theorem dX7_addRanger_46 : decode cX7_addRanger 46 = .ok (.getfield 40, 3) := by decide +kernel
theorem dX7_addRanger_49 : decode cX7_addRanger 49 = .ok (.iload_n 1, 1) := by decide +kernel
theorem dX7_addRanger_50 : decode cX7_addRanger 50 = .ok (.iload_n 2, 1) := by decide +kernel
theorem dX7_addRanger_51 : decode cX7_addRanger 51 = .ok (.invokevirtual 242, 3) := by decide +kernel
theorem dX7_addRanger_54 : decode cX7_addRanger 54 = .ok (.ireturn, 1) := by decide +kernel
theorem dX7_forkOf_0 : decode cX7_forkOf 0 = .ok (.aload_n 0, 1) := by decide +kernel
theorem dX7_forkOf_1 : decode cX7_forkOf 1 = .ok (.iload_n 1, 1) := by decide +kernel
theorem dX7_forkOf_2 : decode cX7_forkOf 2 = .ok (.invokevirtual 245, 3) := by decide +kernel
theorem dX7_forkOf_5 : decode cX7_forkOf 5 = .ok (.aload_n 0, 1) := by decide +kernel
theorem dX7_forkOf_6 : decode cX7_forkOf 6 = .ok (.getfield 40, 3) := by decide +kernel
theorem dX7_forkOf_9 : decode cX7_forkOf 9 = .ok (.getfield 248, 3) := by decide +kernel
theorem dX7_forkOf_12 : decode cX7_forkOf 12 = .ok (.iload_n 1, 1) := by decide +kernel
theorem dX7_forkOf_13 : decode cX7_forkOf 13 = .ok (.iaload, 1) := by decide +kernel
theorem dX7_forkOf_14 : decode cX7_forkOf 14 = .ok (.ireturn, 1) := by decide +kernel
theorem dX7_worked_0 : decode cX7_worked 0 = .ok (.aload_n 0, 1) := by decide +kernel
theorem dX7_worked_1 : decode cX7_worked 1 = .ok (.iload_n 1, 1) := by decide +kernel
theorem dX7_worked_2 : decode cX7_worked 2 = .ok (.invokevirtual 245, 3) := by decide +kernel
theorem dX7_worked_5 : decode cX7_worked 5 = .ok (.aload_n 0, 1) := by decide +kernel
theorem dX7_worked_6 : decode cX7_worked 6 = .ok (.getfield 40, 3) := by decide +kernel
theorem dX7_worked_9 : decode cX7_worked 9 = .ok (.getfield 249, 3) := by decide +kernel
theorem dX7_worked_12 : decode cX7_worked 12 = .ok (.iload_n 1, 1) := by decide +kernel
theorem dX7_worked_13 : decode cX7_worked 13 = .ok (.iaload, 1) := by decide +kernel
theorem dX7_worked_14 : decode cX7_worked 14 = .ok (.ireturn, 1) := by decide +kernel
theorem dX7_day_0 : decode cX7_day 0 = .ok (.aload_n 0, 1) := by decide +kernel
theorem dX7_day_1 : decode cX7_day 1 = .ok (.getfield 51, 3) := by decide +kernel
theorem dX7_day_4 : decode cX7_day 4 = .ok (.bipush 50, 2) := by decide +kernel
theorem dX7_day_6 : decode cX7_day 6 = .ok (.if_icmp .lt 13, 3) := by decide +kernel
theorem dX7_day_9 : decode cX7_day 9 = .ok (.new 58, 3) := by decide +kernel
theorem dX7_day_12 : decode cX7_day 12 = .ok (.dup, 1) := by decide +kernel
theorem dX7_day_13 : decode cX7_day 13 = .ok (.ldc 252, 2) := by decide +kernel
theorem dX7_day_15 : decode cX7_day 15 = .ok (.invokespecial 62, 3) := by decide +kernel
theorem dX7_day_18 : decode cX7_day 18 = .ok (.athrow, 1) := by decide +kernel
theorem dX7_day_19 : decode cX7_day 19 = .ok (.iconst 0, 1) := by decide +kernel
theorem dX7_day_20 : decode cX7_day 20 = .ok (.istore_n 1, 1) := by decide +kernel
theorem dX7_day_21 : decode cX7_day 21 = .ok (.iconst 0, 1) := by decide +kernel
theorem dX7_day_22 : decode cX7_day 22 = .ok (.istore_n 2, 1) := by decide +kernel
theorem dX7_day_23 : decode cX7_day 23 = .ok (.iload_n 2, 1) := by decide +kernel
theorem dX7_day_24 : decode cX7_day 24 = .ok (.aload_n 0, 1) := by decide +kernel
theorem dX7_day_25 : decode cX7_day 25 = .ok (.getfield 40, 3) := by decide +kernel
theorem dX7_day_28 : decode cX7_day 28 = .ok (.getfield 239, 3) := by decide +kernel
theorem dX7_day_31 : decode cX7_day 31 = .ok (.if_icmp .ge 17, 3) := by decide +kernel
theorem dX7_day_34 : decode cX7_day 34 = .ok (.iload_n 1, 1) := by decide +kernel
theorem dX7_day_35 : decode cX7_day 35 = .ok (.aload_n 0, 1) := by decide +kernel
theorem dX7_day_36 : decode cX7_day 36 = .ok (.iload_n 2, 1) := by decide +kernel
theorem dX7_day_37 : decode cX7_day 37 = .ok (.invokevirtual 254, 3) := by decide +kernel
theorem dX7_day_40 : decode cX7_day 40 = .ok (.iadd, 1) := by decide +kernel
theorem dX7_day_41 : decode cX7_day 41 = .ok (.istore_n 1, 1) := by decide +kernel
theorem dX7_day_42 : decode cX7_day 42 = .ok (.iinc 2 1, 3) := by decide +kernel
theorem dX7_day_45 : decode cX7_day 45 = .ok (.goto (-22), 3) := by decide +kernel
theorem dX7_day_48 : decode cX7_day 48 = .ok (.aload_n 0, 1) := by decide +kernel
theorem dX7_day_49 : decode cX7_day 49 = .ok (.dup, 1) := by decide +kernel
theorem dX7_day_50 : decode cX7_day 50 = .ok (.getfield 51, 3) := by decide +kernel
theorem dX7_day_53 : decode cX7_day 53 = .ok (.iconst 1, 1) := by decide +kernel
theorem dX7_day_54 : decode cX7_day 54 = .ok (.iadd, 1) := by decide +kernel
theorem dX7_day_55 : decode cX7_day 55 = .ok (.putfield 51, 3) := by decide +kernel
theorem dX7_day_58 : decode cX7_day 58 = .ok (.iload_n 1, 1) := by decide +kernel
theorem dX7_day_59 : decode cX7_day 59 = .ok (.ireturn, 1) := by decide +kernel
theorem dX7_print_0 : decode cX7_print 0 = .ok (.aload_n 0, 1) := by decide +kernel
theorem dX7_print_1 : decode cX7_print 1 = .ok (.getfield 47, 3) := by decide +kernel
theorem dX7_print_4 : decode cX7_print 4 = .ok (.getfield 257, 3) := by decide +kernel
theorem dX7_print_7 : decode cX7_print 7 = .ok (.bipush 10, 2) := by decide +kernel
theorem dX7_print_9 : decode cX7_print 9 = .ok (.if_icmp .lt 14, 3) := by decide +kernel
theorem dX7_print_12 : decode cX7_print 12 = .ok (.new 58, 3) := by decide +kernel
theorem dX7_print_15 : decode cX7_print 15 = .ok (.dup, 1) := by decide +kernel
theorem dX7_print_16 : decode cX7_print 16 = .ok (.ldc_w 258, 3) := by decide +kernel
theorem dX7_print_19 : decode cX7_print 19 = .ok (.invokespecial 62, 3) := by decide +kernel
theorem dX7_print_22 : decode cX7_print 22 = .ok (.athrow, 1) := by decide +kernel
theorem dX7_print_23 : decode cX7_print 23 = .ok (.aload_n 0, 1) := by decide +kernel
theorem dX7_print_24 : decode cX7_print 24 = .ok (.getfield 47, 3) := by decide +kernel
theorem dX7_print_27 : decode cX7_print 27 = .ok (.aload_n 0, 1) := by decide +kernel
theorem dX7_print_28 : decode cX7_print 28 = .ok (.getfield 10, 3) := by decide +kernel
theorem dX7_print_31 : decode cX7_print 31 = .ok (.aload_n 0, 1) := by decide +kernel
theorem dX7_print_32 : decode cX7_print 32 = .ok (.getfield 51, 3) := by decide +kernel
theorem dX7_print_35 : decode cX7_print 35 = .ok (.invokevirtual 260, 3) := by decide +kernel
theorem dX7_print_38 : decode cX7_print 38 = .ok (.ireturn, 1) := by decide +kernel
theorem dX7_shows_0 : decode cX7_shows 0 = .ok (.aload_n 0, 1) := by decide +kernel
theorem dX7_shows_1 : decode cX7_shows 1 = .ok (.iload_n 1, 1) := by decide +kernel
theorem dX7_shows_2 : decode cX7_shows 2 = .ok (.invokevirtual 264, 3) := by decide +kernel
theorem dX7_shows_5 : decode cX7_shows 5 = .ok (.aload_n 0, 1) := by decide +kernel
theorem dX7_shows_6 : decode cX7_shows 6 = .ok (.iload_n 2, 1) := by decide +kernel
theorem dX7_shows_7 : decode cX7_shows 7 = .ok (.invokevirtual 90, 3) := by decide +kernel
theorem dX7_shows_10 : decode cX7_shows 10 = .ok (.aload_n 0, 1) := by decide +kernel
theorem dX7_shows_11 : decode cX7_shows 11 = .ok (.getfield 47, 3) := by decide +kernel
theorem dX7_shows_14 : decode cX7_shows 14 = .ok (.iload_n 1, 1) := by decide +kernel
theorem dX7_shows_15 : decode cX7_shows 15 = .ok (.iload_n 2, 1) := by decide +kernel
theorem dX7_shows_16 : decode cX7_shows 16 = .ok (.invokevirtual 267, 3) := by decide +kernel
theorem dX7_shows_19 : decode cX7_shows 19 = .ok (.ireturn, 1) := by decide +kernel
theorem dX7_age_0 : decode cX7_age 0 = .ok (.aload_n 0, 1) := by decide +kernel
theorem dX7_age_1 : decode cX7_age 1 = .ok (.iload_n 1, 1) := by decide +kernel
theorem dX7_age_2 : decode cX7_age 2 = .ok (.invokevirtual 264, 3) := by decide +kernel
theorem dX7_age_5 : decode cX7_age 5 = .ok (.aload_n 0, 1) := by decide +kernel
theorem dX7_age_6 : decode cX7_age 6 = .ok (.getfield 51, 3) := by decide +kernel
theorem dX7_age_9 : decode cX7_age 9 = .ok (.aload_n 0, 1) := by decide +kernel
theorem dX7_age_10 : decode cX7_age 10 = .ok (.getfield 47, 3) := by decide +kernel
theorem dX7_age_13 : decode cX7_age 13 = .ok (.getfield 270, 3) := by decide +kernel
theorem dX7_age_16 : decode cX7_age 16 = .ok (.iload_n 1, 1) := by decide +kernel
theorem dX7_age_17 : decode cX7_age 17 = .ok (.iaload, 1) := by decide +kernel
theorem dX7_age_18 : decode cX7_age 18 = .ok (.isub, 1) := by decide +kernel
theorem dX7_age_19 : decode cX7_age 19 = .ok (.ireturn, 1) := by decide +kernel
theorem dX7_knownShare_0 : decode cX7_knownShare 0 = .ok (.aload_n 0, 1) := by decide +kernel
theorem dX7_knownShare_1 : decode cX7_knownShare 1 = .ok (.getfield 10, 3) := by decide +kernel
theorem dX7_knownShare_4 : decode cX7_knownShare 4 = .ok (.getfield 81, 3) := by decide +kernel
theorem dX7_knownShare_7 : decode cX7_knownShare 7 = .ok (.iconst 1, 1) := by decide +kernel
theorem dX7_knownShare_8 : decode cX7_knownShare 8 = .ok (.if_icmp .ge 14, 3) := by decide +kernel
theorem dX7_knownShare_11 : decode cX7_knownShare 11 = .ok (.new 273, 3) := by decide +kernel
theorem dX7_knownShare_14 : decode cX7_knownShare 14 = .ok (.dup, 1) := by decide +kernel
theorem dX7_knownShare_15 : decode cX7_knownShare 15 = .ok (.ldc_w 275, 3) := by decide +kernel
theorem dX7_knownShare_18 : decode cX7_knownShare 18 = .ok (.invokespecial 277, 3) := by decide +kernel
theorem dX7_knownShare_21 : decode cX7_knownShare 21 = .ok (.athrow, 1) := by decide +kernel
theorem dX7_knownShare_22 : decode cX7_knownShare 22 = .ok (.iconst 0, 1) := by decide +kernel
theorem dX7_knownShare_23 : decode cX7_knownShare 23 = .ok (.istore_n 1, 1) := by decide +kernel
theorem dX7_knownShare_24 : decode cX7_knownShare 24 = .ok (.iconst 0, 1) := by decide +kernel
theorem dX7_knownShare_25 : decode cX7_knownShare 25 = .ok (.istore_n 2, 1) := by decide +kernel
theorem dX7_knownShare_26 : decode cX7_knownShare 26 = .ok (.iload_n 2, 1) := by decide +kernel
theorem dX7_knownShare_27 : decode cX7_knownShare 27 = .ok (.aload_n 0, 1) := by decide +kernel
theorem dX7_knownShare_28 : decode cX7_knownShare 28 = .ok (.getfield 10, 3) := by decide +kernel
theorem dX7_knownShare_31 : decode cX7_knownShare 31 = .ok (.getfield 81, 3) := by decide +kernel
theorem dX7_knownShare_34 : decode cX7_knownShare 34 = .ok (.if_icmp .ge 39, 3) := by decide +kernel
theorem dX7_knownShare_37 : decode cX7_knownShare 37 = .ok (.aload_n 0, 1) := by decide +kernel
theorem dX7_knownShare_38 : decode cX7_knownShare 38 = .ok (.getfield 10, 3) := by decide +kernel
theorem dX7_knownShare_41 : decode cX7_knownShare 41 = .ok (.getfield 181, 3) := by decide +kernel
theorem dX7_knownShare_44 : decode cX7_knownShare 44 = .ok (.getfield 97, 3) := by decide +kernel
theorem dX7_knownShare_47 : decode cX7_knownShare 47 = .ok (.iload_n 2, 1) := by decide +kernel
theorem dX7_knownShare_48 : decode cX7_knownShare 48 = .ok (.baload, 1) := by decide +kernel
theorem dX7_knownShare_49 : decode cX7_knownShare 49 = .ok (.aload_n 0, 1) := by decide +kernel
theorem dX7_knownShare_50 : decode cX7_knownShare 50 = .ok (.getfield 10, 3) := by decide +kernel
theorem dX7_knownShare_53 : decode cX7_knownShare 53 = .ok (.getfield 93, 3) := by decide +kernel
theorem dX7_knownShare_56 : decode cX7_knownShare 56 = .ok (.getfield 97, 3) := by decide +kernel
theorem dX7_knownShare_59 : decode cX7_knownShare 59 = .ok (.iload_n 2, 1) := by decide +kernel
theorem dX7_knownShare_60 : decode cX7_knownShare 60 = .ok (.baload, 1) := by decide +kernel
theorem dX7_knownShare_61 : decode cX7_knownShare 61 = .ok (.if_icmp .ne 6, 3) := by decide +kernel
theorem dX7_knownShare_64 : decode cX7_knownShare 64 = .ok (.iinc 1 1, 3) := by decide +kernel
theorem dX7_knownShare_67 : decode cX7_knownShare 67 = .ok (.iinc 2 1, 3) := by decide +kernel
theorem dX7_knownShare_70 : decode cX7_knownShare 70 = .ok (.goto (-44), 3) := by decide +kernel
theorem dX7_knownShare_73 : decode cX7_knownShare 73 = .ok (.iload_n 1, 1) := by decide +kernel
theorem dX7_knownShare_74 : decode cX7_knownShare 74 = .ok (.i2f, 1) := by decide +kernel
theorem dX7_knownShare_75 : decode cX7_knownShare 75 = .ok (.aload_n 0, 1) := by decide +kernel
theorem dX7_knownShare_76 : decode cX7_knownShare 76 = .ok (.getfield 10, 3) := by decide +kernel
theorem dX7_knownShare_79 : decode cX7_knownShare 79 = .ok (.getfield 81, 3) := by decide +kernel
theorem dX7_knownShare_82 : decode cX7_knownShare 82 = .ok (.i2f, 1) := by decide +kernel
theorem dX7_knownShare_83 : decode cX7_knownShare 83 = .ok (.fdiv, 1) := by decide +kernel
theorem dX7_knownShare_84 : decode cX7_knownShare 84 = .ok (.freturn, 1) := by decide +kernel
theorem dX7_meanDanger_0 : decode cX7_meanDanger 0 = .ok (.aload_n 0, 1) := by decide +kernel
theorem dX7_meanDanger_1 : decode cX7_meanDanger 1 = .ok (.getfield 19, 3) := by decide +kernel
theorem dX7_meanDanger_4 : decode cX7_meanDanger 4 = .ok (.getfield 143, 3) := by decide +kernel
theorem dX7_meanDanger_7 : decode cX7_meanDanger 7 = .ok (.iconst 1, 1) := by decide +kernel
theorem dX7_meanDanger_8 : decode cX7_meanDanger 8 = .ok (.if_icmp .ge 14, 3) := by decide +kernel
theorem dX7_meanDanger_11 : decode cX7_meanDanger 11 = .ok (.new 273, 3) := by decide +kernel
theorem dX7_meanDanger_14 : decode cX7_meanDanger 14 = .ok (.dup, 1) := by decide +kernel
theorem dX7_meanDanger_15 : decode cX7_meanDanger 15 = .ok (.ldc_w 278, 3) := by decide +kernel
theorem dX7_meanDanger_18 : decode cX7_meanDanger 18 = .ok (.invokespecial 277, 3) := by decide +kernel
theorem dX7_meanDanger_21 : decode cX7_meanDanger 21 = .ok (.athrow, 1) := by decide +kernel
theorem dX7_meanDanger_22 : decode cX7_meanDanger 22 = .ok (.iconst 0, 1) := by decide +kernel
theorem dX7_meanDanger_23 : decode cX7_meanDanger 23 = .ok (.istore_n 1, 1) := by decide +kernel
theorem dX7_meanDanger_24 : decode cX7_meanDanger 24 = .ok (.iconst 0, 1) := by decide +kernel
theorem dX7_meanDanger_25 : decode cX7_meanDanger 25 = .ok (.istore_n 2, 1) := by decide +kernel
theorem dX7_meanDanger_26 : decode cX7_meanDanger 26 = .ok (.iload_n 2, 1) := by decide +kernel
theorem dX7_meanDanger_27 : decode cX7_meanDanger 27 = .ok (.aload_n 0, 1) := by decide +kernel
theorem dX7_meanDanger_28 : decode cX7_meanDanger 28 = .ok (.getfield 19, 3) := by decide +kernel
theorem dX7_meanDanger_31 : decode cX7_meanDanger 31 = .ok (.getfield 143, 3) := by decide +kernel
theorem dX7_meanDanger_34 : decode cX7_meanDanger 34 = .ok (.if_icmp .ge 31, 3) := by decide +kernel
theorem dX7_meanDanger_37 : decode cX7_meanDanger 37 = .ok (.iload_n 1, 1) := by decide +kernel
theorem dX7_meanDanger_38 : decode cX7_meanDanger 38 = .ok (.aload_n 0, 1) := by decide +kernel
theorem dX7_meanDanger_39 : decode cX7_meanDanger 39 = .ok (.getfield 19, 3) := by decide +kernel
theorem dX7_meanDanger_42 : decode cX7_meanDanger 42 = .ok (.iload_n 2, 1) := by decide +kernel
theorem dX7_meanDanger_43 : decode cX7_meanDanger 43 = .ok (.aload_n 0, 1) := by decide +kernel
theorem dX7_meanDanger_44 : decode cX7_meanDanger 44 = .ok (.getfield 10, 3) := by decide +kernel
theorem dX7_meanDanger_47 : decode cX7_meanDanger 47 = .ok (.aload_n 0, 1) := by decide +kernel
theorem dX7_meanDanger_48 : decode cX7_meanDanger 48 = .ok (.getfield 10, 3) := by decide +kernel
theorem dX7_meanDanger_51 : decode cX7_meanDanger 51 = .ok (.getfield 181, 3) := by decide +kernel
theorem dX7_meanDanger_54 : decode cX7_meanDanger 54 = .ok (.invokevirtual 170, 3) := by decide +kernel
theorem dX7_meanDanger_57 : decode cX7_meanDanger 57 = .ok (.iadd, 1) := by decide +kernel
theorem dX7_meanDanger_58 : decode cX7_meanDanger 58 = .ok (.istore_n 1, 1) := by decide +kernel
theorem dX7_meanDanger_59 : decode cX7_meanDanger 59 = .ok (.iinc 2 1, 3) := by decide +kernel
theorem dX7_meanDanger_62 : decode cX7_meanDanger 62 = .ok (.goto (-36), 3) := by decide +kernel
theorem dX7_meanDanger_65 : decode cX7_meanDanger 65 = .ok (.iload_n 1, 1) := by decide +kernel
theorem dX7_meanDanger_66 : decode cX7_meanDanger 66 = .ok (.i2d, 1) := by decide +kernel
theorem dX7_meanDanger_67 : decode cX7_meanDanger 67 = .ok (.aload_n 0, 1) := by decide +kernel
theorem dX7_meanDanger_68 : decode cX7_meanDanger 68 = .ok (.getfield 19, 3) := by decide +kernel
theorem dX7_meanDanger_71 : decode cX7_meanDanger 71 = .ok (.getfield 143, 3) := by decide +kernel
theorem dX7_meanDanger_74 : decode cX7_meanDanger 74 = .ok (.i2d, 1) := by decide +kernel
theorem dX7_meanDanger_75 : decode cX7_meanDanger 75 = .ok (.ddiv, 1) := by decide +kernel
theorem dX7_meanDanger_76 : decode cX7_meanDanger 76 = .ok (.dreturn, 1) := by decide +kernel
theorem dX7_isSound_0 : decode cX7_isSound 0 = .ok (.aload_n 0, 1) := by decide +kernel
theorem dX7_isSound_1 : decode cX7_isSound 1 = .ok (.getfield 10, 3) := by decide +kernel
theorem dX7_isSound_4 : decode cX7_isSound 4 = .ok (.aload_n 0, 1) := by decide +kernel
theorem dX7_isSound_5 : decode cX7_isSound 5 = .ok (.getfield 10, 3) := by decide +kernel
theorem dX7_isSound_8 : decode cX7_isSound 8 = .ok (.getfield 93, 3) := by decide +kernel
theorem dX7_isSound_11 : decode cX7_isSound 11 = .ok (.invokevirtual 280, 3) := by decide +kernel
theorem dX7_isSound_14 : decode cX7_isSound 14 = .ok (.ifCond .eq 41, 3) := by decide +kernel
theorem dX7_isSound_17 : decode cX7_isSound 17 = .ok (.aload_n 0, 1) := by decide +kernel
theorem dX7_isSound_18 : decode cX7_isSound 18 = .ok (.getfield 10, 3) := by decide +kernel
theorem dX7_isSound_21 : decode cX7_isSound 21 = .ok (.aload_n 0, 1) := by decide +kernel
theorem dX7_isSound_22 : decode cX7_isSound 22 = .ok (.getfield 10, 3) := by decide +kernel
theorem dX7_isSound_25 : decode cX7_isSound 25 = .ok (.getfield 181, 3) := by decide +kernel
theorem dX7_isSound_28 : decode cX7_isSound 28 = .ok (.invokevirtual 280, 3) := by decide +kernel
theorem dX7_isSound_31 : decode cX7_isSound 31 = .ok (.ifCond .eq 24, 3) := by decide +kernel
theorem dX7_isSound_34 : decode cX7_isSound 34 = .ok (.aload_n 0, 1) := by decide +kernel
theorem dX7_isSound_35 : decode cX7_isSound 35 = .ok (.getfield 33, 3) := by decide +kernel
theorem dX7_isSound_38 : decode cX7_isSound 38 = .ok (.aload_n 0, 1) := by decide +kernel
theorem dX7_isSound_39 : decode cX7_isSound 39 = .ok (.getfield 40, 3) := by decide +kernel
theorem dX7_isSound_42 : decode cX7_isSound 42 = .ok (.getfield 239, 3) := by decide +kernel
theorem dX7_isSound_45 : decode cX7_isSound 45 = .ok (.invokevirtual 284, 3) := by decide +kernel
theorem dX7_isSound_48 : decode cX7_isSound 48 = .ok (.ifCond .eq 7, 3) := by decide +kernel
theorem dX7_isSound_51 : decode cX7_isSound 51 = .ok (.iconst 1, 1) := by decide +kernel
theorem dX7_isSound_52 : decode cX7_isSound 52 = .ok (.goto 4, 3) := by decide +kernel
theorem dX7_isSound_55 : decode cX7_isSound 55 = .ok (.iconst 0, 1) := by decide +kernel
theorem dX7_isSound_56 : decode cX7_isSound 56 = .ok (.ireturn, 1) := by decide +kernel
theorem dX7_requireFork_0 : decode cX7_requireFork 0 = .ok (.iload_n 1, 1) := by decide +kernel
theorem dX7_requireFork_1 : decode cX7_requireFork 1 = .ok (.ifCond .lt 14, 3) := by decide +kernel
theorem dX7_requireFork_4 : decode cX7_requireFork 4 = .ok (.iload_n 1, 1) := by decide +kernel
theorem dX7_requireFork_5 : decode cX7_requireFork 5 = .ok (.aload_n 0, 1) := by decide +kernel
theorem dX7_requireFork_6 : decode cX7_requireFork 6 = .ok (.getfield 10, 3) := by decide +kernel
theorem dX7_requireFork_9 : decode cX7_requireFork 9 = .ok (.getfield 55, 3) := by decide +kernel
theorem dX7_requireFork_12 : decode cX7_requireFork 12 = .ok (.if_icmp .lt 14, 3) := by decide +kernel
theorem dX7_requireFork_15 : decode cX7_requireFork 15 = .ok (.new 287, 3) := by decide +kernel
theorem dX7_requireFork_18 : decode cX7_requireFork 18 = .ok (.dup, 1) := by decide +kernel
theorem dX7_requireFork_19 : decode cX7_requireFork 19 = .ok (.ldc_w 289, 3) := by decide +kernel
theorem dX7_requireFork_22 : decode cX7_requireFork 22 = .ok (.invokespecial 291, 3) := by decide +kernel
theorem dX7_requireFork_25 : decode cX7_requireFork 25 = .ok (.athrow, 1) := by decide +kernel
theorem dX7_requireFork_26 : decode cX7_requireFork 26 = .ok (.return_, 1) := by decide +kernel
theorem dX7_requireTrail_0 : decode cX7_requireTrail 0 = .ok (.iload_n 1, 1) := by decide +kernel
theorem dX7_requireTrail_1 : decode cX7_requireTrail 1 = .ok (.ifCond .lt 14, 3) := by decide +kernel
theorem dX7_requireTrail_4 : decode cX7_requireTrail 4 = .ok (.iload_n 1, 1) := by decide +kernel
theorem dX7_requireTrail_5 : decode cX7_requireTrail 5 = .ok (.aload_n 0, 1) := by decide +kernel
theorem dX7_requireTrail_6 : decode cX7_requireTrail 6 = .ok (.getfield 10, 3) := by decide +kernel
theorem dX7_requireTrail_9 : decode cX7_requireTrail 9 = .ok (.getfield 81, 3) := by decide +kernel
theorem dX7_requireTrail_12 : decode cX7_requireTrail 12 = .ok (.if_icmp .lt 14, 3) := by decide +kernel
theorem dX7_requireTrail_15 : decode cX7_requireTrail 15 = .ok (.new 287, 3) := by decide +kernel
theorem dX7_requireTrail_18 : decode cX7_requireTrail 18 = .ok (.dup, 1) := by decide +kernel
theorem dX7_requireTrail_19 : decode cX7_requireTrail 19 = .ok (.ldc_w 292, 3) := by decide +kernel
theorem dX7_requireTrail_22 : decode cX7_requireTrail 22 = .ok (.invokespecial 291, 3) := by decide +kernel
theorem dX7_requireTrail_25 : decode cX7_requireTrail 25 = .ok (.athrow, 1) := by decide +kernel
theorem dX7_requireTrail_26 : decode cX7_requireTrail 26 = .ok (.return_, 1) := by decide +kernel
theorem dX7_requireBoard_0 : decode cX7_requireBoard 0 = .ok (.iload_n 1, 1) := by decide +kernel
theorem dX7_requireBoard_1 : decode cX7_requireBoard 1 = .ok (.ifCond .lt 14, 3) := by decide +kernel
theorem dX7_requireBoard_4 : decode cX7_requireBoard 4 = .ok (.iload_n 1, 1) := by decide +kernel
theorem dX7_requireBoard_5 : decode cX7_requireBoard 5 = .ok (.aload_n 0, 1) := by decide +kernel
theorem dX7_requireBoard_6 : decode cX7_requireBoard 6 = .ok (.getfield 19, 3) := by decide +kernel
theorem dX7_requireBoard_9 : decode cX7_requireBoard 9 = .ok (.getfield 143, 3) := by decide +kernel
theorem dX7_requireBoard_12 : decode cX7_requireBoard 12 = .ok (.if_icmp .lt 14, 3) := by decide +kernel
theorem dX7_requireBoard_15 : decode cX7_requireBoard 15 = .ok (.new 287, 3) := by decide +kernel
theorem dX7_requireBoard_18 : decode cX7_requireBoard 18 = .ok (.dup, 1) := by decide +kernel
theorem dX7_requireBoard_19 : decode cX7_requireBoard 19 = .ok (.ldc_w 294, 3) := by decide +kernel
theorem dX7_requireBoard_22 : decode cX7_requireBoard 22 = .ok (.invokespecial 291, 3) := by decide +kernel
theorem dX7_requireBoard_25 : decode cX7_requireBoard 25 = .ok (.athrow, 1) := by decide +kernel
theorem dX7_requireBoard_26 : decode cX7_requireBoard 26 = .ok (.return_, 1) := by decide +kernel
theorem dX7_requireTask_0 : decode cX7_requireTask 0 = .ok (.iload_n 1, 1) := by decide +kernel
theorem dX7_requireTask_1 : decode cX7_requireTask 1 = .ok (.ifCond .lt 14, 3) := by decide +kernel
theorem dX7_requireTask_4 : decode cX7_requireTask 4 = .ok (.iload_n 1, 1) := by decide +kernel
theorem dX7_requireTask_5 : decode cX7_requireTask 5 = .ok (.aload_n 0, 1) := by decide +kernel
theorem dX7_requireTask_6 : decode cX7_requireTask 6 = .ok (.getfield 33, 3) := by decide +kernel
theorem dX7_requireTask_9 : decode cX7_requireTask 9 = .ok (.getfield 236, 3) := by decide +kernel
theorem dX7_requireTask_12 : decode cX7_requireTask 12 = .ok (.if_icmp .lt 14, 3) := by decide +kernel
theorem dX7_requireTask_15 : decode cX7_requireTask 15 = .ok (.new 287, 3) := by decide +kernel
theorem dX7_requireTask_18 : decode cX7_requireTask 18 = .ok (.dup, 1) := by decide +kernel
theorem dX7_requireTask_19 : decode cX7_requireTask 19 = .ok (.ldc_w 296, 3) := by decide +kernel
theorem dX7_requireTask_22 : decode cX7_requireTask 22 = .ok (.invokespecial 291, 3) := by decide +kernel
theorem dX7_requireTask_25 : decode cX7_requireTask 25 = .ok (.athrow, 1) := by decide +kernel
theorem dX7_requireTask_26 : decode cX7_requireTask 26 = .ok (.return_, 1) := by decide +kernel
theorem dX7_requireRanger_0 : decode cX7_requireRanger 0 = .ok (.iload_n 1, 1) := by decide +kernel
theorem dX7_requireRanger_1 : decode cX7_requireRanger 1 = .ok (.ifCond .lt 14, 3) := by decide +kernel
theorem dX7_requireRanger_4 : decode cX7_requireRanger 4 = .ok (.iload_n 1, 1) := by decide +kernel
theorem dX7_requireRanger_5 : decode cX7_requireRanger 5 = .ok (.aload_n 0, 1) := by decide +kernel
theorem dX7_requireRanger_6 : decode cX7_requireRanger 6 = .ok (.getfield 40, 3) := by decide +kernel
theorem dX7_requireRanger_9 : decode cX7_requireRanger 9 = .ok (.getfield 239, 3) := by decide +kernel
theorem dX7_requireRanger_12 : decode cX7_requireRanger 12 = .ok (.if_icmp .lt 14, 3) := by decide +kernel
theorem dX7_requireRanger_15 : decode cX7_requireRanger 15 = .ok (.new 287, 3) := by decide +kernel
theorem dX7_requireRanger_18 : decode cX7_requireRanger 18 = .ok (.dup, 1) := by decide +kernel
theorem dX7_requireRanger_19 : decode cX7_requireRanger 19 = .ok (.ldc_w 298, 3) := by decide +kernel
theorem dX7_requireRanger_22 : decode cX7_requireRanger 22 = .ok (.invokespecial 291, 3) := by decide +kernel
theorem dX7_requireRanger_25 : decode cX7_requireRanger 25 = .ok (.athrow, 1) := by decide +kernel
theorem dX7_requireRanger_26 : decode cX7_requireRanger 26 = .ok (.return_, 1) := by decide +kernel
theorem dX7_requireMap_0 : decode cX7_requireMap 0 = .ok (.iload_n 1, 1) := by decide +kernel
theorem dX7_requireMap_1 : decode cX7_requireMap 1 = .ok (.ifCond .lt 14, 3) := by decide +kernel
theorem dX7_requireMap_4 : decode cX7_requireMap 4 = .ok (.iload_n 1, 1) := by decide +kernel
theorem dX7_requireMap_5 : decode cX7_requireMap 5 = .ok (.aload_n 0, 1) := by decide +kernel
theorem dX7_requireMap_6 : decode cX7_requireMap 6 = .ok (.getfield 47, 3) := by decide +kernel
theorem dX7_requireMap_9 : decode cX7_requireMap 9 = .ok (.getfield 257, 3) := by decide +kernel
theorem dX7_requireMap_12 : decode cX7_requireMap 12 = .ok (.if_icmp .lt 14, 3) := by decide +kernel
theorem dX7_requireMap_15 : decode cX7_requireMap 15 = .ok (.new 287, 3) := by decide +kernel
theorem dX7_requireMap_18 : decode cX7_requireMap 18 = .ok (.dup, 1) := by decide +kernel
theorem dX7_requireMap_19 : decode cX7_requireMap 19 = .ok (.ldc_w 300, 3) := by decide +kernel
theorem dX7_requireMap_22 : decode cX7_requireMap 22 = .ok (.invokespecial 291, 3) := by decide +kernel
theorem dX7_requireMap_25 : decode cX7_requireMap 25 = .ok (.athrow, 1) := by decide +kernel
theorem dX7_requireMap_26 : decode cX7_requireMap 26 = .ok (.return_, 1) := by decide +kernel
theorem dX7_requireWalker_0 : decode cX7_requireWalker 0 = .ok (.iload_n 1, 1) := by decide +kernel
theorem dX7_requireWalker_1 : decode cX7_requireWalker 1 = .ok (.ifCond .lt 9, 3) := by decide +kernel
theorem dX7_requireWalker_4 : decode cX7_requireWalker 4 = .ok (.iload_n 1, 1) := by decide +kernel
theorem dX7_requireWalker_5 : decode cX7_requireWalker 5 = .ok (.bipush 10, 2) := by decide +kernel
theorem dX7_requireWalker_7 : decode cX7_requireWalker 7 = .ok (.if_icmp .lt 14, 3) := by decide +kernel
theorem dX7_requireWalker_10 : decode cX7_requireWalker 10 = .ok (.new 73, 3) := by decide +kernel
theorem dX7_requireWalker_13 : decode cX7_requireWalker 13 = .ok (.dup, 1) := by decide +kernel
theorem dX7_requireWalker_14 : decode cX7_requireWalker 14 = .ok (.ldc_w 302, 3) := by decide +kernel
theorem dX7_requireWalker_17 : decode cX7_requireWalker 17 = .ok (.invokespecial 77, 3) := by decide +kernel
theorem dX7_requireWalker_20 : decode cX7_requireWalker 20 = .ok (.athrow, 1) := by decide +kernel
theorem dX7_requireWalker_21 : decode cX7_requireWalker 21 = .ok (.return_, 1) := by decide +kernel
theorem dX7_requireTrailMinutes_0 : decode cX7_requireTrailMinutes 0 = .ok (.iload_n 1, 1) := by decide +kernel
theorem dX7_requireTrailMinutes_1 : decode cX7_requireTrailMinutes 1 = .ok (.iconst 1, 1) := by decide +kernel
theorem dX7_requireTrailMinutes_2 : decode cX7_requireTrailMinutes 2 = .ok (.if_icmp .lt 10, 3) := by decide +kernel
theorem dX7_requireTrailMinutes_5 : decode cX7_requireTrailMinutes 5 = .ok (.iload_n 1, 1) := by decide +kernel
theorem dX7_requireTrailMinutes_6 : decode cX7_requireTrailMinutes 6 = .ok (.sipush 300, 3) := by decide +kernel
theorem dX7_requireTrailMinutes_9 : decode cX7_requireTrailMinutes 9 = .ok (.if_icmp .le 14, 3) := by decide +kernel
theorem dX7_requireTrailMinutes_12 : decode cX7_requireTrailMinutes 12 = .ok (.new 73, 3) := by decide +kernel
theorem dX7_requireTrailMinutes_15 : decode cX7_requireTrailMinutes 15 = .ok (.dup, 1) := by decide +kernel
theorem dX7_requireTrailMinutes_16 : decode cX7_requireTrailMinutes 16 = .ok (.ldc_w 304, 3) := by decide +kernel
theorem dX7_requireTrailMinutes_19 : decode cX7_requireTrailMinutes 19 = .ok (.invokespecial 77, 3) := by decide +kernel
theorem dX7_requireTrailMinutes_22 : decode cX7_requireTrailMinutes 22 = .ok (.athrow, 1) := by decide +kernel
theorem dX7_requireTrailMinutes_23 : decode cX7_requireTrailMinutes 23 = .ok (.return_, 1) := by decide +kernel
theorem dX7_canTell_0 : decode cX7_canTell 0 = .ok (.aload_n 0, 1) := by decide +kernel
theorem dX7_canTell_1 : decode cX7_canTell 1 = .ok (.getfield 10, 3) := by decide +kernel
theorem dX7_canTell_4 : decode cX7_canTell 4 = .ok (.getfield 181, 3) := by decide +kernel
theorem dX7_canTell_7 : decode cX7_canTell 7 = .ok (.iload_n 1, 1) := by decide +kernel
theorem dX7_canTell_8 : decode cX7_canTell 8 = .ok (.iload_n 2, 1) := by decide +kernel
theorem dX7_canTell_9 : decode cX7_canTell 9 = .ok (.invokevirtual 110, 3) := by decide +kernel
theorem dX7_canTell_12 : decode cX7_canTell 12 = .ok (.sipush 300, 3) := by decide +kernel
theorem dX7_canTell_15 : decode cX7_canTell 15 = .ok (.if_icmp .gt 7, 3) := by decide +kernel
theorem dX7_canTell_18 : decode cX7_canTell 18 = .ok (.iconst 1, 1) := by decide +kernel
theorem dX7_canTell_19 : decode cX7_canTell 19 = .ok (.goto 4, 3) := by decide +kernel
theorem dX7_canTell_22 : decode cX7_canTell 22 = .ok (.iconst 0, 1) := by decide +kernel
theorem dX7_canTell_23 : decode cX7_canTell 23 = .ok (.ireturn, 1) := by decide +kernel
theorem dX7_putUp_0 : decode cX7_putUp 0 = .ok (.aload_n 0, 1) := by decide +kernel
theorem dX7_putUp_1 : decode cX7_putUp 1 = .ok (.getfield 19, 3) := by decide +kernel
theorem dX7_putUp_4 : decode cX7_putUp 4 = .ok (.getfield 148, 3) := by decide +kernel
theorem dX7_putUp_7 : decode cX7_putUp 7 = .ok (.iload_n 1, 1) := by decide +kernel
theorem dX7_putUp_8 : decode cX7_putUp 8 = .ok (.iaload, 1) := by decide +kernel
theorem dX7_putUp_9 : decode cX7_putUp 9 = .ok (.istore_n 2, 1) := by decide +kernel
theorem dX7_putUp_10 : decode cX7_putUp 10 = .ok (.aload_n 0, 1) := by decide +kernel
theorem dX7_putUp_11 : decode cX7_putUp 11 = .ok (.getfield 19, 3) := by decide +kernel
theorem dX7_putUp_14 : decode cX7_putUp 14 = .ok (.getfield 152, 3) := by decide +kernel
theorem dX7_putUp_17 : decode cX7_putUp 17 = .ok (.iload_n 1, 1) := by decide +kernel
theorem dX7_putUp_18 : decode cX7_putUp 18 = .ok (.iaload, 1) := by decide +kernel
theorem dX7_putUp_19 : decode cX7_putUp 19 = .ok (.istore_n 3, 1) := by decide +kernel
theorem dX7_putUp_20 : decode cX7_putUp 20 = .ok (.aload_n 0, 1) := by decide +kernel
theorem dX7_putUp_21 : decode cX7_putUp 21 = .ok (.getfield 10, 3) := by decide +kernel
theorem dX7_putUp_24 : decode cX7_putUp 24 = .ok (.iload_n 2, 1) := by decide +kernel
theorem dX7_putUp_25 : decode cX7_putUp 25 = .ok (.iload_n 3, 1) := by decide +kernel
theorem dX7_putUp_26 : decode cX7_putUp 26 = .ok (.invokevirtual 120, 3) := by decide +kernel
theorem dX7_putUp_29 : decode cX7_putUp 29 = .ok (.istore 4, 2) := by decide +kernel
theorem dX7_putUp_31 : decode cX7_putUp 31 = .ok (.iload 4, 2) := by decide +kernel
theorem dX7_putUp_33 : decode cX7_putUp 33 = .ok (.iconst (-1), 1) := by decide +kernel
theorem dX7_putUp_34 : decode cX7_putUp 34 = .ok (.if_icmp .eq 14, 3) := by decide +kernel
theorem dX7_putUp_37 : decode cX7_putUp 37 = .ok (.aload_n 0, 1) := by decide +kernel
theorem dX7_putUp_38 : decode cX7_putUp 38 = .ok (.getfield 19, 3) := by decide +kernel
theorem dX7_putUp_41 : decode cX7_putUp 41 = .ok (.getfield 161, 3) := by decide +kernel
theorem dX7_putUp_44 : decode cX7_putUp 44 = .ok (.iload_n 1, 1) := by decide +kernel
theorem dX7_putUp_45 : decode cX7_putUp 45 = .ok (.iload 4, 2) := by decide +kernel
theorem dX7_putUp_47 : decode cX7_putUp 47 = .ok (.iastore, 1) := by decide +kernel
theorem dX7_putUp_48 : decode cX7_putUp 48 = .ok (.aload_n 0, 1) := by decide +kernel
theorem dX7_putUp_49 : decode cX7_putUp 49 = .ok (.getfield 19, 3) := by decide +kernel
theorem dX7_putUp_52 : decode cX7_putUp 52 = .ok (.getfield 164, 3) := by decide +kernel
theorem dX7_putUp_55 : decode cX7_putUp 55 = .ok (.iload_n 1, 1) := by decide +kernel
theorem dX7_putUp_56 : decode cX7_putUp 56 = .ok (.aload_n 0, 1) := by decide +kernel
theorem dX7_putUp_57 : decode cX7_putUp 57 = .ok (.getfield 10, 3) := by decide +kernel
theorem dX7_putUp_60 : decode cX7_putUp 60 = .ok (.getfield 181, 3) := by decide +kernel
theorem dX7_putUp_63 : decode cX7_putUp 63 = .ok (.iload_n 2, 1) := by decide +kernel
theorem dX7_putUp_64 : decode cX7_putUp 64 = .ok (.iload_n 3, 1) := by decide +kernel
theorem dX7_putUp_65 : decode cX7_putUp 65 = .ok (.invokevirtual 110, 3) := by decide +kernel
theorem dX7_putUp_68 : decode cX7_putUp 68 = .ok (.invokestatic 306, 3) := by decide +kernel
theorem dX7_putUp_71 : decode cX7_putUp 71 = .ok (.iastore, 1) := by decide +kernel
theorem dX7_putUp_72 : decode cX7_putUp 72 = .ok (.aload_n 0, 1) := by decide +kernel
theorem dX7_putUp_73 : decode cX7_putUp 73 = .ok (.getfield 19, 3) := by decide +kernel
theorem dX7_putUp_76 : decode cX7_putUp 76 = .ok (.getfield 167, 3) := by decide +kernel
theorem dX7_putUp_79 : decode cX7_putUp 79 = .ok (.iload_n 1, 1) := by decide +kernel
theorem dX7_putUp_80 : decode cX7_putUp 80 = .ok (.iconst 0, 1) := by decide +kernel
theorem dX7_putUp_81 : decode cX7_putUp 81 = .ok (.bastore, 1) := by decide +kernel
theorem dX7_putUp_82 : decode cX7_putUp 82 = .ok (.aload_n 0, 1) := by decide +kernel
theorem dX7_putUp_83 : decode cX7_putUp 83 = .ok (.getfield 19, 3) := by decide +kernel
theorem dX7_putUp_86 : decode cX7_putUp 86 = .ok (.dup, 1) := by decide +kernel
theorem dX7_putUp_87 : decode cX7_putUp 87 = .ok (.getfield 127, 3) := by decide +kernel
theorem dX7_putUp_90 : decode cX7_putUp 90 = .ok (.iconst 1, 1) := by decide +kernel
theorem dX7_putUp_91 : decode cX7_putUp 91 = .ok (.isub, 1) := by decide +kernel
theorem dX7_putUp_92 : decode cX7_putUp 92 = .ok (.putfield 127, 3) := by decide +kernel
theorem dX7_putUp_95 : decode cX7_putUp 95 = .ok (.return_, 1) := by decide +kernel
theorem dX7_roundUp_0 : decode cX7_roundUp 0 = .ok (.iload_n 0, 1) := by decide +kernel
theorem dX7_roundUp_1 : decode cX7_roundUp 1 = .ok (.iconst 5, 1) := by decide +kernel
theorem dX7_roundUp_2 : decode cX7_roundUp 2 = .ok (.iadd, 1) := by decide +kernel
theorem dX7_roundUp_3 : decode cX7_roundUp 3 = .ok (.iconst 1, 1) := by decide +kernel
theorem dX7_roundUp_4 : decode cX7_roundUp 4 = .ok (.isub, 1) := by decide +kernel
theorem dX7_roundUp_5 : decode cX7_roundUp 5 = .ok (.iconst 5, 1) := by decide +kernel
theorem dX7_roundUp_6 : decode cX7_roundUp 6 = .ok (.idiv, 1) := by decide +kernel
theorem dX7_roundUp_7 : decode cX7_roundUp 7 = .ok (.iconst 5, 1) := by decide +kernel
theorem dX7_roundUp_8 : decode cX7_roundUp 8 = .ok (.imul, 1) := by decide +kernel
theorem dX7_roundUp_9 : decode cX7_roundUp 9 = .ok (.ireturn, 1) := by decide +kernel
theorem dX7_nextToPlan_0 : decode cX7_nextToPlan 0 = .ok (.iconst (-1), 1) := by decide +kernel
theorem dX7_nextToPlan_1 : decode cX7_nextToPlan 1 = .ok (.istore_n 1, 1) := by decide +kernel
theorem dX7_nextToPlan_2 : decode cX7_nextToPlan 2 = .ok (.iconst (-1), 1) := by decide +kernel
theorem dX7_nextToPlan_3 : decode cX7_nextToPlan 3 = .ok (.istore_n 2, 1) := by decide +kernel
theorem dX7_nextToPlan_4 : decode cX7_nextToPlan 4 = .ok (.iconst 0, 1) := by decide +kernel
theorem dX7_nextToPlan_5 : decode cX7_nextToPlan 5 = .ok (.istore_n 3, 1) := by decide +kernel
theorem dX7_nextToPlan_6 : decode cX7_nextToPlan 6 = .ok (.iload_n 3, 1) := by decide +kernel
theorem dX7_nextToPlan_7 : decode cX7_nextToPlan 7 = .ok (.aload_n 0, 1) := by decide +kernel
theorem dX7_nextToPlan_8 : decode cX7_nextToPlan 8 = .ok (.getfield 19, 3) := by decide +kernel
theorem dX7_nextToPlan_11 : decode cX7_nextToPlan 11 = .ok (.getfield 143, 3) := by decide +kernel
theorem dX7_nextToPlan_14 : decode cX7_nextToPlan 14 = .ok (.if_icmp .ge 99, 3) := by decide +kernel
theorem dX7_nextToPlan_17 : decode cX7_nextToPlan 17 = .ok (.aload_n 0, 1) := by decide +kernel
theorem dX7_nextToPlan_18 : decode cX7_nextToPlan 18 = .ok (.getfield 19, 3) := by decide +kernel
theorem dX7_nextToPlan_21 : decode cX7_nextToPlan 21 = .ok (.iload_n 3, 1) := by decide +kernel
theorem dX7_nextToPlan_22 : decode cX7_nextToPlan 22 = .ok (.aload_n 0, 1) := by decide +kernel
theorem dX7_nextToPlan_23 : decode cX7_nextToPlan 23 = .ok (.getfield 10, 3) := by decide +kernel
theorem dX7_nextToPlan_26 : decode cX7_nextToPlan 26 = .ok (.aload_n 0, 1) := by decide +kernel
theorem dX7_nextToPlan_27 : decode cX7_nextToPlan 27 = .ok (.getfield 10, 3) := by decide +kernel
theorem dX7_nextToPlan_30 : decode cX7_nextToPlan 30 = .ok (.getfield 181, 3) := by decide +kernel
theorem dX7_nextToPlan_33 : decode cX7_nextToPlan 33 = .ok (.invokevirtual 170, 3) := by decide +kernel
theorem dX7_nextToPlan_36 : decode cX7_nextToPlan 36 = .ok (.istore 4, 2) := by decide +kernel
theorem dX7_nextToPlan_38 : decode cX7_nextToPlan 38 = .ok (.aload_n 0, 1) := by decide +kernel
theorem dX7_nextToPlan_39 : decode cX7_nextToPlan 39 = .ok (.getfield 19, 3) := by decide +kernel
theorem dX7_nextToPlan_42 : decode cX7_nextToPlan 42 = .ok (.getfield 167, 3) := by decide +kernel
theorem dX7_nextToPlan_45 : decode cX7_nextToPlan 45 = .ok (.iload_n 3, 1) := by decide +kernel
theorem dX7_nextToPlan_46 : decode cX7_nextToPlan 46 = .ok (.baload, 1) := by decide +kernel
theorem dX7_nextToPlan_47 : decode cX7_nextToPlan 47 = .ok (.ifCond .eq 16, 3) := by decide +kernel
theorem dX7_nextToPlan_50 : decode cX7_nextToPlan 50 = .ok (.iload 4, 2) := by decide +kernel
theorem dX7_nextToPlan_52 : decode cX7_nextToPlan 52 = .ok (.ifCond .ne 7, 3) := by decide +kernel
theorem dX7_nextToPlan_55 : decode cX7_nextToPlan 55 = .ok (.iconst 1, 1) := by decide +kernel
theorem dX7_nextToPlan_56 : decode cX7_nextToPlan 56 = .ok (.goto 17, 3) := by decide +kernel
theorem dX7_nextToPlan_59 : decode cX7_nextToPlan 59 = .ok (.iconst 0, 1) := by decide +kernel
theorem dX7_nextToPlan_60 : decode cX7_nextToPlan 60 = .ok (.goto 13, 3) := by decide +kernel
theorem dX7_nextToPlan_63 : decode cX7_nextToPlan 63 = .ok (.iload 4, 2) := by decide +kernel
theorem dX7_nextToPlan_65 : decode cX7_nextToPlan 65 = .ok (.ifCond .le 7, 3) := by decide +kernel
theorem dX7_nextToPlan_68 : decode cX7_nextToPlan 68 = .ok (.iconst 1, 1) := by decide +kernel
theorem dX7_nextToPlan_69 : decode cX7_nextToPlan 69 = .ok (.goto 4, 3) := by decide +kernel
theorem dX7_nextToPlan_72 : decode cX7_nextToPlan 72 = .ok (.iconst 0, 1) := by decide +kernel
theorem dX7_nextToPlan_73 : decode cX7_nextToPlan 73 = .ok (.istore 5, 2) := by decide +kernel
theorem dX7_nextToPlan_75 : decode cX7_nextToPlan 75 = .ok (.iload 5, 2) := by decide +kernel
theorem dX7_nextToPlan_77 : decode cX7_nextToPlan 77 = .ok (.ifCond .eq 30, 3) := by decide +kernel
theorem dX7_nextToPlan_80 : decode cX7_nextToPlan 80 = .ok (.iload 4, 2) := by decide +kernel
theorem dX7_nextToPlan_82 : decode cX7_nextToPlan 82 = .ok (.iload_n 2, 1) := by decide +kernel
theorem dX7_nextToPlan_83 : decode cX7_nextToPlan 83 = .ok (.if_icmp .le 24, 3) := by decide +kernel
theorem dX7_nextToPlan_86 : decode cX7_nextToPlan 86 = .ok (.aload_n 0, 1) := by decide +kernel
theorem dX7_nextToPlan_87 : decode cX7_nextToPlan 87 = .ok (.getfield 33, 3) := by decide +kernel
theorem dX7_nextToPlan_90 : decode cX7_nextToPlan 90 = .ok (.aload_n 0, 1) := by decide +kernel
theorem dX7_nextToPlan_91 : decode cX7_nextToPlan 91 = .ok (.iload_n 3, 1) := by decide +kernel
theorem dX7_nextToPlan_92 : decode cX7_nextToPlan 92 = .ok (.invokevirtual 213, 3) := by decide +kernel
theorem dX7_nextToPlan_95 : decode cX7_nextToPlan 95 = .ok (.iload_n 3, 1) := by decide +kernel
theorem dX7_nextToPlan_96 : decode cX7_nextToPlan 96 = .ok (.invokevirtual 309, 3) := by decide +kernel
theorem dX7_nextToPlan_99 : decode cX7_nextToPlan 99 = .ok (.ifCond .ne 8, 3) := by decide +kernel
theorem dX7_nextToPlan_102 : decode cX7_nextToPlan 102 = .ok (.iload_n 3, 1) := by decide +kernel
theorem dX7_nextToPlan_103 : decode cX7_nextToPlan 103 = .ok (.istore_n 1, 1) := by decide +kernel
theorem dX7_nextToPlan_104 : decode cX7_nextToPlan 104 = .ok (.iload 4, 2) := by decide +kernel
theorem dX7_nextToPlan_106 : decode cX7_nextToPlan 106 = .ok (.istore_n 2, 1) := by decide +kernel
theorem dX7_nextToPlan_107 : decode cX7_nextToPlan 107 = .ok (.iinc 3 1, 3) := by decide +kernel
theorem dX7_nextToPlan_110 : decode cX7_nextToPlan 110 = .ok (.goto (-104), 3) := by decide +kernel
theorem dX7_nextToPlan_113 : decode cX7_nextToPlan 113 = .ok (.iload_n 1, 1) := by decide +kernel
theorem dX7_nextToPlan_114 : decode cX7_nextToPlan 114 = .ok (.ireturn, 1) := by decide +kernel
theorem dX7_kindToPlan_0 : decode cX7_kindToPlan 0 = .ok (.aload_n 0, 1) := by decide +kernel
theorem dX7_kindToPlan_1 : decode cX7_kindToPlan 1 = .ok (.getfield 19, 3) := by decide +kernel
theorem dX7_kindToPlan_4 : decode cX7_kindToPlan 4 = .ok (.getfield 167, 3) := by decide +kernel
theorem dX7_kindToPlan_7 : decode cX7_kindToPlan 7 = .ok (.iload_n 1, 1) := by decide +kernel
theorem dX7_kindToPlan_8 : decode cX7_kindToPlan 8 = .ok (.baload, 1) := by decide +kernel
theorem dX7_kindToPlan_9 : decode cX7_kindToPlan 9 = .ok (.ifCond .eq 8, 3) := by decide +kernel
theorem dX7_kindToPlan_12 : decode cX7_kindToPlan 12 = .ok (.bipush 117, 2) := by decide +kernel
theorem dX7_kindToPlan_14 : decode cX7_kindToPlan 14 = .ok (.goto 5, 3) := by decide +kernel
theorem dX7_kindToPlan_17 : decode cX7_kindToPlan 17 = .ok (.bipush 99, 2) := by decide +kernel
theorem dX7_kindToPlan_19 : decode cX7_kindToPlan 19 = .ok (.ireturn, 1) := by decide +kernel
theorem dX7_sendOut_0 : decode cX7_sendOut 0 = .ok (.iconst 0, 1) := by decide +kernel
theorem dX7_sendOut_1 : decode cX7_sendOut 1 = .ok (.istore_n 2, 1) := by decide +kernel
theorem dX7_sendOut_2 : decode cX7_sendOut 2 = .ok (.aload_n 0, 1) := by decide +kernel
theorem dX7_sendOut_3 : decode cX7_sendOut 3 = .ok (.getfield 40, 3) := by decide +kernel
theorem dX7_sendOut_6 : decode cX7_sendOut 6 = .ok (.sipush 480, 3) := by decide +kernel
theorem dX7_sendOut_9 : decode cX7_sendOut 9 = .ok (.putfield 313, 3) := by decide +kernel
theorem dX7_sendOut_12 : decode cX7_sendOut 12 = .ok (.iconst 0, 1) := by decide +kernel
theorem dX7_sendOut_13 : decode cX7_sendOut 13 = .ok (.istore_n 3, 1) := by decide +kernel
theorem dX7_sendOut_14 : decode cX7_sendOut 14 = .ok (.iload_n 3, 1) := by decide +kernel
theorem dX7_sendOut_15 : decode cX7_sendOut 15 = .ok (.sipush 1000, 3) := by decide +kernel
theorem dX7_sendOut_18 : decode cX7_sendOut 18 = .ok (.if_icmp .ge 53, 3) := by decide +kernel
theorem dX7_sendOut_21 : decode cX7_sendOut 21 = .ok (.aload_n 0, 1) := by decide +kernel
theorem dX7_sendOut_22 : decode cX7_sendOut 22 = .ok (.iload_n 1, 1) := by decide +kernel
theorem dX7_sendOut_23 : decode cX7_sendOut 23 = .ok (.invokevirtual 316, 3) := by decide +kernel
theorem dX7_sendOut_26 : decode cX7_sendOut 26 = .ok (.istore 4, 2) := by decide +kernel
theorem dX7_sendOut_28 : decode cX7_sendOut 28 = .ok (.iload 4, 2) := by decide +kernel
theorem dX7_sendOut_30 : decode cX7_sendOut 30 = .ok (.iconst (-1), 1) := by decide +kernel
theorem dX7_sendOut_31 : decode cX7_sendOut 31 = .ok (.if_icmp .ne 5, 3) := by decide +kernel
theorem dX7_sendOut_34 : decode cX7_sendOut 34 = .ok (.iload_n 2, 1) := by decide +kernel
theorem dX7_sendOut_35 : decode cX7_sendOut 35 = .ok (.ireturn, 1) := by decide +kernel
theorem dX7_sendOut_36 : decode cX7_sendOut 36 = .ok (.aload_n 0, 1) := by decide +kernel
theorem dX7_sendOut_37 : decode cX7_sendOut 37 = .ok (.iload_n 1, 1) := by decide +kernel
theorem dX7_sendOut_38 : decode cX7_sendOut 38 = .ok (.iload 4, 2) := by decide +kernel
theorem dX7_sendOut_40 : decode cX7_sendOut 40 = .ok (.invokevirtual 319, 3) := by decide +kernel
theorem dX7_sendOut_43 : decode cX7_sendOut 43 = .ok (.ifCond .eq 22, 3) := by decide +kernel
theorem dX7_sendOut_46 : decode cX7_sendOut 46 = .ok (.aload_n 0, 1) := by decide +kernel
theorem dX7_sendOut_47 : decode cX7_sendOut 47 = .ok (.iload 4, 2) := by decide +kernel
theorem dX7_sendOut_49 : decode cX7_sendOut 49 = .ok (.invokevirtual 322, 3) := by decide +kernel
theorem dX7_sendOut_52 : decode cX7_sendOut 52 = .ok (.ifCond .eq 13, 3) := by decide +kernel
theorem dX7_sendOut_55 : decode cX7_sendOut 55 = .ok (.aload_n 0, 1) := by decide +kernel
theorem dX7_sendOut_56 : decode cX7_sendOut 56 = .ok (.iload_n 1, 1) := by decide +kernel
theorem dX7_sendOut_57 : decode cX7_sendOut 57 = .ok (.iload 4, 2) := by decide +kernel
theorem dX7_sendOut_59 : decode cX7_sendOut 59 = .ok (.invokevirtual 325, 3) := by decide +kernel
theorem dX7_sendOut_62 : decode cX7_sendOut 62 = .ok (.iinc 2 1, 3) := by decide +kernel
theorem dX7_sendOut_65 : decode cX7_sendOut 65 = .ok (.iinc 3 1, 3) := by decide +kernel
theorem dX7_sendOut_68 : decode cX7_sendOut 68 = .ok (.goto (-54), 3) := by decide +kernel
theorem dX7_sendOut_71 : decode cX7_sendOut 71 = .ok (.iload_n 2, 1) := by decide +kernel
theorem dX7_sendOut_72 : decode cX7_sendOut 72 = .ok (.ireturn, 1) := by decide +kernel
theorem dX7_chooseTask_0 : decode cX7_chooseTask 0 = .ok (.iconst (-1), 1) := by decide +kernel
theorem dX7_chooseTask_1 : decode cX7_chooseTask 1 = .ok (.istore_n 2, 1) := by decide +kernel
theorem dX7_chooseTask_2 : decode cX7_chooseTask 2 = .ok (.iconst 0, 1) := by decide +kernel
theorem dX7_chooseTask_3 : decode cX7_chooseTask 3 = .ok (.istore_n 3, 1) := by decide +kernel
theorem dX7_chooseTask_4 : decode cX7_chooseTask 4 = .ok (.iload_n 3, 1) := by decide +kernel
theorem dX7_chooseTask_5 : decode cX7_chooseTask 5 = .ok (.aload_n 0, 1) := by decide +kernel
theorem dX7_chooseTask_6 : decode cX7_chooseTask 6 = .ok (.getfield 33, 3) := by decide +kernel
theorem dX7_chooseTask_9 : decode cX7_chooseTask 9 = .ok (.getfield 236, 3) := by decide +kernel
theorem dX7_chooseTask_12 : decode cX7_chooseTask 12 = .ok (.if_icmp .ge 100, 3) := by decide +kernel
theorem dX7_chooseTask_15 : decode cX7_chooseTask 15 = .ok (.iload_n 2, 1) := by decide +kernel
theorem dX7_chooseTask_16 : decode cX7_chooseTask 16 = .ok (.iconst (-1), 1) := by decide +kernel
theorem dX7_chooseTask_17 : decode cX7_chooseTask 17 = .ok (.if_icmp .eq 24, 3) := by decide +kernel
theorem dX7_chooseTask_20 : decode cX7_chooseTask 20 = .ok (.aload_n 0, 1) := by decide +kernel
theorem dX7_chooseTask_21 : decode cX7_chooseTask 21 = .ok (.getfield 33, 3) := by decide +kernel
theorem dX7_chooseTask_24 : decode cX7_chooseTask 24 = .ok (.getfield 329, 3) := by decide +kernel
theorem dX7_chooseTask_27 : decode cX7_chooseTask 27 = .ok (.iload_n 3, 1) := by decide +kernel
theorem dX7_chooseTask_28 : decode cX7_chooseTask 28 = .ok (.iaload, 1) := by decide +kernel
theorem dX7_chooseTask_29 : decode cX7_chooseTask 29 = .ok (.aload_n 0, 1) := by decide +kernel
theorem dX7_chooseTask_30 : decode cX7_chooseTask 30 = .ok (.getfield 33, 3) := by decide +kernel
theorem dX7_chooseTask_33 : decode cX7_chooseTask 33 = .ok (.getfield 329, 3) := by decide +kernel
theorem dX7_chooseTask_36 : decode cX7_chooseTask 36 = .ok (.iload_n 2, 1) := by decide +kernel
theorem dX7_chooseTask_37 : decode cX7_chooseTask 37 = .ok (.iaload, 1) := by decide +kernel
theorem dX7_chooseTask_38 : decode cX7_chooseTask 38 = .ok (.if_icmp .le 7, 3) := by decide +kernel
theorem dX7_chooseTask_41 : decode cX7_chooseTask 41 = .ok (.iconst 1, 1) := by decide +kernel
theorem dX7_chooseTask_42 : decode cX7_chooseTask 42 = .ok (.goto 4, 3) := by decide +kernel
theorem dX7_chooseTask_45 : decode cX7_chooseTask 45 = .ok (.iconst 0, 1) := by decide +kernel
theorem dX7_chooseTask_46 : decode cX7_chooseTask 46 = .ok (.istore 4, 2) := by decide +kernel
theorem dX7_chooseTask_48 : decode cX7_chooseTask 48 = .ok (.iload 4, 2) := by decide +kernel
theorem dX7_chooseTask_50 : decode cX7_chooseTask 50 = .ok (.ifCond .eq 56, 3) := by decide +kernel
theorem dX7_chooseTask_53 : decode cX7_chooseTask 53 = .ok (.aload_n 0, 1) := by decide +kernel
theorem dX7_chooseTask_54 : decode cX7_chooseTask 54 = .ok (.getfield 33, 3) := by decide +kernel
theorem dX7_chooseTask_57 : decode cX7_chooseTask 57 = .ok (.iload_n 3, 1) := by decide +kernel
theorem dX7_chooseTask_58 : decode cX7_chooseTask 58 = .ok (.invokevirtual 227, 3) := by decide +kernel
theorem dX7_chooseTask_61 : decode cX7_chooseTask 61 = .ok (.ifCond .eq 45, 3) := by decide +kernel
theorem dX7_chooseTask_64 : decode cX7_chooseTask 64 = .ok (.aload_n 0, 1) := by decide +kernel
theorem dX7_chooseTask_65 : decode cX7_chooseTask 65 = .ok (.getfield 40, 3) := by decide +kernel
theorem dX7_chooseTask_68 : decode cX7_chooseTask 68 = .ok (.iload_n 1, 1) := by decide +kernel
theorem dX7_chooseTask_69 : decode cX7_chooseTask 69 = .ok (.aload_n 0, 1) := by decide +kernel
theorem dX7_chooseTask_70 : decode cX7_chooseTask 70 = .ok (.getfield 33, 3) := by decide +kernel
theorem dX7_chooseTask_73 : decode cX7_chooseTask 73 = .ok (.getfield 220, 3) := by decide +kernel
theorem dX7_chooseTask_76 : decode cX7_chooseTask 76 = .ok (.iload_n 3, 1) := by decide +kernel
theorem dX7_chooseTask_77 : decode cX7_chooseTask 77 = .ok (.caload, 1) := by decide +kernel
theorem dX7_chooseTask_78 : decode cX7_chooseTask 78 = .ok (.invokestatic 332, 3) := by decide +kernel
theorem dX7_chooseTask_81 : decode cX7_chooseTask 81 = .ok (.invokevirtual 336, 3) := by decide +kernel
theorem dX7_chooseTask_84 : decode cX7_chooseTask 84 = .ok (.ifCond .eq 22, 3) := by decide +kernel
theorem dX7_chooseTask_87 : decode cX7_chooseTask 87 = .ok (.aload_n 0, 1) := by decide +kernel
theorem dX7_chooseTask_88 : decode cX7_chooseTask 88 = .ok (.iload_n 3, 1) := by decide +kernel
theorem dX7_chooseTask_89 : decode cX7_chooseTask 89 = .ok (.invokevirtual 322, 3) := by decide +kernel
theorem dX7_chooseTask_92 : decode cX7_chooseTask 92 = .ok (.ifCond .eq 14, 3) := by decide +kernel
theorem dX7_chooseTask_95 : decode cX7_chooseTask 95 = .ok (.aload_n 0, 1) := by decide +kernel
theorem dX7_chooseTask_96 : decode cX7_chooseTask 96 = .ok (.iload_n 1, 1) := by decide +kernel
theorem dX7_chooseTask_97 : decode cX7_chooseTask 97 = .ok (.iload_n 3, 1) := by decide +kernel
theorem dX7_chooseTask_98 : decode cX7_chooseTask 98 = .ok (.invokevirtual 339, 3) := by decide +kernel
theorem dX7_chooseTask_101 : decode cX7_chooseTask 101 = .ok (.ifCond .eq 5, 3) := by decide +kernel
theorem dX7_chooseTask_104 : decode cX7_chooseTask 104 = .ok (.iload_n 3, 1) := by decide +kernel
theorem dX7_chooseTask_105 : decode cX7_chooseTask 105 = .ok (.istore_n 2, 1) := by decide +kernel
theorem dX7_chooseTask_106 : decode cX7_chooseTask 106 = .ok (.iinc 3 1, 3) := by decide +kernel
theorem dX7_chooseTask_109 : decode cX7_chooseTask 109 = .ok (.goto (-105), 3) := by decide +kernel
theorem dX7_chooseTask_112 : decode cX7_chooseTask 112 = .ok (.iload_n 2, 1) := by decide +kernel
theorem dX7_chooseTask_113 : decode cX7_chooseTask 113 = .ok (.ireturn, 1) := by decide +kernel
theorem dX7_makesSense_0 : decode cX7_makesSense 0 = .ok (.aload_n 0, 1) := by decide +kernel
theorem dX7_makesSense_1 : decode cX7_makesSense 1 = .ok (.getfield 33, 3) := by decide +kernel
theorem dX7_makesSense_4 : decode cX7_makesSense 4 = .ok (.getfield 220, 3) := by decide +kernel
theorem dX7_makesSense_7 : decode cX7_makesSense 7 = .ok (.iload_n 1, 1) := by decide +kernel
theorem dX7_makesSense_8 : decode cX7_makesSense 8 = .ok (.caload, 1) := by decide +kernel
theorem dX7_makesSense_9 : decode cX7_makesSense 9 = .ok (.istore_n 2, 1) := by decide +kernel
theorem dX7_makesSense_10 : decode cX7_makesSense 10 = .ok (.aload_n 0, 1) := by decide +kernel
theorem dX7_makesSense_11 : decode cX7_makesSense 11 = .ok (.getfield 33, 3) := by decide +kernel
theorem dX7_makesSense_14 : decode cX7_makesSense 14 = .ok (.getfield 224, 3) := by decide +kernel
theorem dX7_makesSense_17 : decode cX7_makesSense 17 = .ok (.iload_n 1, 1) := by decide +kernel
theorem dX7_makesSense_18 : decode cX7_makesSense 18 = .ok (.iaload, 1) := by decide +kernel
theorem dX7_makesSense_19 : decode cX7_makesSense 19 = .ok (.istore_n 3, 1) := by decide +kernel
theorem dX7_makesSense_20 : decode cX7_makesSense 20 = .ok (.iload_n 2, 1) := by decide +kernel
theorem dX7_makesSense_21 : decode cX7_makesSense 21 = .ok (.bipush 109, 2) := by decide +kernel
theorem dX7_makesSense_23 : decode cX7_makesSense 23 = .ok (.if_icmp .ne 16, 3) := by decide +kernel
theorem dX7_makesSense_26 : decode cX7_makesSense 26 = .ok (.aload_n 0, 1) := by decide +kernel
theorem dX7_makesSense_27 : decode cX7_makesSense 27 = .ok (.getfield 10, 3) := by decide +kernel
theorem dX7_makesSense_30 : decode cX7_makesSense 30 = .ok (.getfield 181, 3) := by decide +kernel
theorem dX7_makesSense_33 : decode cX7_makesSense 33 = .ok (.getfield 97, 3) := by decide +kernel
theorem dX7_makesSense_36 : decode cX7_makesSense 36 = .ok (.iload_n 3, 1) := by decide +kernel
theorem dX7_makesSense_37 : decode cX7_makesSense 37 = .ok (.baload, 1) := by decide +kernel
theorem dX7_makesSense_38 : decode cX7_makesSense 38 = .ok (.ireturn, 1) := by decide +kernel
theorem dX7_makesSense_39 : decode cX7_makesSense 39 = .ok (.iload_n 2, 1) := by decide +kernel
theorem dX7_makesSense_40 : decode cX7_makesSense 40 = .ok (.bipush 114, 2) := by decide +kernel
theorem dX7_makesSense_42 : decode cX7_makesSense 42 = .ok (.if_icmp .ne 44, 3) := by decide +kernel
theorem dX7_makesSense_45 : decode cX7_makesSense 45 = .ok (.aload_n 0, 1) := by decide +kernel
theorem dX7_makesSense_46 : decode cX7_makesSense 46 = .ok (.getfield 19, 3) := by decide +kernel
theorem dX7_makesSense_49 : decode cX7_makesSense 49 = .ok (.getfield 127, 3) := by decide +kernel
theorem dX7_makesSense_52 : decode cX7_makesSense 52 = .ok (.ifCond .le 32, 3) := by decide +kernel
theorem dX7_makesSense_55 : decode cX7_makesSense 55 = .ok (.aload_n 0, 1) := by decide +kernel
theorem dX7_makesSense_56 : decode cX7_makesSense 56 = .ok (.aload_n 0, 1) := by decide +kernel
theorem dX7_makesSense_57 : decode cX7_makesSense 57 = .ok (.getfield 19, 3) := by decide +kernel
theorem dX7_makesSense_60 : decode cX7_makesSense 60 = .ok (.getfield 148, 3) := by decide +kernel
theorem dX7_makesSense_63 : decode cX7_makesSense 63 = .ok (.iload_n 3, 1) := by decide +kernel
theorem dX7_makesSense_64 : decode cX7_makesSense 64 = .ok (.iaload, 1) := by decide +kernel
theorem dX7_makesSense_65 : decode cX7_makesSense 65 = .ok (.aload_n 0, 1) := by decide +kernel
theorem dX7_makesSense_66 : decode cX7_makesSense 66 = .ok (.getfield 19, 3) := by decide +kernel
theorem dX7_makesSense_69 : decode cX7_makesSense 69 = .ok (.getfield 152, 3) := by decide +kernel
theorem dX7_makesSense_72 : decode cX7_makesSense 72 = .ok (.iload_n 3, 1) := by decide +kernel
theorem dX7_makesSense_73 : decode cX7_makesSense 73 = .ok (.iaload, 1) := by decide +kernel
theorem dX7_makesSense_74 : decode cX7_makesSense 74 = .ok (.invokevirtual 132, 3) := by decide +kernel
theorem dX7_makesSense_77 : decode cX7_makesSense 77 = .ok (.ifCond .eq 7, 3) := by decide +kernel
theorem dX7_makesSense_80 : decode cX7_makesSense 80 = .ok (.iconst 1, 1) := by decide +kernel
theorem dX7_makesSense_81 : decode cX7_makesSense 81 = .ok (.goto 4, 3) := by decide +kernel
theorem dX7_makesSense_84 : decode cX7_makesSense 84 = .ok (.iconst 0, 1) := by decide +kernel
theorem dX7_makesSense_85 : decode cX7_makesSense 85 = .ok (.ireturn, 1) := by decide +kernel
theorem dX7_makesSense_86 : decode cX7_makesSense 86 = .ok (.aload_n 0, 1) := by decide +kernel
theorem dX7_makesSense_87 : decode cX7_makesSense 87 = .ok (.getfield 19, 3) := by decide +kernel
theorem dX7_makesSense_90 : decode cX7_makesSense 90 = .ok (.getfield 167, 3) := by decide +kernel
theorem dX7_makesSense_93 : decode cX7_makesSense 93 = .ok (.iload_n 3, 1) := by decide +kernel
theorem dX7_makesSense_94 : decode cX7_makesSense 94 = .ok (.baload, 1) := by decide +kernel
theorem dX7_makesSense_95 : decode cX7_makesSense 95 = .ok (.iload_n 2, 1) := by decide +kernel
theorem dX7_makesSense_96 : decode cX7_makesSense 96 = .ok (.bipush 117, 2) := by decide +kernel
theorem dX7_makesSense_98 : decode cX7_makesSense 98 = .ok (.if_icmp .ne 7, 3) := by decide +kernel
theorem dX7_makesSense_101 : decode cX7_makesSense 101 = .ok (.iconst 1, 1) := by decide +kernel
theorem dX7_makesSense_102 : decode cX7_makesSense 102 = .ok (.goto 4, 3) := by decide +kernel
theorem dX7_makesSense_105 : decode cX7_makesSense 105 = .ok (.iconst 0, 1) := by decide +kernel
theorem dX7_makesSense_106 : decode cX7_makesSense 106 = .ok (.if_icmp .ne 7, 3) := by decide +kernel
theorem dX7_makesSense_109 : decode cX7_makesSense 109 = .ok (.iconst 1, 1) := by decide +kernel
theorem dX7_makesSense_110 : decode cX7_makesSense 110 = .ok (.goto 4, 3) := by decide +kernel
theorem dX7_makesSense_113 : decode cX7_makesSense 113 = .ok (.iconst 0, 1) := by decide +kernel
theorem dX7_makesSense_114 : decode cX7_makesSense 114 = .ok (.ireturn, 1) := by decide +kernel
theorem dX7_hasTimeFor_0 : decode cX7_hasTimeFor 0 = .ok (.aload_n 0, 1) := by decide +kernel
theorem dX7_hasTimeFor_1 : decode cX7_hasTimeFor 1 = .ok (.getfield 10, 3) := by decide +kernel
theorem dX7_hasTimeFor_4 : decode cX7_hasTimeFor 4 = .ok (.getfield 181, 3) := by decide +kernel
theorem dX7_hasTimeFor_7 : decode cX7_hasTimeFor 7 = .ok (.aload_n 0, 1) := by decide +kernel
theorem dX7_hasTimeFor_8 : decode cX7_hasTimeFor 8 = .ok (.getfield 40, 3) := by decide +kernel
theorem dX7_hasTimeFor_11 : decode cX7_hasTimeFor 11 = .ok (.getfield 248, 3) := by decide +kernel
theorem dX7_hasTimeFor_14 : decode cX7_hasTimeFor 14 = .ok (.iload_n 1, 1) := by decide +kernel
theorem dX7_hasTimeFor_15 : decode cX7_hasTimeFor 15 = .ok (.iaload, 1) := by decide +kernel
theorem dX7_hasTimeFor_16 : decode cX7_hasTimeFor 16 = .ok (.aload_n 0, 1) := by decide +kernel
theorem dX7_hasTimeFor_17 : decode cX7_hasTimeFor 17 = .ok (.iload_n 2, 1) := by decide +kernel
theorem dX7_hasTimeFor_18 : decode cX7_hasTimeFor 18 = .ok (.invokevirtual 342, 3) := by decide +kernel
theorem dX7_hasTimeFor_21 : decode cX7_hasTimeFor 21 = .ok (.invokevirtual 110, 3) := by decide +kernel
theorem dX7_hasTimeFor_24 : decode cX7_hasTimeFor 24 = .ok (.istore_n 3, 1) := by decide +kernel
theorem dX7_hasTimeFor_25 : decode cX7_hasTimeFor 25 = .ok (.iload_n 3, 1) := by decide +kernel
theorem dX7_hasTimeFor_26 : decode cX7_hasTimeFor 26 = .ok (.aload_n 0, 1) := by decide +kernel
theorem dX7_hasTimeFor_27 : decode cX7_hasTimeFor 27 = .ok (.getfield 33, 3) := by decide +kernel
theorem dX7_hasTimeFor_30 : decode cX7_hasTimeFor 30 = .ok (.getfield 220, 3) := by decide +kernel
theorem dX7_hasTimeFor_33 : decode cX7_hasTimeFor 33 = .ok (.iload_n 2, 1) := by decide +kernel
theorem dX7_hasTimeFor_34 : decode cX7_hasTimeFor 34 = .ok (.caload, 1) := by decide +kernel
theorem dX7_hasTimeFor_35 : decode cX7_hasTimeFor 35 = .ok (.invokestatic 345, 3) := by decide +kernel
theorem dX7_hasTimeFor_38 : decode cX7_hasTimeFor 38 = .ok (.iadd, 1) := by decide +kernel
theorem dX7_hasTimeFor_39 : decode cX7_hasTimeFor 39 = .ok (.aload_n 0, 1) := by decide +kernel
theorem dX7_hasTimeFor_40 : decode cX7_hasTimeFor 40 = .ok (.getfield 40, 3) := by decide +kernel
theorem dX7_hasTimeFor_43 : decode cX7_hasTimeFor 43 = .ok (.getfield 313, 3) := by decide +kernel
theorem dX7_hasTimeFor_46 : decode cX7_hasTimeFor 46 = .ok (.if_icmp .gt 7, 3) := by decide +kernel
theorem dX7_hasTimeFor_49 : decode cX7_hasTimeFor 49 = .ok (.iconst 1, 1) := by decide +kernel
theorem dX7_hasTimeFor_50 : decode cX7_hasTimeFor 50 = .ok (.goto 4, 3) := by decide +kernel
theorem dX7_hasTimeFor_53 : decode cX7_hasTimeFor 53 = .ok (.iconst 0, 1) := by decide +kernel
theorem dX7_hasTimeFor_54 : decode cX7_hasTimeFor 54 = .ok (.ireturn, 1) := by decide +kernel
theorem dX7_goalOf_0 : decode cX7_goalOf 0 = .ok (.aload_n 0, 1) := by decide +kernel
theorem dX7_goalOf_1 : decode cX7_goalOf 1 = .ok (.getfield 33, 3) := by decide +kernel
theorem dX7_goalOf_4 : decode cX7_goalOf 4 = .ok (.getfield 224, 3) := by decide +kernel
theorem dX7_goalOf_7 : decode cX7_goalOf 7 = .ok (.iload_n 1, 1) := by decide +kernel
theorem dX7_goalOf_8 : decode cX7_goalOf 8 = .ok (.iaload, 1) := by decide +kernel
theorem dX7_goalOf_9 : decode cX7_goalOf 9 = .ok (.istore_n 2, 1) := by decide +kernel
theorem dX7_goalOf_10 : decode cX7_goalOf 10 = .ok (.aload_n 0, 1) := by decide +kernel
theorem dX7_goalOf_11 : decode cX7_goalOf 11 = .ok (.getfield 33, 3) := by decide +kernel
theorem dX7_goalOf_14 : decode cX7_goalOf 14 = .ok (.getfield 220, 3) := by decide +kernel
theorem dX7_goalOf_17 : decode cX7_goalOf 17 = .ok (.iload_n 1, 1) := by decide +kernel
theorem dX7_goalOf_18 : decode cX7_goalOf 18 = .ok (.caload, 1) := by decide +kernel
theorem dX7_goalOf_19 : decode cX7_goalOf 19 = .ok (.bipush 109, 2) := by decide +kernel
theorem dX7_goalOf_21 : decode cX7_goalOf 21 = .ok (.if_icmp .ne 15, 3) := by decide +kernel
theorem dX7_goalOf_24 : decode cX7_goalOf 24 = .ok (.aload_n 0, 1) := by decide +kernel
theorem dX7_goalOf_25 : decode cX7_goalOf 25 = .ok (.getfield 10, 3) := by decide +kernel
theorem dX7_goalOf_28 : decode cX7_goalOf 28 = .ok (.getfield 348, 3) := by decide +kernel
theorem dX7_goalOf_31 : decode cX7_goalOf 31 = .ok (.iload_n 2, 1) := by decide +kernel
theorem dX7_goalOf_32 : decode cX7_goalOf 32 = .ok (.iaload, 1) := by decide +kernel
theorem dX7_goalOf_33 : decode cX7_goalOf 33 = .ok (.goto 12, 3) := by decide +kernel
theorem dX7_goalOf_36 : decode cX7_goalOf 36 = .ok (.aload_n 0, 1) := by decide +kernel
theorem dX7_goalOf_37 : decode cX7_goalOf 37 = .ok (.getfield 19, 3) := by decide +kernel
theorem dX7_goalOf_40 : decode cX7_goalOf 40 = .ok (.getfield 148, 3) := by decide +kernel
theorem dX7_goalOf_43 : decode cX7_goalOf 43 = .ok (.iload_n 2, 1) := by decide +kernel
theorem dX7_goalOf_44 : decode cX7_goalOf 44 = .ok (.iaload, 1) := by decide +kernel
theorem dX7_goalOf_45 : decode cX7_goalOf 45 = .ok (.ireturn, 1) := by decide +kernel
theorem dX7_minutesFor_0 : decode cX7_minutesFor 0 = .ok (.iload_n 0, 1) := by decide +kernel
theorem dX7_minutesFor_1 : decode cX7_minutesFor 1 = .ok (.bipush 109, 2) := by decide +kernel
theorem dX7_minutesFor_3 : decode cX7_minutesFor 3 = .ok (.if_icmp .ne 7, 3) := by decide +kernel
theorem dX7_minutesFor_6 : decode cX7_minutesFor 6 = .ok (.sipush 200, 3) := by decide +kernel
theorem dX7_minutesFor_9 : decode cX7_minutesFor 9 = .ok (.ireturn, 1) := by decide +kernel
theorem dX7_minutesFor_10 : decode cX7_minutesFor 10 = .ok (.iload_n 0, 1) := by decide +kernel
theorem dX7_minutesFor_11 : decode cX7_minutesFor 11 = .ok (.bipush 114, 2) := by decide +kernel
theorem dX7_minutesFor_13 : decode cX7_minutesFor 13 = .ok (.if_icmp .ne 8, 3) := by decide +kernel
theorem dX7_minutesFor_16 : decode cX7_minutesFor 16 = .ok (.bipush 30, 2) := by decide +kernel
theorem dX7_minutesFor_18 : decode cX7_minutesFor 18 = .ok (.goto 5, 3) := by decide +kernel
theorem dX7_minutesFor_21 : decode cX7_minutesFor 21 = .ok (.bipush 10, 2) := by decide +kernel
theorem dX7_minutesFor_23 : decode cX7_minutesFor 23 = .ok (.ireturn, 1) := by decide +kernel
theorem dX7_toolFor_0 : decode cX7_toolFor 0 = .ok (.iload_n 0, 1) := by decide +kernel
theorem dX7_toolFor_1 : decode cX7_toolFor 1 = .ok (.bipush 109, 2) := by decide +kernel
theorem dX7_toolFor_3 : decode cX7_toolFor 3 = .ok (.if_icmp .ne 5, 3) := by decide +kernel
theorem dX7_toolFor_6 : decode cX7_toolFor 6 = .ok (.iconst 2, 1) := by decide +kernel
theorem dX7_toolFor_7 : decode cX7_toolFor 7 = .ok (.ireturn, 1) := by decide +kernel
theorem dX7_toolFor_8 : decode cX7_toolFor 8 = .ok (.iload_n 0, 1) := by decide +kernel
theorem dX7_toolFor_9 : decode cX7_toolFor 9 = .ok (.bipush 114, 2) := by decide +kernel
theorem dX7_toolFor_11 : decode cX7_toolFor 11 = .ok (.if_icmp .ne 7, 3) := by decide +kernel
theorem dX7_toolFor_14 : decode cX7_toolFor 14 = .ok (.iconst 1, 1) := by decide +kernel
theorem dX7_toolFor_15 : decode cX7_toolFor 15 = .ok (.goto 4, 3) := by decide +kernel
theorem dX7_toolFor_18 : decode cX7_toolFor 18 = .ok (.iconst 0, 1) := by decide +kernel
theorem dX7_toolFor_19 : decode cX7_toolFor 19 = .ok (.ireturn, 1) := by decide +kernel
theorem dX7_comesTo_0 : decode cX7_comesTo 0 = .ok (.aload_n 0, 1) := by decide +kernel
theorem dX7_comesTo_1 : decode cX7_comesTo 1 = .ok (.iload_n 2, 1) := by decide +kernel
theorem dX7_comesTo_2 : decode cX7_comesTo 2 = .ok (.invokevirtual 342, 3) := by decide +kernel
theorem dX7_comesTo_5 : decode cX7_comesTo 5 = .ok (.istore_n 3, 1) := by decide +kernel
theorem dX7_comesTo_6 : decode cX7_comesTo 6 = .ok (.iconst 0, 1) := by decide +kernel
theorem dX7_comesTo_7 : decode cX7_comesTo 7 = .ok (.istore 4, 2) := by decide +kernel
theorem dX7_comesTo_9 : decode cX7_comesTo 9 = .ok (.iload 4, 2) := by decide +kernel
theorem dX7_comesTo_11 : decode cX7_comesTo 11 = .ok (.sipush 1000, 3) := by decide +kernel
theorem dX7_comesTo_14 : decode cX7_comesTo 14 = .ok (.if_icmp .ge 118, 3) := by decide +kernel
theorem dX7_comesTo_17 : decode cX7_comesTo 17 = .ok (.aload_n 0, 1) := by decide +kernel
theorem dX7_comesTo_18 : decode cX7_comesTo 18 = .ok (.getfield 40, 3) := by decide +kernel
theorem dX7_comesTo_21 : decode cX7_comesTo 21 = .ok (.getfield 248, 3) := by decide +kernel
theorem dX7_comesTo_24 : decode cX7_comesTo 24 = .ok (.iload_n 1, 1) := by decide +kernel
theorem dX7_comesTo_25 : decode cX7_comesTo 25 = .ok (.iaload, 1) := by decide +kernel
theorem dX7_comesTo_26 : decode cX7_comesTo 26 = .ok (.istore 5, 2) := by decide +kernel
theorem dX7_comesTo_28 : decode cX7_comesTo 28 = .ok (.iload 5, 2) := by decide +kernel
theorem dX7_comesTo_30 : decode cX7_comesTo 30 = .ok (.iload_n 3, 1) := by decide +kernel
theorem dX7_comesTo_31 : decode cX7_comesTo 31 = .ok (.if_icmp .ne 5, 3) := by decide +kernel
theorem dX7_comesTo_34 : decode cX7_comesTo 34 = .ok (.iconst 1, 1) := by decide +kernel
theorem dX7_comesTo_35 : decode cX7_comesTo 35 = .ok (.ireturn, 1) := by decide +kernel
theorem dX7_comesTo_36 : decode cX7_comesTo 36 = .ok (.aload_n 0, 1) := by decide +kernel
theorem dX7_comesTo_37 : decode cX7_comesTo 37 = .ok (.getfield 10, 3) := by decide +kernel
theorem dX7_comesTo_40 : decode cX7_comesTo 40 = .ok (.iload 5, 2) := by decide +kernel
theorem dX7_comesTo_42 : decode cX7_comesTo 42 = .ok (.iload_n 3, 1) := by decide +kernel
theorem dX7_comesTo_43 : decode cX7_comesTo 43 = .ok (.invokevirtual 120, 3) := by decide +kernel
theorem dX7_comesTo_46 : decode cX7_comesTo 46 = .ok (.istore 6, 2) := by decide +kernel
theorem dX7_comesTo_48 : decode cX7_comesTo 48 = .ok (.iload 6, 2) := by decide +kernel
theorem dX7_comesTo_50 : decode cX7_comesTo 50 = .ok (.iconst (-1), 1) := by decide +kernel
theorem dX7_comesTo_51 : decode cX7_comesTo 51 = .ok (.if_icmp .eq 12, 3) := by decide +kernel
theorem dX7_comesTo_54 : decode cX7_comesTo 54 = .ok (.aload_n 0, 1) := by decide +kernel
theorem dX7_comesTo_55 : decode cX7_comesTo 55 = .ok (.iload_n 1, 1) := by decide +kernel
theorem dX7_comesTo_56 : decode cX7_comesTo 56 = .ok (.iload_n 2, 1) := by decide +kernel
theorem dX7_comesTo_57 : decode cX7_comesTo 57 = .ok (.invokevirtual 339, 3) := by decide +kernel
theorem dX7_comesTo_60 : decode cX7_comesTo 60 = .ok (.ifCond .ne 5, 3) := by decide +kernel
theorem dX7_comesTo_63 : decode cX7_comesTo 63 = .ok (.iconst 0, 1) := by decide +kernel
theorem dX7_comesTo_64 : decode cX7_comesTo 64 = .ok (.ireturn, 1) := by decide +kernel
theorem dX7_comesTo_65 : decode cX7_comesTo 65 = .ok (.aload_n 0, 1) := by decide +kernel
theorem dX7_comesTo_66 : decode cX7_comesTo 66 = .ok (.iload 6, 2) := by decide +kernel
theorem dX7_comesTo_68 : decode cX7_comesTo 68 = .ok (.invokevirtual 351, 3) := by decide +kernel
theorem dX7_comesTo_71 : decode cX7_comesTo 71 = .ok (.aload_n 0, 1) := by decide +kernel
theorem dX7_comesTo_72 : decode cX7_comesTo 72 = .ok (.getfield 10, 3) := by decide +kernel
theorem dX7_comesTo_75 : decode cX7_comesTo 75 = .ok (.getfield 93, 3) := by decide +kernel
theorem dX7_comesTo_78 : decode cX7_comesTo 78 = .ok (.getfield 97, 3) := by decide +kernel
theorem dX7_comesTo_81 : decode cX7_comesTo 81 = .ok (.iload 6, 2) := by decide +kernel
theorem dX7_comesTo_83 : decode cX7_comesTo 83 = .ok (.baload, 1) := by decide +kernel
theorem dX7_comesTo_84 : decode cX7_comesTo 84 = .ok (.ifCond .ne 42, 3) := by decide +kernel
theorem dX7_comesTo_87 : decode cX7_comesTo 87 = .ok (.aload_n 0, 1) := by decide +kernel
theorem dX7_comesTo_88 : decode cX7_comesTo 88 = .ok (.getfield 40, 3) := by decide +kernel
theorem dX7_comesTo_91 : decode cX7_comesTo 91 = .ok (.iload_n 1, 1) := by decide +kernel
theorem dX7_comesTo_92 : decode cX7_comesTo 92 = .ok (.aload_n 0, 1) := by decide +kernel
theorem dX7_comesTo_93 : decode cX7_comesTo 93 = .ok (.getfield 10, 3) := by decide +kernel
theorem dX7_comesTo_96 : decode cX7_comesTo 96 = .ok (.iload 6, 2) := by decide +kernel
theorem dX7_comesTo_98 : decode cX7_comesTo 98 = .ok (.iload 5, 2) := by decide +kernel
theorem dX7_comesTo_100 : decode cX7_comesTo 100 = .ok (.invokevirtual 354, 3) := by decide +kernel
theorem dX7_comesTo_103 : decode cX7_comesTo 103 = .ok (.invokevirtual 357, 3) := by decide +kernel
theorem dX7_comesTo_106 : decode cX7_comesTo 106 = .ok (.aload_n 0, 1) := by decide +kernel
theorem dX7_comesTo_107 : decode cX7_comesTo 107 = .ok (.getfield 40, 3) := by decide +kernel
theorem dX7_comesTo_110 : decode cX7_comesTo 110 = .ok (.getfield 248, 3) := by decide +kernel
theorem dX7_comesTo_113 : decode cX7_comesTo 113 = .ok (.iload_n 1, 1) := by decide +kernel
theorem dX7_comesTo_114 : decode cX7_comesTo 114 = .ok (.aload_n 0, 1) := by decide +kernel
theorem dX7_comesTo_115 : decode cX7_comesTo 115 = .ok (.getfield 10, 3) := by decide +kernel
theorem dX7_comesTo_118 : decode cX7_comesTo 118 = .ok (.iload 6, 2) := by decide +kernel
theorem dX7_comesTo_120 : decode cX7_comesTo 120 = .ok (.iload 5, 2) := by decide +kernel
theorem dX7_comesTo_122 : decode cX7_comesTo 122 = .ok (.invokevirtual 360, 3) := by decide +kernel
theorem dX7_comesTo_125 : decode cX7_comesTo 125 = .ok (.iastore, 1) := by decide +kernel
theorem dX7_comesTo_126 : decode cX7_comesTo 126 = .ok (.iinc 4 1, 3) := by decide +kernel
theorem dX7_comesTo_129 : decode cX7_comesTo 129 = .ok (.goto (-120), 3) := by decide +kernel
theorem dX7_comesTo_132 : decode cX7_comesTo 132 = .ok (.iconst 0, 1) := by decide +kernel
theorem dX7_comesTo_133 : decode cX7_comesTo 133 = .ok (.ireturn, 1) := by decide +kernel
theorem dX7_see_0 : decode cX7_see 0 = .ok (.aload_n 0, 1) := by decide +kernel
theorem dX7_see_1 : decode cX7_see 1 = .ok (.getfield 10, 3) := by decide +kernel
theorem dX7_see_4 : decode cX7_see 4 = .ok (.getfield 93, 3) := by decide +kernel
theorem dX7_see_7 : decode cX7_see 7 = .ok (.getfield 97, 3) := by decide +kernel
theorem dX7_see_10 : decode cX7_see 10 = .ok (.iload_n 1, 1) := by decide +kernel
theorem dX7_see_11 : decode cX7_see 11 = .ok (.baload, 1) := by decide +kernel
theorem dX7_see_12 : decode cX7_see 12 = .ok (.istore_n 2, 1) := by decide +kernel
theorem dX7_see_13 : decode cX7_see 13 = .ok (.aload_n 0, 1) := by decide +kernel
theorem dX7_see_14 : decode cX7_see 14 = .ok (.getfield 10, 3) := by decide +kernel
theorem dX7_see_17 : decode cX7_see 17 = .ok (.aload_n 0, 1) := by decide +kernel
theorem dX7_see_18 : decode cX7_see 18 = .ok (.getfield 10, 3) := by decide +kernel
theorem dX7_see_21 : decode cX7_see 21 = .ok (.getfield 181, 3) := by decide +kernel
theorem dX7_see_24 : decode cX7_see 24 = .ok (.iload_n 1, 1) := by decide +kernel
theorem dX7_see_25 : decode cX7_see 25 = .ok (.iload_n 2, 1) := by decide +kernel
theorem dX7_see_26 : decode cX7_see 26 = .ok (.invokevirtual 102, 3) := by decide +kernel
theorem dX7_see_29 : decode cX7_see 29 = .ok (.aload_n 0, 1) := by decide +kernel
theorem dX7_see_30 : decode cX7_see 30 = .ok (.getfield 26, 3) := by decide +kernel
theorem dX7_see_33 : decode cX7_see 33 = .ok (.iload_n 1, 1) := by decide +kernel
theorem dX7_see_34 : decode cX7_see 34 = .ok (.iload_n 2, 1) := by decide +kernel
theorem dX7_see_35 : decode cX7_see 35 = .ok (.invokevirtual 363, 3) := by decide +kernel
theorem dX7_see_38 : decode cX7_see 38 = .ok (.return_, 1) := by decide +kernel
theorem dX7_carryOut_0 : decode cX7_carryOut 0 = .ok (.aload_n 0, 1) := by decide +kernel
theorem dX7_carryOut_1 : decode cX7_carryOut 1 = .ok (.getfield 33, 3) := by decide +kernel
theorem dX7_carryOut_4 : decode cX7_carryOut 4 = .ok (.getfield 220, 3) := by decide +kernel
theorem dX7_carryOut_7 : decode cX7_carryOut 7 = .ok (.iload_n 2, 1) := by decide +kernel
theorem dX7_carryOut_8 : decode cX7_carryOut 8 = .ok (.caload, 1) := by decide +kernel
theorem dX7_carryOut_9 : decode cX7_carryOut 9 = .ok (.istore_n 3, 1) := by decide +kernel
theorem dX7_carryOut_10 : decode cX7_carryOut 10 = .ok (.aload_n 0, 1) := by decide +kernel
theorem dX7_carryOut_11 : decode cX7_carryOut 11 = .ok (.getfield 33, 3) := by decide +kernel
theorem dX7_carryOut_14 : decode cX7_carryOut 14 = .ok (.getfield 224, 3) := by decide +kernel
theorem dX7_carryOut_17 : decode cX7_carryOut 17 = .ok (.iload_n 2, 1) := by decide +kernel
theorem dX7_carryOut_18 : decode cX7_carryOut 18 = .ok (.iaload, 1) := by decide +kernel
theorem dX7_carryOut_19 : decode cX7_carryOut 19 = .ok (.istore 4, 2) := by decide +kernel
theorem dX7_carryOut_21 : decode cX7_carryOut 21 = .ok (.iload_n 3, 1) := by decide +kernel
theorem dX7_carryOut_22 : decode cX7_carryOut 22 = .ok (.bipush 109, 2) := by decide +kernel
theorem dX7_carryOut_24 : decode cX7_carryOut 24 = .ok (.if_icmp .ne 46, 3) := by decide +kernel
theorem dX7_carryOut_27 : decode cX7_carryOut 27 = .ok (.aload_n 0, 1) := by decide +kernel
theorem dX7_carryOut_28 : decode cX7_carryOut 28 = .ok (.iload 4, 2) := by decide +kernel
theorem dX7_carryOut_30 : decode cX7_carryOut 30 = .ok (.invokevirtual 351, 3) := by decide +kernel
theorem dX7_carryOut_33 : decode cX7_carryOut 33 = .ok (.aload_n 0, 1) := by decide +kernel
theorem dX7_carryOut_34 : decode cX7_carryOut 34 = .ok (.getfield 10, 3) := by decide +kernel
theorem dX7_carryOut_37 : decode cX7_carryOut 37 = .ok (.aload_n 0, 1) := by decide +kernel
theorem dX7_carryOut_38 : decode cX7_carryOut 38 = .ok (.getfield 10, 3) := by decide +kernel
theorem dX7_carryOut_41 : decode cX7_carryOut 41 = .ok (.getfield 93, 3) := by decide +kernel
theorem dX7_carryOut_44 : decode cX7_carryOut 44 = .ok (.iload 4, 2) := by decide +kernel
theorem dX7_carryOut_46 : decode cX7_carryOut 46 = .ok (.iconst 0, 1) := by decide +kernel
theorem dX7_carryOut_47 : decode cX7_carryOut 47 = .ok (.invokevirtual 102, 3) := by decide +kernel
theorem dX7_carryOut_50 : decode cX7_carryOut 50 = .ok (.aload_n 0, 1) := by decide +kernel
theorem dX7_carryOut_51 : decode cX7_carryOut 51 = .ok (.getfield 10, 3) := by decide +kernel
theorem dX7_carryOut_54 : decode cX7_carryOut 54 = .ok (.aload_n 0, 1) := by decide +kernel
theorem dX7_carryOut_55 : decode cX7_carryOut 55 = .ok (.getfield 10, 3) := by decide +kernel
theorem dX7_carryOut_58 : decode cX7_carryOut 58 = .ok (.getfield 181, 3) := by decide +kernel
theorem dX7_carryOut_61 : decode cX7_carryOut 61 = .ok (.iload 4, 2) := by decide +kernel
theorem dX7_carryOut_63 : decode cX7_carryOut 63 = .ok (.iconst 0, 1) := by decide +kernel
theorem dX7_carryOut_64 : decode cX7_carryOut 64 = .ok (.invokevirtual 102, 3) := by decide +kernel
theorem dX7_carryOut_67 : decode cX7_carryOut 67 = .ok (.goto 39, 3) := by decide +kernel
theorem dX7_carryOut_70 : decode cX7_carryOut 70 = .ok (.iload_n 3, 1) := by decide +kernel
theorem dX7_carryOut_71 : decode cX7_carryOut 71 = .ok (.bipush 114, 2) := by decide +kernel
theorem dX7_carryOut_73 : decode cX7_carryOut 73 = .ok (.if_icmp .ne 12, 3) := by decide +kernel
theorem dX7_carryOut_76 : decode cX7_carryOut 76 = .ok (.aload_n 0, 1) := by decide +kernel
theorem dX7_carryOut_77 : decode cX7_carryOut 77 = .ok (.iload 4, 2) := by decide +kernel
theorem dX7_carryOut_79 : decode cX7_carryOut 79 = .ok (.invokevirtual 155, 3) := by decide +kernel
theorem dX7_carryOut_82 : decode cX7_carryOut 82 = .ok (.goto 24, 3) := by decide +kernel
theorem dX7_carryOut_85 : decode cX7_carryOut 85 = .ok (.aload_n 0, 1) := by decide +kernel
theorem dX7_carryOut_86 : decode cX7_carryOut 86 = .ok (.getfield 19, 3) := by decide +kernel
theorem dX7_carryOut_89 : decode cX7_carryOut 89 = .ok (.getfield 167, 3) := by decide +kernel
theorem dX7_carryOut_92 : decode cX7_carryOut 92 = .ok (.iload 4, 2) := by decide +kernel
theorem dX7_carryOut_94 : decode cX7_carryOut 94 = .ok (.iload_n 3, 1) := by decide +kernel
theorem dX7_carryOut_95 : decode cX7_carryOut 95 = .ok (.bipush 99, 2) := by decide +kernel
theorem dX7_carryOut_97 : decode cX7_carryOut 97 = .ok (.if_icmp .ne 7, 3) := by decide +kernel
theorem dX7_carryOut_100 : decode cX7_carryOut 100 = .ok (.iconst 1, 1) := by decide +kernel
theorem dX7_carryOut_101 : decode cX7_carryOut 101 = .ok (.goto 4, 3) := by decide +kernel
theorem dX7_carryOut_104 : decode cX7_carryOut 104 = .ok (.iconst 0, 1) := by decide +kernel
theorem dX7_carryOut_105 : decode cX7_carryOut 105 = .ok (.bastore, 1) := by decide +kernel
theorem dX7_carryOut_106 : decode cX7_carryOut 106 = .ok (.aload_n 0, 1) := by decide +kernel
theorem dX7_carryOut_107 : decode cX7_carryOut 107 = .ok (.getfield 40, 3) := by decide +kernel
theorem dX7_carryOut_110 : decode cX7_carryOut 110 = .ok (.iload_n 1, 1) := by decide +kernel
theorem dX7_carryOut_111 : decode cX7_carryOut 111 = .ok (.iload_n 3, 1) := by decide +kernel
theorem dX7_carryOut_112 : decode cX7_carryOut 112 = .ok (.invokestatic 345, 3) := by decide +kernel
theorem dX7_carryOut_115 : decode cX7_carryOut 115 = .ok (.invokevirtual 357, 3) := by decide +kernel
theorem dX7_carryOut_118 : decode cX7_carryOut 118 = .ok (.aload_n 0, 1) := by decide +kernel
theorem dX7_carryOut_119 : decode cX7_carryOut 119 = .ok (.getfield 33, 3) := by decide +kernel
theorem dX7_carryOut_122 : decode cX7_carryOut 122 = .ok (.getfield 233, 3) := by decide +kernel
theorem dX7_carryOut_125 : decode cX7_carryOut 125 = .ok (.iload_n 2, 1) := by decide +kernel
theorem dX7_carryOut_126 : decode cX7_carryOut 126 = .ok (.iload_n 1, 1) := by decide +kernel
theorem dX7_carryOut_127 : decode cX7_carryOut 127 = .ok (.iastore, 1) := by decide +kernel
theorem dX7_carryOut_128 : decode cX7_carryOut 128 = .ok (.return_, 1) := by decide +kernel
