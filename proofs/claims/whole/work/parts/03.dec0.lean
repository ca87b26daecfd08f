/-! decode rows -/
theorem dX0_init_0 : decode cX0_init 0 = .ok (.aload_n 0, 1) := by decide +kernel
theorem dX0_init_1 : decode cX0_init 1 = .ok (.invokespecial 1, 3) := by decide +kernel
theorem dX0_init_4 : decode cX0_init 4 = .ok (.aload_n 0, 1) := by decide +kernel
theorem dX0_init_5 : decode cX0_init 5 = .ok (.sipush 4096, 3) := by decide +kernel
theorem dX0_init_8 : decode cX0_init 8 = .ok (.newarray .long, 2) := by decide +kernel
theorem dX0_init_10 : decode cX0_init 10 = .ok (.putfield 9, 3) := by decide +kernel
theorem dX0_init_13 : decode cX0_init 13 = .ok (.aload_n 0, 1) := by decide +kernel
theorem dX0_init_14 : decode cX0_init 14 = .ok (.sipush 8000, 3) := by decide +kernel
theorem dX0_init_17 : decode cX0_init 17 = .ok (.newarray .long, 2) := by decide +kernel
theorem dX0_init_19 : decode cX0_init 19 = .ok (.putfield 13, 3) := by decide +kernel
theorem dX0_init_22 : decode cX0_init 22 = .ok (.aload_n 0, 1) := by decide +kernel
theorem dX0_init_23 : decode cX0_init 23 = .ok (.invokevirtual 16, 3) := by decide +kernel
theorem dX0_init_26 : decode cX0_init 26 = .ok (.return_, 1) := by decide +kernel
theorem dX0_feed_0 : decode cX0_feed 0 = .ok (.iload_n 3, 1) := by decide +kernel
theorem dX0_feed_1 : decode cX0_feed 1 = .ok (.iconst 1, 1) := by decide +kernel
theorem dX0_feed_2 : decode cX0_feed 2 = .ok (.if_icmp .lt 9, 3) := by decide +kernel
theorem dX0_feed_5 : decode cX0_feed 5 = .ok (.iload_n 3, 1) := by decide +kernel
theorem dX0_feed_6 : decode cX0_feed 6 = .ok (.bipush 8, 2) := by decide +kernel
theorem dX0_feed_8 : decode cX0_feed 8 = .ok (.if_icmp .le 5, 3) := by decide +kernel
theorem dX0_feed_11 : decode cX0_feed 11 = .ok (.iconst (-1), 1) := by decide +kernel
theorem dX0_feed_12 : decode cX0_feed 12 = .ok (.ireturn, 1) := by decide +kernel
theorem dX0_feed_13 : decode cX0_feed 13 = .ok (.aload_n 0, 1) := by decide +kernel
theorem dX0_feed_14 : decode cX0_feed 14 = .ok (.getfield 19, 3) := by decide +kernel
theorem dX0_feed_17 : decode cX0_feed 17 = .ok (.iload_n 3, 1) := by decide +kernel
theorem dX0_feed_18 : decode cX0_feed 18 = .ok (.iadd, 1) := by decide +kernel
theorem dX0_feed_19 : decode cX0_feed 19 = .ok (.ldc 23, 2) := by decide +kernel
theorem dX0_feed_21 : decode cX0_feed 21 = .ok (.if_icmp .le 6, 3) := by decide +kernel
theorem dX0_feed_24 : decode cX0_feed 24 = .ok (.bipush (-3), 2) := by decide +kernel
theorem dX0_feed_26 : decode cX0_feed 26 = .ok (.ireturn, 1) := by decide +kernel
theorem dX0_feed_27 : decode cX0_feed 27 = .ok (.iconst 0, 1) := by decide +kernel
theorem dX0_feed_28 : decode cX0_feed 28 = .ok (.istore 4, 2) := by decide +kernel
theorem dX0_feed_30 : decode cX0_feed 30 = .ok (.iload 4, 2) := by decide +kernel
theorem dX0_feed_32 : decode cX0_feed 32 = .ok (.iload_n 3, 1) := by decide +kernel
theorem dX0_feed_33 : decode cX0_feed 33 = .ok (.if_icmp .ge 25, 3) := by decide +kernel
theorem dX0_feed_36 : decode cX0_feed 36 = .ok (.aload_n 0, 1) := by decide +kernel
theorem dX0_feed_37 : decode cX0_feed 37 = .ok (.lload_n 1, 1) := by decide +kernel
theorem dX0_feed_38 : decode cX0_feed 38 = .ok (.bipush 8, 2) := by decide +kernel
theorem dX0_feed_40 : decode cX0_feed 40 = .ok (.iload 4, 2) := by decide +kernel
theorem dX0_feed_42 : decode cX0_feed 42 = .ok (.imul, 1) := by decide +kernel
theorem dX0_feed_43 : decode cX0_feed 43 = .ok (.lushr, 1) := by decide +kernel
theorem dX0_feed_44 : decode cX0_feed 44 = .ok (.l2i, 1) := by decide +kernel
theorem dX0_feed_45 : decode cX0_feed 45 = .ok (.sipush 255, 3) := by decide +kernel
theorem dX0_feed_48 : decode cX0_feed 48 = .ok (.iand, 1) := by decide +kernel
theorem dX0_feed_49 : decode cX0_feed 49 = .ok (.invokevirtual 24, 3) := by decide +kernel
theorem dX0_feed_52 : decode cX0_feed 52 = .ok (.iinc 4 1, 3) := by decide +kernel
theorem dX0_feed_55 : decode cX0_feed 55 = .ok (.goto (-25), 3) := by decide +kernel
theorem dX0_feed_58 : decode cX0_feed 58 = .ok (.aload_n 0, 1) := by decide +kernel
theorem dX0_feed_59 : decode cX0_feed 59 = .ok (.getfield 19, 3) := by decide +kernel
theorem dX0_feed_62 : decode cX0_feed 62 = .ok (.ireturn, 1) := by decide +kernel
theorem dX0_again_0 : decode cX0_again 0 = .ok (.iload_n 1, 1) := by decide +kernel
theorem dX0_again_1 : decode cX0_again 1 = .ok (.ifCond .lt 26, 3) := by decide +kernel
theorem dX0_again_4 : decode cX0_again 4 = .ok (.iload_n 2, 1) := by decide +kernel
theorem dX0_again_5 : decode cX0_again 5 = .ok (.iconst 1, 1) := by decide +kernel
theorem dX0_again_6 : decode cX0_again 6 = .ok (.if_icmp .lt 21, 3) := by decide +kernel
theorem dX0_again_9 : decode cX0_again 9 = .ok (.iload_n 2, 1) := by decide +kernel
theorem dX0_again_10 : decode cX0_again 10 = .ok (.aload_n 0, 1) := by decide +kernel
theorem dX0_again_11 : decode cX0_again 11 = .ok (.getfield 19, 3) := by decide +kernel
theorem dX0_again_14 : decode cX0_again 14 = .ok (.if_icmp .gt 13, 3) := by decide +kernel
theorem dX0_again_17 : decode cX0_again 17 = .ok (.iload_n 1, 1) := by decide +kernel
theorem dX0_again_18 : decode cX0_again 18 = .ok (.aload_n 0, 1) := by decide +kernel
theorem dX0_again_19 : decode cX0_again 19 = .ok (.getfield 19, 3) := by decide +kernel
theorem dX0_again_22 : decode cX0_again 22 = .ok (.iload_n 2, 1) := by decide +kernel
theorem dX0_again_23 : decode cX0_again 23 = .ok (.isub, 1) := by decide +kernel
theorem dX0_again_24 : decode cX0_again 24 = .ok (.if_icmp .le 5, 3) := by decide +kernel
theorem dX0_again_27 : decode cX0_again 27 = .ok (.iconst (-1), 1) := by decide +kernel
theorem dX0_again_28 : decode cX0_again 28 = .ok (.ireturn, 1) := by decide +kernel
theorem dX0_again_29 : decode cX0_again 29 = .ok (.aload_n 0, 1) := by decide +kernel
theorem dX0_again_30 : decode cX0_again 30 = .ok (.getfield 19, 3) := by decide +kernel
theorem dX0_again_33 : decode cX0_again 33 = .ok (.iload_n 2, 1) := by decide +kernel
theorem dX0_again_34 : decode cX0_again 34 = .ok (.iadd, 1) := by decide +kernel
theorem dX0_again_35 : decode cX0_again 35 = .ok (.ldc 23, 2) := by decide +kernel
theorem dX0_again_37 : decode cX0_again 37 = .ok (.if_icmp .le 6, 3) := by decide +kernel
theorem dX0_again_40 : decode cX0_again 40 = .ok (.bipush (-3), 2) := by decide +kernel
theorem dX0_again_42 : decode cX0_again 42 = .ok (.ireturn, 1) := by decide +kernel
theorem dX0_again_43 : decode cX0_again 43 = .ok (.iconst 0, 1) := by decide +kernel
theorem dX0_again_44 : decode cX0_again 44 = .ok (.istore_n 3, 1) := by decide +kernel
theorem dX0_again_45 : decode cX0_again 45 = .ok (.iload_n 3, 1) := by decide +kernel
theorem dX0_again_46 : decode cX0_again 46 = .ok (.iload_n 2, 1) := by decide +kernel
theorem dX0_again_47 : decode cX0_again 47 = .ok (.if_icmp .ge 20, 3) := by decide +kernel
theorem dX0_again_50 : decode cX0_again 50 = .ok (.aload_n 0, 1) := by decide +kernel
theorem dX0_again_51 : decode cX0_again 51 = .ok (.aload_n 0, 1) := by decide +kernel
theorem dX0_again_52 : decode cX0_again 52 = .ok (.iload_n 1, 1) := by decide +kernel
theorem dX0_again_53 : decode cX0_again 53 = .ok (.iload_n 3, 1) := by decide +kernel
theorem dX0_again_54 : decode cX0_again 54 = .ok (.iadd, 1) := by decide +kernel
theorem dX0_again_55 : decode cX0_again 55 = .ok (.invokevirtual 28, 3) := by decide +kernel
theorem dX0_again_58 : decode cX0_again 58 = .ok (.invokevirtual 24, 3) := by decide +kernel
theorem dX0_again_61 : decode cX0_again 61 = .ok (.iinc 3 1, 3) := by decide +kernel
theorem dX0_again_64 : decode cX0_again 64 = .ok (.goto (-19), 3) := by decide +kernel
theorem dX0_again_67 : decode cX0_again 67 = .ok (.aload_n 0, 1) := by decide +kernel
theorem dX0_again_68 : decode cX0_again 68 = .ok (.getfield 19, 3) := by decide +kernel
theorem dX0_again_71 : decode cX0_again 71 = .ok (.ireturn, 1) := by decide +kernel
theorem dX0_clear_0 : decode cX0_clear 0 = .ok (.aload_n 0, 1) := by decide +kernel
theorem dX0_clear_1 : decode cX0_clear 1 = .ok (.getfield 19, 3) := by decide +kernel
theorem dX0_clear_4 : decode cX0_clear 4 = .ok (.istore_n 1, 1) := by decide +kernel
theorem dX0_clear_5 : decode cX0_clear 5 = .ok (.aload_n 0, 1) := by decide +kernel
theorem dX0_clear_6 : decode cX0_clear 6 = .ok (.iconst 0, 1) := by decide +kernel
theorem dX0_clear_7 : decode cX0_clear 7 = .ok (.putfield 19, 3) := by decide +kernel
theorem dX0_clear_10 : decode cX0_clear 10 = .ok (.aload_n 0, 1) := by decide +kernel
theorem dX0_clear_11 : decode cX0_clear 11 = .ok (.invokevirtual 16, 3) := by decide +kernel
theorem dX0_clear_14 : decode cX0_clear 14 = .ok (.iload_n 1, 1) := by decide +kernel
theorem dX0_clear_15 : decode cX0_clear 15 = .ok (.ireturn, 1) := by decide +kernel
theorem dX0_begin_0 : decode cX0_begin 0 = .ok (.aload_n 0, 1) := by decide +kernel
theorem dX0_begin_1 : decode cX0_begin 1 = .ok (.invokevirtual 16, 3) := by decide +kernel
theorem dX0_begin_4 : decode cX0_begin 4 = .ok (.return_, 1) := by decide +kernel
theorem dX0_next_0 : decode cX0_next 0 = .ok (.aload_n 0, 1) := by decide +kernel
theorem dX0_next_1 : decode cX0_next 1 = .ok (.iconst 0, 1) := by decide +kernel
theorem dX0_next_2 : decode cX0_next 2 = .ok (.putfield 32, 3) := by decide +kernel
theorem dX0_next_5 : decode cX0_next 5 = .ok (.aload_n 0, 1) := by decide +kernel
theorem dX0_next_6 : decode cX0_next 6 = .ok (.getfield 35, 3) := by decide +kernel
theorem dX0_next_9 : decode cX0_next 9 = .ok (.ifCond .eq 6, 3) := by decide +kernel
theorem dX0_next_12 : decode cX0_next 12 = .ok (.bipush (-2), 2) := by decide +kernel
theorem dX0_next_14 : decode cX0_next 14 = .ok (.ireturn, 1) := by decide +kernel
theorem dX0_next_15 : decode cX0_next 15 = .ok (.aload_n 0, 1) := by decide +kernel
theorem dX0_next_16 : decode cX0_next 16 = .ok (.aload_n 0, 1) := by decide +kernel
theorem dX0_next_17 : decode cX0_next 17 = .ok (.aload_n 0, 1) := by decide +kernel
theorem dX0_next_18 : decode cX0_next 18 = .ok (.getfield 39, 3) := by decide +kernel
theorem dX0_next_21 : decode cX0_next 21 = .ok (.invokevirtual 42, 3) := by decide +kernel
theorem dX0_next_24 : decode cX0_next 24 = .ok (.invokevirtual 45, 3) := by decide +kernel
theorem dX0_next_27 : decode cX0_next 27 = .ok (.pop, 1) := by decide +kernel
theorem dX0_next_28 : decode cX0_next 28 = .ok (.aload_n 0, 1) := by decide +kernel
theorem dX0_next_29 : decode cX0_next 29 = .ok (.getfield 39, 3) := by decide +kernel
theorem dX0_next_32 : decode cX0_next 32 = .ok (.aload_n 0, 1) := by decide +kernel
theorem dX0_next_33 : decode cX0_next 33 = .ok (.getfield 19, 3) := by decide +kernel
theorem dX0_next_36 : decode cX0_next 36 = .ok (.if_icmp .lt 6, 3) := by decide +kernel
theorem dX0_next_39 : decode cX0_next 39 = .ok (.bipush (-2), 2) := by decide +kernel
theorem dX0_next_41 : decode cX0_next 41 = .ok (.ireturn, 1) := by decide +kernel
theorem dX0_next_42 : decode cX0_next 42 = .ok (.aload_n 0, 1) := by decide +kernel
theorem dX0_next_43 : decode cX0_next 43 = .ok (.invokevirtual 48, 3) := by decide +kernel
theorem dX0_next_46 : decode cX0_next 46 = .ok (.iconst 0, 1) := by decide +kernel
theorem dX0_next_47 : decode cX0_next 47 = .ok (.istore_n 1, 1) := by decide +kernel
theorem dX0_next_48 : decode cX0_next 48 = .ok (.iconst 0, 1) := by decide +kernel
theorem dX0_next_49 : decode cX0_next 49 = .ok (.istore_n 2, 1) := by decide +kernel
theorem dX0_next_50 : decode cX0_next 50 = .ok (.iconst 0, 1) := by decide +kernel
theorem dX0_next_51 : decode cX0_next 51 = .ok (.istore_n 3, 1) := by decide +kernel
theorem dX0_next_52 : decode cX0_next 52 = .ok (.iload_n 3, 1) := by decide +kernel
theorem dX0_next_53 : decode cX0_next 53 = .ok (.ldc 23, 2) := by decide +kernel
theorem dX0_next_55 : decode cX0_next 55 = .ok (.if_icmp .ge 52, 3) := by decide +kernel
theorem dX0_next_58 : decode cX0_next 58 = .ok (.aload_n 0, 1) := by decide +kernel
theorem dX0_next_59 : decode cX0_next 59 = .ok (.getfield 39, 3) := by decide +kernel
theorem dX0_next_62 : decode cX0_next 62 = .ok (.aload_n 0, 1) := by decide +kernel
theorem dX0_next_63 : decode cX0_next 63 = .ok (.getfield 19, 3) := by decide +kernel
theorem dX0_next_66 : decode cX0_next 66 = .ok (.if_icmp .ge 41, 3) := by decide +kernel
theorem dX0_next_69 : decode cX0_next 69 = .ok (.iload_n 2, 1) := by decide +kernel
theorem dX0_next_70 : decode cX0_next 70 = .ok (.ifCond .ne 37, 3) := by decide +kernel
theorem dX0_next_73 : decode cX0_next 73 = .ok (.iload_n 1, 1) := by decide +kernel
theorem dX0_next_74 : decode cX0_next 74 = .ok (.ifCond .ne 33, 3) := by decide +kernel
theorem dX0_next_77 : decode cX0_next 77 = .ok (.aload_n 0, 1) := by decide +kernel
theorem dX0_next_78 : decode cX0_next 78 = .ok (.aload_n 0, 1) := by decide +kernel
theorem dX0_next_79 : decode cX0_next 79 = .ok (.getfield 39, 3) := by decide +kernel
theorem dX0_next_82 : decode cX0_next 82 = .ok (.invokevirtual 28, 3) := by decide +kernel
theorem dX0_next_85 : decode cX0_next 85 = .ok (.bipush 10, 2) := by decide +kernel
theorem dX0_next_87 : decode cX0_next 87 = .ok (.if_icmp .ne 7, 3) := by decide +kernel
theorem dX0_next_90 : decode cX0_next 90 = .ok (.iconst 1, 1) := by decide +kernel
theorem dX0_next_91 : decode cX0_next 91 = .ok (.goto 4, 3) := by decide +kernel
theorem dX0_next_94 : decode cX0_next 94 = .ok (.iconst 0, 1) := by decide +kernel
theorem dX0_next_95 : decode cX0_next 95 = .ok (.istore_n 2, 1) := by decide +kernel
theorem dX0_next_96 : decode cX0_next 96 = .ok (.aload_n 0, 1) := by decide +kernel
theorem dX0_next_97 : decode cX0_next 97 = .ok (.invokevirtual 51, 3) := by decide +kernel
theorem dX0_next_100 : decode cX0_next 100 = .ok (.istore_n 1, 1) := by decide +kernel
theorem dX0_next_101 : decode cX0_next 101 = .ok (.iinc 3 1, 3) := by decide +kernel
theorem dX0_next_104 : decode cX0_next 104 = .ok (.goto (-52), 3) := by decide +kernel
theorem dX0_next_107 : decode cX0_next 107 = .ok (.iload_n 1, 1) := by decide +kernel
theorem dX0_next_108 : decode cX0_next 108 = .ok (.ifCond .ne 8, 3) := by decide +kernel
theorem dX0_next_111 : decode cX0_next 111 = .ok (.aload_n 0, 1) := by decide +kernel
theorem dX0_next_112 : decode cX0_next 112 = .ok (.invokevirtual 55, 3) := by decide +kernel
theorem dX0_next_115 : decode cX0_next 115 = .ok (.istore_n 1, 1) := by decide +kernel
theorem dX0_next_116 : decode cX0_next 116 = .ok (.iload_n 1, 1) := by decide +kernel
theorem dX0_next_117 : decode cX0_next 117 = .ok (.ifCond .ne 10, 3) := by decide +kernel
theorem dX0_next_120 : decode cX0_next 120 = .ok (.aload_n 0, 1) := by decide +kernel
theorem dX0_next_121 : decode cX0_next 121 = .ok (.getfield 32, 3) := by decide +kernel
theorem dX0_next_124 : decode cX0_next 124 = .ok (.goto 7, 3) := by decide +kernel
theorem dX0_next_127 : decode cX0_next 127 = .ok (.bipush (-10), 2) := by decide +kernel
theorem dX0_next_129 : decode cX0_next 129 = .ok (.iload_n 1, 1) := by decide +kernel
theorem dX0_next_130 : decode cX0_next 130 = .ok (.isub, 1) := by decide +kernel
theorem dX0_next_131 : decode cX0_next 131 = .ok (.ireturn, 1) := by decide +kernel
theorem dX0_told_0 : decode cX0_told 0 = .ok (.iload_n 1, 1) := by decide +kernel
theorem dX0_told_1 : decode cX0_told 1 = .ok (.tableswitch 70 0 3 #[31, 44, 49, 54], 31) := by decide +kernel
theorem dX0_told_32 : decode cX0_told 32 = .ok (.aload_n 0, 1) := by decide +kernel
theorem dX0_told_33 : decode cX0_told 33 = .ok (.invokevirtual 58, 3) := by decide +kernel
theorem dX0_told_36 : decode cX0_told 36 = .ok (.ifCond .eq 7, 3) := by decide +kernel
theorem dX0_told_39 : decode cX0_told 39 = .ok (.iconst 1, 1) := by decide +kernel
theorem dX0_told_40 : decode cX0_told 40 = .ok (.goto 4, 3) := by decide +kernel
theorem dX0_told_43 : decode cX0_told 43 = .ok (.iconst 0, 1) := by decide +kernel
theorem dX0_told_44 : decode cX0_told 44 = .ok (.ireturn, 1) := by decide +kernel
theorem dX0_told_45 : decode cX0_told 45 = .ok (.aload_n 0, 1) := by decide +kernel
theorem dX0_told_46 : decode cX0_told 46 = .ok (.getfield 62, 3) := by decide +kernel
theorem dX0_told_49 : decode cX0_told 49 = .ok (.ireturn, 1) := by decide +kernel
theorem dX0_told_50 : decode cX0_told 50 = .ok (.aload_n 0, 1) := by decide +kernel
theorem dX0_told_51 : decode cX0_told 51 = .ok (.getfield 65, 3) := by decide +kernel
theorem dX0_told_54 : decode cX0_told 54 = .ok (.ireturn, 1) := by decide +kernel
theorem dX0_told_55 : decode cX0_told 55 = .ok (.aload_n 0, 1) := by decide +kernel
theorem dX0_told_56 : decode cX0_told 56 = .ok (.getfield 35, 3) := by decide +kernel
theorem dX0_told_59 : decode cX0_told 59 = .ok (.ifCond .eq 7, 3) := by decide +kernel
theorem dX0_told_62 : decode cX0_told 62 = .ok (.iconst 0, 1) := by decide +kernel
theorem dX0_told_63 : decode cX0_told 63 = .ok (.goto 7, 3) := by decide +kernel
theorem dX0_told_66 : decode cX0_told 66 = .ok (.aload_n 0, 1) := by decide +kernel
theorem dX0_told_67 : decode cX0_told 67 = .ok (.getfield 68, 3) := by decide +kernel
theorem dX0_told_70 : decode cX0_told 70 = .ok (.ireturn, 1) := by decide +kernel
theorem dX0_told_71 : decode cX0_told 71 = .ok (.iconst (-1), 1) := by decide +kernel
theorem dX0_told_72 : decode cX0_told 72 = .ok (.ireturn, 1) := by decide +kernel
theorem dX0_token_0 : decode cX0_token 0 = .ok (.aload_n 0, 1) := by decide +kernel
theorem dX0_token_1 : decode cX0_token 1 = .ok (.iload_n 1, 1) := by decide +kernel
theorem dX0_token_2 : decode cX0_token 2 = .ok (.invokevirtual 71, 3) := by decide +kernel
theorem dX0_token_5 : decode cX0_token 5 = .ok (.ifCond .ne 5, 3) := by decide +kernel
theorem dX0_token_8 : decode cX0_token 8 = .ok (.iconst (-1), 1) := by decide +kernel
theorem dX0_token_9 : decode cX0_token 9 = .ok (.ireturn, 1) := by decide +kernel
theorem dX0_token_10 : decode cX0_token 10 = .ok (.aload_n 0, 1) := by decide +kernel
theorem dX0_token_11 : decode cX0_token 11 = .ok (.getfield 13, 3) := by decide +kernel
theorem dX0_token_14 : decode cX0_token 14 = .ok (.iload_n 1, 1) := by decide +kernel
theorem dX0_token_15 : decode cX0_token 15 = .ok (.laload, 1) := by decide +kernel
theorem dX0_token_16 : decode cX0_token 16 = .ok (.lstore_n 3, 1) := by decide +kernel
theorem dX0_token_17 : decode cX0_token 17 = .ok (.iload_n 2, 1) := by decide +kernel
theorem dX0_token_18 : decode cX0_token 18 = .ok (.tableswitch 75 0 4 #[34, 43, 52, 57, 65], 34) := by decide +kernel
theorem dX0_token_52 : decode cX0_token 52 = .ok (.lload_n 3, 1) := by decide +kernel
theorem dX0_token_53 : decode cX0_token 53 = .ok (.bipush 48, 2) := by decide +kernel
theorem dX0_token_55 : decode cX0_token 55 = .ok (.lushr, 1) := by decide +kernel
theorem dX0_token_56 : decode cX0_token 56 = .ok (.l2i, 1) := by decide +kernel
theorem dX0_token_57 : decode cX0_token 57 = .ok (.bipush 15, 2) := by decide +kernel
theorem dX0_token_59 : decode cX0_token 59 = .ok (.iand, 1) := by decide +kernel
theorem dX0_token_60 : decode cX0_token 60 = .ok (.ireturn, 1) := by decide +kernel
theorem dX0_token_61 : decode cX0_token 61 = .ok (.lload_n 3, 1) := by decide +kernel
theorem dX0_token_62 : decode cX0_token 62 = .ok (.bipush 32, 2) := by decide +kernel
theorem dX0_token_64 : decode cX0_token 64 = .ok (.lushr, 1) := by decide +kernel
theorem dX0_token_65 : decode cX0_token 65 = .ok (.l2i, 1) := by decide +kernel
theorem dX0_token_66 : decode cX0_token 66 = .ok (.ldc 75, 2) := by decide +kernel
theorem dX0_token_68 : decode cX0_token 68 = .ok (.iand, 1) := by decide +kernel
theorem dX0_token_69 : decode cX0_token 69 = .ok (.ireturn, 1) := by decide +kernel
theorem dX0_token_70 : decode cX0_token 70 = .ok (.lload_n 3, 1) := by decide +kernel
theorem dX0_token_71 : decode cX0_token 71 = .ok (.invokestatic 76, 3) := by decide +kernel
theorem dX0_token_74 : decode cX0_token 74 = .ok (.ireturn, 1) := by decide +kernel
theorem dX0_token_75 : decode cX0_token 75 = .ok (.lload_n 3, 1) := by decide +kernel
theorem dX0_token_76 : decode cX0_token 76 = .ok (.bipush 52, 2) := by decide +kernel
theorem dX0_token_78 : decode cX0_token 78 = .ok (.lushr, 1) := by decide +kernel
theorem dX0_token_79 : decode cX0_token 79 = .ok (.l2i, 1) := by decide +kernel
theorem dX0_token_80 : decode cX0_token 80 = .ok (.iconst 1, 1) := by decide +kernel
theorem dX0_token_81 : decode cX0_token 81 = .ok (.iand, 1) := by decide +kernel
theorem dX0_token_82 : decode cX0_token 82 = .ok (.ireturn, 1) := by decide +kernel
theorem dX0_token_83 : decode cX0_token 83 = .ok (.iload_n 1, 1) := by decide +kernel
theorem dX0_token_84 : decode cX0_token 84 = .ok (.ifCond .ne 7, 3) := by decide +kernel
theorem dX0_token_87 : decode cX0_token 87 = .ok (.iconst 1, 1) := by decide +kernel
theorem dX0_token_88 : decode cX0_token 88 = .ok (.goto 4, 3) := by decide +kernel
theorem dX0_token_91 : decode cX0_token 91 = .ok (.iconst 0, 1) := by decide +kernel
theorem dX0_token_92 : decode cX0_token 92 = .ok (.ireturn, 1) := by decide +kernel
theorem dX0_token_93 : decode cX0_token 93 = .ok (.iconst (-1), 1) := by decide +kernel
theorem dX0_token_94 : decode cX0_token 94 = .ok (.ireturn, 1) := by decide +kernel
theorem dX0_spelling_0 : decode cX0_spelling 0 = .ok (.aload_n 0, 1) := by decide +kernel
theorem dX0_spelling_1 : decode cX0_spelling 1 = .ok (.iload_n 1, 1) := by decide +kernel
theorem dX0_spelling_2 : decode cX0_spelling 2 = .ok (.invokevirtual 71, 3) := by decide +kernel
theorem dX0_spelling_5 : decode cX0_spelling 5 = .ok (.ifCond .eq 7, 3) := by decide +kernel
theorem dX0_spelling_8 : decode cX0_spelling 8 = .ok (.iload_n 2, 1) := by decide +kernel
theorem dX0_spelling_9 : decode cX0_spelling 9 = .ok (.ifCond .ge 5, 3) := by decide +kernel
theorem dX0_spelling_12 : decode cX0_spelling 12 = .ok (.lconst 0, 1) := by decide +kernel
theorem dX0_spelling_13 : decode cX0_spelling 13 = .ok (.lreturn, 1) := by decide +kernel
theorem dX0_spelling_14 : decode cX0_spelling 14 = .ok (.aload_n 0, 1) := by decide +kernel
theorem dX0_spelling_15 : decode cX0_spelling 15 = .ok (.getfield 13, 3) := by decide +kernel
theorem dX0_spelling_18 : decode cX0_spelling 18 = .ok (.iload_n 1, 1) := by decide +kernel
theorem dX0_spelling_19 : decode cX0_spelling 19 = .ok (.laload, 1) := by decide +kernel
theorem dX0_spelling_20 : decode cX0_spelling 20 = .ok (.invokestatic 76, 3) := by decide +kernel
theorem dX0_spelling_23 : decode cX0_spelling 23 = .ok (.istore_n 3, 1) := by decide +kernel
theorem dX0_spelling_24 : decode cX0_spelling 24 = .ok (.iload_n 2, 1) := by decide +kernel
theorem dX0_spelling_25 : decode cX0_spelling 25 = .ok (.iload_n 3, 1) := by decide +kernel
theorem dX0_spelling_26 : decode cX0_spelling 26 = .ok (.bipush 8, 2) := by decide +kernel
theorem dX0_spelling_28 : decode cX0_spelling 28 = .ok (.idiv, 1) := by decide +kernel
theorem dX0_spelling_29 : decode cX0_spelling 29 = .ok (.if_icmp .le 5, 3) := by decide +kernel
theorem dX0_spelling_32 : decode cX0_spelling 32 = .ok (.lconst 0, 1) := by decide +kernel
theorem dX0_spelling_33 : decode cX0_spelling 33 = .ok (.lreturn, 1) := by decide +kernel
theorem dX0_spelling_34 : decode cX0_spelling 34 = .ok (.aload_n 0, 1) := by decide +kernel
theorem dX0_spelling_35 : decode cX0_spelling 35 = .ok (.getfield 13, 3) := by decide +kernel
theorem dX0_spelling_38 : decode cX0_spelling 38 = .ok (.iload_n 1, 1) := by decide +kernel
theorem dX0_spelling_39 : decode cX0_spelling 39 = .ok (.laload, 1) := by decide +kernel
theorem dX0_spelling_40 : decode cX0_spelling 40 = .ok (.invokestatic 80, 3) := by decide +kernel
theorem dX0_spelling_43 : decode cX0_spelling 43 = .ok (.istore 4, 2) := by decide +kernel
theorem dX0_spelling_45 : decode cX0_spelling 45 = .ok (.iconst 0, 1) := by decide +kernel
theorem dX0_spelling_46 : decode cX0_spelling 46 = .ok (.istore 5, 2) := by decide +kernel
theorem dX0_spelling_48 : decode cX0_spelling 48 = .ok (.iload 5, 2) := by decide +kernel
theorem dX0_spelling_50 : decode cX0_spelling 50 = .ok (.bipush 8, 2) := by decide +kernel
theorem dX0_spelling_52 : decode cX0_spelling 52 = .ok (.iload_n 2, 1) := by decide +kernel
theorem dX0_spelling_53 : decode cX0_spelling 53 = .ok (.imul, 1) := by decide +kernel
theorem dX0_spelling_54 : decode cX0_spelling 54 = .ok (.if_icmp .ge 19, 3) := by decide +kernel
theorem dX0_spelling_57 : decode cX0_spelling 57 = .ok (.aload_n 0, 1) := by decide +kernel
theorem dX0_spelling_58 : decode cX0_spelling 58 = .ok (.iload 4, 2) := by decide +kernel
theorem dX0_spelling_60 : decode cX0_spelling 60 = .ok (.iconst 1, 1) := by decide +kernel
theorem dX0_spelling_61 : decode cX0_spelling 61 = .ok (.iadd, 1) := by decide +kernel
theorem dX0_spelling_62 : decode cX0_spelling 62 = .ok (.invokevirtual 42, 3) := by decide +kernel
theorem dX0_spelling_65 : decode cX0_spelling 65 = .ok (.istore 4, 2) := by decide +kernel
theorem dX0_spelling_67 : decode cX0_spelling 67 = .ok (.iinc 5 1, 3) := by decide +kernel
theorem dX0_spelling_70 : decode cX0_spelling 70 = .ok (.goto (-22), 3) := by decide +kernel
theorem dX0_spelling_73 : decode cX0_spelling 73 = .ok (.lconst 0, 1) := by decide +kernel
theorem dX0_spelling_74 : decode cX0_spelling 74 = .ok (.lstore 5, 2) := by decide +kernel
theorem dX0_spelling_76 : decode cX0_spelling 76 = .ok (.iconst 0, 1) := by decide +kernel
theorem dX0_spelling_77 : decode cX0_spelling 77 = .ok (.istore 7, 2) := by decide +kernel
theorem dX0_spelling_79 : decode cX0_spelling 79 = .ok (.iload 7, 2) := by decide +kernel
theorem dX0_spelling_81 : decode cX0_spelling 81 = .ok (.bipush 8, 2) := by decide +kernel
theorem dX0_spelling_83 : decode cX0_spelling 83 = .ok (.if_icmp .ge 52, 3) := by decide +kernel
theorem dX0_spelling_86 : decode cX0_spelling 86 = .ok (.bipush 8, 2) := by decide +kernel
theorem dX0_spelling_88 : decode cX0_spelling 88 = .ok (.iload_n 2, 1) := by decide +kernel
theorem dX0_spelling_89 : decode cX0_spelling 89 = .ok (.imul, 1) := by decide +kernel
theorem dX0_spelling_90 : decode cX0_spelling 90 = .ok (.iload 7, 2) := by decide +kernel
theorem dX0_spelling_92 : decode cX0_spelling 92 = .ok (.iadd, 1) := by decide +kernel
theorem dX0_spelling_93 : decode cX0_spelling 93 = .ok (.iload_n 3, 1) := by decide +kernel
theorem dX0_spelling_94 : decode cX0_spelling 94 = .ok (.if_icmp .ge 41, 3) := by decide +kernel
theorem dX0_spelling_97 : decode cX0_spelling 97 = .ok (.lload 5, 2) := by decide +kernel
theorem dX0_spelling_99 : decode cX0_spelling 99 = .ok (.aload_n 0, 1) := by decide +kernel
theorem dX0_spelling_100 : decode cX0_spelling 100 = .ok (.iload 4, 2) := by decide +kernel
theorem dX0_spelling_102 : decode cX0_spelling 102 = .ok (.invokevirtual 28, 3) := by decide +kernel
theorem dX0_spelling_105 : decode cX0_spelling 105 = .ok (.i2l, 1) := by decide +kernel
theorem dX0_spelling_106 : decode cX0_spelling 106 = .ok (.ldc2_w 83, 3) := by decide +kernel
theorem dX0_spelling_109 : decode cX0_spelling 109 = .ok (.land, 1) := by decide +kernel
theorem dX0_spelling_110 : decode cX0_spelling 110 = .ok (.bipush 8, 2) := by decide +kernel
theorem dX0_spelling_112 : decode cX0_spelling 112 = .ok (.iload 7, 2) := by decide +kernel
theorem dX0_spelling_114 : decode cX0_spelling 114 = .ok (.imul, 1) := by decide +kernel
theorem dX0_spelling_115 : decode cX0_spelling 115 = .ok (.lshl, 1) := by decide +kernel
theorem dX0_spelling_116 : decode cX0_spelling 116 = .ok (.lor, 1) := by decide +kernel
theorem dX0_spelling_117 : decode cX0_spelling 117 = .ok (.lstore 5, 2) := by decide +kernel
theorem dX0_spelling_119 : decode cX0_spelling 119 = .ok (.aload_n 0, 1) := by decide +kernel
theorem dX0_spelling_120 : decode cX0_spelling 120 = .ok (.iload 4, 2) := by decide +kernel
theorem dX0_spelling_122 : decode cX0_spelling 122 = .ok (.iconst 1, 1) := by decide +kernel
theorem dX0_spelling_123 : decode cX0_spelling 123 = .ok (.iadd, 1) := by decide +kernel
theorem dX0_spelling_124 : decode cX0_spelling 124 = .ok (.invokevirtual 42, 3) := by decide +kernel
theorem dX0_spelling_127 : decode cX0_spelling 127 = .ok (.istore 4, 2) := by decide +kernel
theorem dX0_spelling_129 : decode cX0_spelling 129 = .ok (.iinc 7 1, 3) := by decide +kernel
theorem dX0_spelling_132 : decode cX0_spelling 132 = .ok (.goto (-53), 3) := by decide +kernel
theorem dX0_spelling_135 : decode cX0_spelling 135 = .ok (.lload 5, 2) := by decide +kernel
theorem dX0_spelling_137 : decode cX0_spelling 137 = .ok (.lreturn, 1) := by decide +kernel
theorem dX0_restart_0 : decode cX0_restart 0 = .ok (.aload_n 0, 1) := by decide +kernel
theorem dX0_restart_1 : decode cX0_restart 1 = .ok (.iconst 0, 1) := by decide +kernel
theorem dX0_restart_2 : decode cX0_restart 2 = .ok (.putfield 39, 3) := by decide +kernel
theorem dX0_restart_5 : decode cX0_restart 5 = .ok (.aload_n 0, 1) := by decide +kernel
theorem dX0_restart_6 : decode cX0_restart 6 = .ok (.iconst 1, 1) := by decide +kernel
theorem dX0_restart_7 : decode cX0_restart 7 = .ok (.putfield 68, 3) := by decide +kernel
theorem dX0_restart_10 : decode cX0_restart 10 = .ok (.aload_n 0, 1) := by decide +kernel
theorem dX0_restart_11 : decode cX0_restart 11 = .ok (.iconst 0, 1) := by decide +kernel
theorem dX0_restart_12 : decode cX0_restart 12 = .ok (.putfield 62, 3) := by decide +kernel
theorem dX0_restart_15 : decode cX0_restart 15 = .ok (.aload_n 0, 1) := by decide +kernel
theorem dX0_restart_16 : decode cX0_restart 16 = .ok (.iconst 0, 1) := by decide +kernel
theorem dX0_restart_17 : decode cX0_restart 17 = .ok (.putfield 85, 3) := by decide +kernel
theorem dX0_restart_20 : decode cX0_restart 20 = .ok (.aload_n 0, 1) := by decide +kernel
theorem dX0_restart_21 : decode cX0_restart 21 = .ok (.iconst 0, 1) := by decide +kernel
theorem dX0_restart_22 : decode cX0_restart 22 = .ok (.putfield 65, 3) := by decide +kernel
theorem dX0_restart_25 : decode cX0_restart 25 = .ok (.aload_n 0, 1) := by decide +kernel
theorem dX0_restart_26 : decode cX0_restart 26 = .ok (.iconst 0, 1) := by decide +kernel
theorem dX0_restart_27 : decode cX0_restart 27 = .ok (.putfield 35, 3) := by decide +kernel
theorem dX0_restart_30 : decode cX0_restart 30 = .ok (.aload_n 0, 1) := by decide +kernel
theorem dX0_restart_31 : decode cX0_restart 31 = .ok (.iconst 0, 1) := by decide +kernel
theorem dX0_restart_32 : decode cX0_restart 32 = .ok (.putfield 32, 3) := by decide +kernel
theorem dX0_restart_35 : decode cX0_restart 35 = .ok (.return_, 1) := by decide +kernel
theorem dX0_append_0 : decode cX0_append 0 = .ok (.aload_n 0, 1) := by decide +kernel
theorem dX0_append_1 : decode cX0_append 1 = .ok (.getfield 19, 3) := by decide +kernel
theorem dX0_append_4 : decode cX0_append 4 = .ok (.iconst 3, 1) := by decide +kernel
theorem dX0_append_5 : decode cX0_append 5 = .ok (.ishr, 1) := by decide +kernel
theorem dX0_append_6 : decode cX0_append 6 = .ok (.istore_n 2, 1) := by decide +kernel
theorem dX0_append_7 : decode cX0_append 7 = .ok (.iload_n 2, 1) := by decide +kernel
theorem dX0_append_8 : decode cX0_append 8 = .ok (.ifCond .lt 12, 3) := by decide +kernel
theorem dX0_append_11 : decode cX0_append 11 = .ok (.iload_n 2, 1) := by decide +kernel
theorem dX0_append_12 : decode cX0_append 12 = .ok (.aload_n 0, 1) := by decide +kernel
theorem dX0_append_13 : decode cX0_append 13 = .ok (.getfield 9, 3) := by decide +kernel
theorem dX0_append_16 : decode cX0_append 16 = .ok (.arraylength, 1) := by decide +kernel
theorem dX0_append_17 : decode cX0_append 17 = .ok (.if_icmp .lt 4, 3) := by decide +kernel
theorem dX0_append_20 : decode cX0_append 20 = .ok (.return_, 1) := by decide +kernel
theorem dX0_append_21 : decode cX0_append 21 = .ok (.aload_n 0, 1) := by decide +kernel
theorem dX0_append_22 : decode cX0_append 22 = .ok (.getfield 19, 3) := by decide +kernel
theorem dX0_append_25 : decode cX0_append 25 = .ok (.bipush 7, 2) := by decide +kernel
theorem dX0_append_27 : decode cX0_append 27 = .ok (.iand, 1) := by decide +kernel
theorem dX0_append_28 : decode cX0_append 28 = .ok (.iconst 3, 1) := by decide +kernel
theorem dX0_append_29 : decode cX0_append 29 = .ok (.ishl, 1) := by decide +kernel
theorem dX0_append_30 : decode cX0_append 30 = .ok (.istore_n 3, 1) := by decide +kernel
theorem dX0_append_31 : decode cX0_append 31 = .ok (.aload_n 0, 1) := by decide +kernel
theorem dX0_append_32 : decode cX0_append 32 = .ok (.getfield 9, 3) := by decide +kernel
theorem dX0_append_35 : decode cX0_append 35 = .ok (.iload_n 2, 1) := by decide +kernel
theorem dX0_append_36 : decode cX0_append 36 = .ok (.aload_n 0, 1) := by decide +kernel
theorem dX0_append_37 : decode cX0_append 37 = .ok (.getfield 9, 3) := by decide +kernel
theorem dX0_append_40 : decode cX0_append 40 = .ok (.iload_n 2, 1) := by decide +kernel
theorem dX0_append_41 : decode cX0_append 41 = .ok (.laload, 1) := by decide +kernel
theorem dX0_append_42 : decode cX0_append 42 = .ok (.ldc2_w 83, 3) := by decide +kernel
theorem dX0_append_45 : decode cX0_append 45 = .ok (.iload_n 3, 1) := by decide +kernel
theorem dX0_append_46 : decode cX0_append 46 = .ok (.lshl, 1) := by decide +kernel
theorem dX0_append_47 : decode cX0_append 47 = .ok (.ldc2_w 88, 3) := by decide +kernel
theorem dX0_append_50 : decode cX0_append 50 = .ok (.lxor, 1) := by decide +kernel
theorem dX0_append_51 : decode cX0_append 51 = .ok (.land, 1) := by decide +kernel
theorem dX0_append_52 : decode cX0_append 52 = .ok (.iload_n 1, 1) := by decide +kernel
theorem dX0_append_53 : decode cX0_append 53 = .ok (.i2l, 1) := by decide +kernel
theorem dX0_append_54 : decode cX0_append 54 = .ok (.ldc2_w 83, 3) := by decide +kernel
theorem dX0_append_57 : decode cX0_append 57 = .ok (.land, 1) := by decide +kernel
theorem dX0_append_58 : decode cX0_append 58 = .ok (.iload_n 3, 1) := by decide +kernel
theorem dX0_append_59 : decode cX0_append 59 = .ok (.lshl, 1) := by decide +kernel
theorem dX0_append_60 : decode cX0_append 60 = .ok (.lor, 1) := by decide +kernel
theorem dX0_append_61 : decode cX0_append 61 = .ok (.lastore, 1) := by decide +kernel
theorem dX0_append_62 : decode cX0_append 62 = .ok (.aload_n 0, 1) := by decide +kernel
theorem dX0_append_63 : decode cX0_append 63 = .ok (.dup, 1) := by decide +kernel
theorem dX0_append_64 : decode cX0_append 64 = .ok (.getfield 19, 3) := by decide +kernel
theorem dX0_append_67 : decode cX0_append 67 = .ok (.iconst 1, 1) := by decide +kernel
theorem dX0_append_68 : decode cX0_append 68 = .ok (.iadd, 1) := by decide +kernel
theorem dX0_append_69 : decode cX0_append 69 = .ok (.putfield 19, 3) := by decide +kernel
theorem dX0_append_72 : decode cX0_append 72 = .ok (.return_, 1) := by decide +kernel
theorem dX0_byteAt_0 : decode cX0_byteAt 0 = .ok (.iload_n 1, 1) := by decide +kernel
theorem dX0_byteAt_1 : decode cX0_byteAt 1 = .ok (.iconst 3, 1) := by decide +kernel
theorem dX0_byteAt_2 : decode cX0_byteAt 2 = .ok (.ishr, 1) := by decide +kernel
theorem dX0_byteAt_3 : decode cX0_byteAt 3 = .ok (.istore_n 2, 1) := by decide +kernel
theorem dX0_byteAt_4 : decode cX0_byteAt 4 = .ok (.iload_n 1, 1) := by decide +kernel
theorem dX0_byteAt_5 : decode cX0_byteAt 5 = .ok (.ifCond .lt 20, 3) := by decide +kernel
theorem dX0_byteAt_8 : decode cX0_byteAt 8 = .ok (.iload_n 1, 1) := by decide +kernel
theorem dX0_byteAt_9 : decode cX0_byteAt 9 = .ok (.aload_n 0, 1) := by decide +kernel
theorem dX0_byteAt_10 : decode cX0_byteAt 10 = .ok (.getfield 19, 3) := by decide +kernel
theorem dX0_byteAt_13 : decode cX0_byteAt 13 = .ok (.if_icmp .ge 12, 3) := by decide +kernel
theorem dX0_byteAt_16 : decode cX0_byteAt 16 = .ok (.iload_n 2, 1) := by decide +kernel
theorem dX0_byteAt_17 : decode cX0_byteAt 17 = .ok (.aload_n 0, 1) := by decide +kernel
theorem dX0_byteAt_18 : decode cX0_byteAt 18 = .ok (.getfield 9, 3) := by decide +kernel
theorem dX0_byteAt_21 : decode cX0_byteAt 21 = .ok (.arraylength, 1) := by decide +kernel
theorem dX0_byteAt_22 : decode cX0_byteAt 22 = .ok (.if_icmp .lt 5, 3) := by decide +kernel
theorem dX0_byteAt_25 : decode cX0_byteAt 25 = .ok (.iconst (-1), 1) := by decide +kernel
theorem dX0_byteAt_26 : decode cX0_byteAt 26 = .ok (.ireturn, 1) := by decide +kernel
theorem dX0_byteAt_27 : decode cX0_byteAt 27 = .ok (.aload_n 0, 1) := by decide +kernel
theorem dX0_byteAt_28 : decode cX0_byteAt 28 = .ok (.getfield 9, 3) := by decide +kernel
theorem dX0_byteAt_31 : decode cX0_byteAt 31 = .ok (.iload_n 2, 1) := by decide +kernel
theorem dX0_byteAt_32 : decode cX0_byteAt 32 = .ok (.laload, 1) := by decide +kernel
theorem dX0_byteAt_33 : decode cX0_byteAt 33 = .ok (.iload_n 1, 1) := by decide +kernel
theorem dX0_byteAt_34 : decode cX0_byteAt 34 = .ok (.bipush 7, 2) := by decide +kernel
theorem dX0_byteAt_36 : decode cX0_byteAt 36 = .ok (.iand, 1) := by decide +kernel
theorem dX0_byteAt_37 : decode cX0_byteAt 37 = .ok (.iconst 3, 1) := by decide +kernel
theorem dX0_byteAt_38 : decode cX0_byteAt 38 = .ok (.ishl, 1) := by decide +kernel
theorem dX0_byteAt_39 : decode cX0_byteAt 39 = .ok (.lushr, 1) := by decide +kernel
theorem dX0_byteAt_40 : decode cX0_byteAt 40 = .ok (.l2i, 1) := by decide +kernel
theorem dX0_byteAt_41 : decode cX0_byteAt 41 = .ok (.sipush 255, 3) := by decide +kernel
theorem dX0_byteAt_44 : decode cX0_byteAt 44 = .ok (.iand, 1) := by decide +kernel
theorem dX0_byteAt_45 : decode cX0_byteAt 45 = .ok (.ireturn, 1) := by decide +kernel
theorem dX0_leftFrom_0 : decode cX0_leftFrom 0 = .ok (.iload_n 1, 1) := by decide +kernel
theorem dX0_leftFrom_1 : decode cX0_leftFrom 1 = .ok (.istore_n 2, 1) := by decide +kernel
theorem dX0_leftFrom_2 : decode cX0_leftFrom 2 = .ok (.iload_n 2, 1) := by decide +kernel
theorem dX0_leftFrom_3 : decode cX0_leftFrom 3 = .ok (.iconst 1, 1) := by decide +kernel
theorem dX0_leftFrom_4 : decode cX0_leftFrom 4 = .ok (.iadd, 1) := by decide +kernel
theorem dX0_leftFrom_5 : decode cX0_leftFrom 5 = .ok (.aload_n 0, 1) := by decide +kernel
theorem dX0_leftFrom_6 : decode cX0_leftFrom 6 = .ok (.getfield 19, 3) := by decide +kernel
theorem dX0_leftFrom_9 : decode cX0_leftFrom 9 = .ok (.if_icmp .ge 31, 3) := by decide +kernel
theorem dX0_leftFrom_12 : decode cX0_leftFrom 12 = .ok (.aload_n 0, 1) := by decide +kernel
theorem dX0_leftFrom_13 : decode cX0_leftFrom 13 = .ok (.iload_n 2, 1) := by decide +kernel
theorem dX0_leftFrom_14 : decode cX0_leftFrom 14 = .ok (.invokevirtual 28, 3) := by decide +kernel
theorem dX0_leftFrom_17 : decode cX0_leftFrom 17 = .ok (.bipush 92, 2) := by decide +kernel
theorem dX0_leftFrom_19 : decode cX0_leftFrom 19 = .ok (.if_icmp .ne 21, 3) := by decide +kernel
theorem dX0_leftFrom_22 : decode cX0_leftFrom 22 = .ok (.aload_n 0, 1) := by decide +kernel
theorem dX0_leftFrom_23 : decode cX0_leftFrom 23 = .ok (.iload_n 2, 1) := by decide +kernel
theorem dX0_leftFrom_24 : decode cX0_leftFrom 24 = .ok (.iconst 1, 1) := by decide +kernel
theorem dX0_leftFrom_25 : decode cX0_leftFrom 25 = .ok (.iadd, 1) := by decide +kernel
theorem dX0_leftFrom_26 : decode cX0_leftFrom 26 = .ok (.invokevirtual 28, 3) := by decide +kernel
theorem dX0_leftFrom_29 : decode cX0_leftFrom 29 = .ok (.bipush 10, 2) := by decide +kernel
theorem dX0_leftFrom_31 : decode cX0_leftFrom 31 = .ok (.if_icmp .ne 9, 3) := by decide +kernel
theorem dX0_leftFrom_34 : decode cX0_leftFrom 34 = .ok (.iinc 2 2, 3) := by decide +kernel
theorem dX0_leftFrom_37 : decode cX0_leftFrom 37 = .ok (.goto (-35), 3) := by decide +kernel
theorem dX0_leftFrom_40 : decode cX0_leftFrom 40 = .ok (.iload_n 2, 1) := by decide +kernel
theorem dX0_leftFrom_41 : decode cX0_leftFrom 41 = .ok (.ireturn, 1) := by decide +kernel
theorem dX0_pass_0 : decode cX0_pass 0 = .ok (.iconst 0, 1) := by decide +kernel
theorem dX0_pass_1 : decode cX0_pass 1 = .ok (.istore_n 2, 1) := by decide +kernel
theorem dX0_pass_2 : decode cX0_pass 2 = .ok (.aload_n 0, 1) := by decide +kernel
theorem dX0_pass_3 : decode cX0_pass 3 = .ok (.getfield 39, 3) := by decide +kernel
theorem dX0_pass_6 : decode cX0_pass 6 = .ok (.iload_n 1, 1) := by decide +kernel
theorem dX0_pass_7 : decode cX0_pass 7 = .ok (.if_icmp .ge 85, 3) := by decide +kernel
theorem dX0_pass_10 : decode cX0_pass 10 = .ok (.aload_n 0, 1) := by decide +kernel
theorem dX0_pass_11 : decode cX0_pass 11 = .ok (.aload_n 0, 1) := by decide +kernel
theorem dX0_pass_12 : decode cX0_pass 12 = .ok (.getfield 39, 3) := by decide +kernel
theorem dX0_pass_15 : decode cX0_pass 15 = .ok (.invokevirtual 42, 3) := by decide +kernel
theorem dX0_pass_18 : decode cX0_pass 18 = .ok (.istore_n 3, 1) := by decide +kernel
theorem dX0_pass_19 : decode cX0_pass 19 = .ok (.aload_n 0, 1) := by decide +kernel
theorem dX0_pass_20 : decode cX0_pass 20 = .ok (.dup, 1) := by decide +kernel
theorem dX0_pass_21 : decode cX0_pass 21 = .ok (.getfield 68, 3) := by decide +kernel
theorem dX0_pass_24 : decode cX0_pass 24 = .ok (.iload_n 3, 1) := by decide +kernel
theorem dX0_pass_25 : decode cX0_pass 25 = .ok (.aload_n 0, 1) := by decide +kernel
theorem dX0_pass_26 : decode cX0_pass 26 = .ok (.getfield 39, 3) := by decide +kernel
theorem dX0_pass_29 : decode cX0_pass 29 = .ok (.isub, 1) := by decide +kernel
theorem dX0_pass_30 : decode cX0_pass 30 = .ok (.iconst 2, 1) := by decide +kernel
theorem dX0_pass_31 : decode cX0_pass 31 = .ok (.idiv, 1) := by decide +kernel
theorem dX0_pass_32 : decode cX0_pass 32 = .ok (.iadd, 1) := by decide +kernel
theorem dX0_pass_33 : decode cX0_pass 33 = .ok (.putfield 68, 3) := by decide +kernel
theorem dX0_pass_36 : decode cX0_pass 36 = .ok (.aload_n 0, 1) := by decide +kernel
theorem dX0_pass_37 : decode cX0_pass 37 = .ok (.iload_n 3, 1) := by decide +kernel
theorem dX0_pass_38 : decode cX0_pass 38 = .ok (.putfield 39, 3) := by decide +kernel
theorem dX0_pass_41 : decode cX0_pass 41 = .ok (.aload_n 0, 1) := by decide +kernel
theorem dX0_pass_42 : decode cX0_pass 42 = .ok (.getfield 39, 3) := by decide +kernel
theorem dX0_pass_45 : decode cX0_pass 45 = .ok (.iload_n 1, 1) := by decide +kernel
theorem dX0_pass_46 : decode cX0_pass 46 = .ok (.if_icmp .ge 43, 3) := by decide +kernel
theorem dX0_pass_49 : decode cX0_pass 49 = .ok (.aload_n 0, 1) := by decide +kernel
theorem dX0_pass_50 : decode cX0_pass 50 = .ok (.dup, 1) := by decide +kernel
theorem dX0_pass_51 : decode cX0_pass 51 = .ok (.getfield 68, 3) := by decide +kernel
theorem dX0_pass_54 : decode cX0_pass 54 = .ok (.aload_n 0, 1) := by decide +kernel
theorem dX0_pass_55 : decode cX0_pass 55 = .ok (.aload_n 0, 1) := by decide +kernel
theorem dX0_pass_56 : decode cX0_pass 56 = .ok (.getfield 39, 3) := by decide +kernel
theorem dX0_pass_59 : decode cX0_pass 59 = .ok (.invokevirtual 28, 3) := by decide +kernel
theorem dX0_pass_62 : decode cX0_pass 62 = .ok (.bipush 10, 2) := by decide +kernel
theorem dX0_pass_64 : decode cX0_pass 64 = .ok (.if_icmp .ne 7, 3) := by decide +kernel
theorem dX0_pass_67 : decode cX0_pass 67 = .ok (.iconst 1, 1) := by decide +kernel
theorem dX0_pass_68 : decode cX0_pass 68 = .ok (.goto 4, 3) := by decide +kernel
theorem dX0_pass_71 : decode cX0_pass 71 = .ok (.iconst 0, 1) := by decide +kernel
theorem dX0_pass_72 : decode cX0_pass 72 = .ok (.iadd, 1) := by decide +kernel
theorem dX0_pass_73 : decode cX0_pass 73 = .ok (.putfield 68, 3) := by decide +kernel
theorem dX0_pass_76 : decode cX0_pass 76 = .ok (.iinc 2 1, 3) := by decide +kernel
theorem dX0_pass_79 : decode cX0_pass 79 = .ok (.aload_n 0, 1) := by decide +kernel
theorem dX0_pass_80 : decode cX0_pass 80 = .ok (.dup, 1) := by decide +kernel
theorem dX0_pass_81 : decode cX0_pass 81 = .ok (.getfield 39, 3) := by decide +kernel
theorem dX0_pass_84 : decode cX0_pass 84 = .ok (.iconst 1, 1) := by decide +kernel
theorem dX0_pass_85 : decode cX0_pass 85 = .ok (.iadd, 1) := by decide +kernel
theorem dX0_pass_86 : decode cX0_pass 86 = .ok (.putfield 39, 3) := by decide +kernel
theorem dX0_pass_89 : decode cX0_pass 89 = .ok (.goto (-87), 3) := by decide +kernel
theorem dX0_pass_92 : decode cX0_pass 92 = .ok (.iload_n 2, 1) := by decide +kernel
theorem dX0_pass_93 : decode cX0_pass 93 = .ok (.ireturn, 1) := by decide +kernel
theorem dX0_openLine_0 : decode cX0_openLine 0 = .ok (.aload_n 0, 1) := by decide +kernel
theorem dX0_openLine_1 : decode cX0_openLine 1 = .ok (.iconst 0, 1) := by decide +kernel
theorem dX0_openLine_2 : decode cX0_openLine 2 = .ok (.putfield 90, 3) := by decide +kernel
theorem dX0_openLine_5 : decode cX0_openLine 5 = .ok (.aload_n 0, 1) := by decide +kernel
theorem dX0_openLine_6 : decode cX0_openLine 6 = .ok (.iconst 1, 1) := by decide +kernel
theorem dX0_openLine_7 : decode cX0_openLine 7 = .ok (.putfield 93, 3) := by decide +kernel
theorem dX0_openLine_10 : decode cX0_openLine 10 = .ok (.aload_n 0, 1) := by decide +kernel
theorem dX0_openLine_11 : decode cX0_openLine 11 = .ok (.iconst 0, 1) := by decide +kernel
theorem dX0_openLine_12 : decode cX0_openLine 12 = .ok (.putfield 96, 3) := by decide +kernel
theorem dX0_openLine_15 : decode cX0_openLine 15 = .ok (.aload_n 0, 1) := by decide +kernel
theorem dX0_openLine_16 : decode cX0_openLine 16 = .ok (.iconst 0, 1) := by decide +kernel
theorem dX0_openLine_17 : decode cX0_openLine 17 = .ok (.putfield 99, 3) := by decide +kernel
theorem dX0_openLine_20 : decode cX0_openLine 20 = .ok (.return_, 1) := by decide +kernel
theorem dX0_closeLine_0 : decode cX0_closeLine 0 = .ok (.aload_n 0, 1) := by decide +kernel
theorem dX0_closeLine_1 : decode cX0_closeLine 1 = .ok (.getfield 90, 3) := by decide +kernel
theorem dX0_closeLine_4 : decode cX0_closeLine 4 = .ok (.ifCond .ne 5, 3) := by decide +kernel
theorem dX0_closeLine_7 : decode cX0_closeLine 7 = .ok (.iconst 0, 1) := by decide +kernel
theorem dX0_closeLine_8 : decode cX0_closeLine 8 = .ok (.ireturn, 1) := by decide +kernel
theorem dX0_closeLine_9 : decode cX0_closeLine 9 = .ok (.aload_n 0, 1) := by decide +kernel
theorem dX0_closeLine_10 : decode cX0_closeLine 10 = .ok (.getfield 62, 3) := by decide +kernel
theorem dX0_closeLine_13 : decode cX0_closeLine 13 = .ok (.sipush 20000, 3) := by decide +kernel
theorem dX0_closeLine_16 : decode cX0_closeLine 16 = .ok (.if_icmp .lt 14, 3) := by decide +kernel
theorem dX0_closeLine_19 : decode cX0_closeLine 19 = .ok (.aload_n 0, 1) := by decide +kernel
theorem dX0_closeLine_20 : decode cX0_closeLine 20 = .ok (.aload_n 0, 1) := by decide +kernel
theorem dX0_closeLine_21 : decode cX0_closeLine 21 = .ok (.getfield 102, 3) := by decide +kernel
theorem dX0_closeLine_24 : decode cX0_closeLine 24 = .ok (.bipush 21, 2) := by decide +kernel
theorem dX0_closeLine_26 : decode cX0_closeLine 26 = .ok (.invokevirtual 105, 3) := by decide +kernel
theorem dX0_closeLine_29 : decode cX0_closeLine 29 = .ok (.ireturn, 1) := by decide +kernel
theorem dX0_closeLine_30 : decode cX0_closeLine 30 = .ok (.aload_n 0, 1) := by decide +kernel
theorem dX0_closeLine_31 : decode cX0_closeLine 31 = .ok (.dup, 1) := by decide +kernel
theorem dX0_closeLine_32 : decode cX0_closeLine 32 = .ok (.getfield 62, 3) := by decide +kernel
theorem dX0_closeLine_35 : decode cX0_closeLine 35 = .ok (.iconst 1, 1) := by decide +kernel
theorem dX0_closeLine_36 : decode cX0_closeLine 36 = .ok (.iadd, 1) := by decide +kernel
theorem dX0_closeLine_37 : decode cX0_closeLine 37 = .ok (.putfield 62, 3) := by decide +kernel
theorem dX0_closeLine_40 : decode cX0_closeLine 40 = .ok (.aload_n 0, 1) := by decide +kernel
theorem dX0_closeLine_41 : decode cX0_closeLine 41 = .ok (.getfield 90, 3) := by decide +kernel
theorem dX0_closeLine_44 : decode cX0_closeLine 44 = .ok (.sipush 8000, 3) := by decide +kernel
theorem dX0_closeLine_47 : decode cX0_closeLine 47 = .ok (.if_icmp .le 14, 3) := by decide +kernel
theorem dX0_closeLine_50 : decode cX0_closeLine 50 = .ok (.aload_n 0, 1) := by decide +kernel
theorem dX0_closeLine_51 : decode cX0_closeLine 51 = .ok (.aload_n 0, 1) := by decide +kernel
theorem dX0_closeLine_52 : decode cX0_closeLine 52 = .ok (.getfield 109, 3) := by decide +kernel
theorem dX0_closeLine_55 : decode cX0_closeLine 55 = .ok (.bipush 21, 2) := by decide +kernel
theorem dX0_closeLine_57 : decode cX0_closeLine 57 = .ok (.invokevirtual 105, 3) := by decide +kernel
theorem dX0_closeLine_60 : decode cX0_closeLine 60 = .ok (.ireturn, 1) := by decide +kernel
theorem dX0_closeLine_61 : decode cX0_closeLine 61 = .ok (.aload_n 0, 1) := by decide +kernel
theorem dX0_closeLine_62 : decode cX0_closeLine 62 = .ok (.aload_n 0, 1) := by decide +kernel
theorem dX0_closeLine_63 : decode cX0_closeLine 63 = .ok (.getfield 90, 3) := by decide +kernel
theorem dX0_closeLine_66 : decode cX0_closeLine 66 = .ok (.putfield 32, 3) := by decide +kernel
theorem dX0_closeLine_69 : decode cX0_closeLine 69 = .ok (.iconst 0, 1) := by decide +kernel
theorem dX0_closeLine_70 : decode cX0_closeLine 70 = .ok (.ireturn, 1) := by decide +kernel
theorem dX0_stopAt_0 : decode cX0_stopAt 0 = .ok (.aload_n 0, 1) := by decide +kernel
theorem dX0_stopAt_1 : decode cX0_stopAt 1 = .ok (.iconst 1, 1) := by decide +kernel
theorem dX0_stopAt_2 : decode cX0_stopAt 2 = .ok (.putfield 35, 3) := by decide +kernel
theorem dX0_stopAt_5 : decode cX0_stopAt 5 = .ok (.aload_n 0, 1) := by decide +kernel
theorem dX0_stopAt_6 : decode cX0_stopAt 6 = .ok (.iload_n 1, 1) := by decide +kernel
theorem dX0_stopAt_7 : decode cX0_stopAt 7 = .ok (.putfield 65, 3) := by decide +kernel
theorem dX0_stopAt_10 : decode cX0_stopAt 10 = .ok (.iload_n 2, 1) := by decide +kernel
theorem dX0_stopAt_11 : decode cX0_stopAt 11 = .ok (.ireturn, 1) := by decide +kernel
theorem dX0_cutPiece_0 : decode cX0_cutPiece 0 = .ok (.aload_n 0, 1) := by decide +kernel
theorem dX0_cutPiece_1 : decode cX0_cutPiece 1 = .ok (.aload_n 0, 1) := by decide +kernel
theorem dX0_cutPiece_2 : decode cX0_cutPiece 2 = .ok (.getfield 39, 3) := by decide +kernel
theorem dX0_cutPiece_5 : decode cX0_cutPiece 5 = .ok (.invokevirtual 28, 3) := by decide +kernel
theorem dX0_cutPiece_8 : decode cX0_cutPiece 8 = .ok (.istore_n 1, 1) := by decide +kernel
theorem dX0_cutPiece_9 : decode cX0_cutPiece 9 = .ok (.aload_n 0, 1) := by decide +kernel
theorem dX0_cutPiece_10 : decode cX0_cutPiece 10 = .ok (.aload_n 0, 1) := by decide +kernel
theorem dX0_cutPiece_11 : decode cX0_cutPiece 11 = .ok (.getfield 39, 3) := by decide +kernel
theorem dX0_cutPiece_14 : decode cX0_cutPiece 14 = .ok (.iconst 1, 1) := by decide +kernel
theorem dX0_cutPiece_15 : decode cX0_cutPiece 15 = .ok (.iadd, 1) := by decide +kernel
theorem dX0_cutPiece_16 : decode cX0_cutPiece 16 = .ok (.invokevirtual 42, 3) := by decide +kernel
theorem dX0_cutPiece_19 : decode cX0_cutPiece 19 = .ok (.istore_n 2, 1) := by decide +kernel
theorem dX0_cutPiece_20 : decode cX0_cutPiece 20 = .ok (.aload_n 0, 1) := by decide +kernel
theorem dX0_cutPiece_21 : decode cX0_cutPiece 21 = .ok (.iload_n 2, 1) := by decide +kernel
theorem dX0_cutPiece_22 : decode cX0_cutPiece 22 = .ok (.invokevirtual 28, 3) := by decide +kernel
theorem dX0_cutPiece_25 : decode cX0_cutPiece 25 = .ok (.istore_n 3, 1) := by decide +kernel
theorem dX0_cutPiece_26 : decode cX0_cutPiece 26 = .ok (.iload_n 1, 1) := by decide +kernel
theorem dX0_cutPiece_27 : decode cX0_cutPiece 27 = .ok (.bipush 10, 2) := by decide +kernel
theorem dX0_cutPiece_29 : decode cX0_cutPiece 29 = .ok (.if_icmp .ne 14, 3) := by decide +kernel
theorem dX0_cutPiece_32 : decode cX0_cutPiece 32 = .ok (.aload_n 0, 1) := by decide +kernel
theorem dX0_cutPiece_33 : decode cX0_cutPiece 33 = .ok (.aload_n 0, 1) := by decide +kernel
theorem dX0_cutPiece_34 : decode cX0_cutPiece 34 = .ok (.getfield 39, 3) := by decide +kernel
theorem dX0_cutPiece_37 : decode cX0_cutPiece 37 = .ok (.iconst 1, 1) := by decide +kernel
theorem dX0_cutPiece_38 : decode cX0_cutPiece 38 = .ok (.iadd, 1) := by decide +kernel
theorem dX0_cutPiece_39 : decode cX0_cutPiece 39 = .ok (.invokevirtual 112, 3) := by decide +kernel
theorem dX0_cutPiece_42 : decode cX0_cutPiece 42 = .ok (.ireturn, 1) := by decide +kernel
theorem dX0_cutPiece_43 : decode cX0_cutPiece 43 = .ok (.iload_n 1, 1) := by decide +kernel
theorem dX0_cutPiece_44 : decode cX0_cutPiece 44 = .ok (.invokestatic 115, 3) := by decide +kernel
theorem dX0_cutPiece_47 : decode cX0_cutPiece 47 = .ok (.ifCond .eq 9, 3) := by decide +kernel
theorem dX0_cutPiece_50 : decode cX0_cutPiece 50 = .ok (.aload_n 0, 1) := by decide +kernel
theorem dX0_cutPiece_51 : decode cX0_cutPiece 51 = .ok (.iload_n 2, 1) := by decide +kernel
theorem dX0_cutPiece_52 : decode cX0_cutPiece 52 = .ok (.invokevirtual 112, 3) := by decide +kernel
theorem dX0_cutPiece_55 : decode cX0_cutPiece 55 = .ok (.ireturn, 1) := by decide +kernel
theorem dX0_cutPiece_56 : decode cX0_cutPiece 56 = .ok (.iload_n 1, 1) := by decide +kernel
theorem dX0_cutPiece_57 : decode cX0_cutPiece 57 = .ok (.bipush 47, 2) := by decide +kernel
theorem dX0_cutPiece_59 : decode cX0_cutPiece 59 = .ok (.if_icmp .ne 21, 3) := by decide +kernel
theorem dX0_cutPiece_62 : decode cX0_cutPiece 62 = .ok (.iload_n 3, 1) := by decide +kernel
theorem dX0_cutPiece_63 : decode cX0_cutPiece 63 = .ok (.bipush 42, 2) := by decide +kernel
theorem dX0_cutPiece_65 : decode cX0_cutPiece 65 = .ok (.if_icmp .ne 15, 3) := by decide +kernel
theorem dX0_cutPiece_68 : decode cX0_cutPiece 68 = .ok (.aload_n 0, 1) := by decide +kernel
theorem dX0_cutPiece_69 : decode cX0_cutPiece 69 = .ok (.aload_n 0, 1) := by decide +kernel
theorem dX0_cutPiece_70 : decode cX0_cutPiece 70 = .ok (.iload_n 2, 1) := by decide +kernel
theorem dX0_cutPiece_71 : decode cX0_cutPiece 71 = .ok (.iconst 1, 1) := by decide +kernel
theorem dX0_cutPiece_72 : decode cX0_cutPiece 72 = .ok (.iadd, 1) := by decide +kernel
theorem dX0_cutPiece_73 : decode cX0_cutPiece 73 = .ok (.invokevirtual 42, 3) := by decide +kernel
theorem dX0_cutPiece_76 : decode cX0_cutPiece 76 = .ok (.invokevirtual 118, 3) := by decide +kernel
theorem dX0_cutPiece_79 : decode cX0_cutPiece 79 = .ok (.ireturn, 1) := by decide +kernel
theorem dX0_cutPiece_80 : decode cX0_cutPiece 80 = .ok (.iload_n 1, 1) := by decide +kernel
theorem dX0_cutPiece_81 : decode cX0_cutPiece 81 = .ok (.bipush 47, 2) := by decide +kernel
theorem dX0_cutPiece_83 : decode cX0_cutPiece 83 = .ok (.if_icmp .ne 19, 3) := by decide +kernel
theorem dX0_cutPiece_86 : decode cX0_cutPiece 86 = .ok (.iload_n 3, 1) := by decide +kernel
theorem dX0_cutPiece_87 : decode cX0_cutPiece 87 = .ok (.bipush 47, 2) := by decide +kernel
theorem dX0_cutPiece_89 : decode cX0_cutPiece 89 = .ok (.if_icmp .ne 13, 3) := by decide +kernel
theorem dX0_cutPiece_92 : decode cX0_cutPiece 92 = .ok (.aload_n 0, 1) := by decide +kernel
theorem dX0_cutPiece_93 : decode cX0_cutPiece 93 = .ok (.aload_n 0, 1) := by decide +kernel
theorem dX0_cutPiece_94 : decode cX0_cutPiece 94 = .ok (.iload_n 2, 1) := by decide +kernel
theorem dX0_cutPiece_95 : decode cX0_cutPiece 95 = .ok (.invokevirtual 121, 3) := by decide +kernel
theorem dX0_cutPiece_98 : decode cX0_cutPiece 98 = .ok (.invokevirtual 112, 3) := by decide +kernel
theorem dX0_cutPiece_101 : decode cX0_cutPiece 101 = .ok (.ireturn, 1) := by decide +kernel
theorem dX0_cutPiece_102 : decode cX0_cutPiece 102 = .ok (.iload_n 1, 1) := by decide +kernel
theorem dX0_cutPiece_103 : decode cX0_cutPiece 103 = .ok (.invokestatic 124, 3) := by decide +kernel
theorem dX0_cutPiece_106 : decode cX0_cutPiece 106 = .ok (.ifCond .eq 9, 3) := by decide +kernel
theorem dX0_cutPiece_109 : decode cX0_cutPiece 109 = .ok (.aload_n 0, 1) := by decide +kernel
theorem dX0_cutPiece_110 : decode cX0_cutPiece 110 = .ok (.iload_n 1, 1) := by decide +kernel
theorem dX0_cutPiece_111 : decode cX0_cutPiece 111 = .ok (.invokevirtual 127, 3) := by decide +kernel
theorem dX0_cutPiece_114 : decode cX0_cutPiece 114 = .ok (.ireturn, 1) := by decide +kernel
theorem dX0_cutPiece_115 : decode cX0_cutPiece 115 = .ok (.iload_n 1, 1) := by decide +kernel
theorem dX0_cutPiece_116 : decode cX0_cutPiece 116 = .ok (.bipush 76, 2) := by decide +kernel
theorem dX0_cutPiece_118 : decode cX0_cutPiece 118 = .ok (.if_icmp .ne 17, 3) := by decide +kernel
theorem dX0_cutPiece_121 : decode cX0_cutPiece 121 = .ok (.iload_n 3, 1) := by decide +kernel
theorem dX0_cutPiece_122 : decode cX0_cutPiece 122 = .ok (.invokestatic 124, 3) := by decide +kernel
theorem dX0_cutPiece_125 : decode cX0_cutPiece 125 = .ok (.ifCond .eq 10, 3) := by decide +kernel
theorem dX0_cutPiece_128 : decode cX0_cutPiece 128 = .ok (.aload_n 0, 1) := by decide +kernel
theorem dX0_cutPiece_129 : decode cX0_cutPiece 129 = .ok (.iload_n 2, 1) := by decide +kernel
theorem dX0_cutPiece_130 : decode cX0_cutPiece 130 = .ok (.iload_n 3, 1) := by decide +kernel
theorem dX0_cutPiece_131 : decode cX0_cutPiece 131 = .ok (.invokevirtual 130, 3) := by decide +kernel
theorem dX0_cutPiece_134 : decode cX0_cutPiece 134 = .ok (.ireturn, 1) := by decide +kernel
theorem dX0_cutPiece_135 : decode cX0_cutPiece 135 = .ok (.iload_n 1, 1) := by decide +kernel
theorem dX0_cutPiece_136 : decode cX0_cutPiece 136 = .ok (.invokestatic 133, 3) := by decide +kernel
theorem dX0_cutPiece_139 : decode cX0_cutPiece 139 = .ok (.ifCond .eq 14, 3) := by decide +kernel
theorem dX0_cutPiece_142 : decode cX0_cutPiece 142 = .ok (.aload_n 0, 1) := by decide +kernel
theorem dX0_cutPiece_143 : decode cX0_cutPiece 143 = .ok (.iconst 1, 1) := by decide +kernel
theorem dX0_cutPiece_144 : decode cX0_cutPiece 144 = .ok (.aload_n 0, 1) := by decide +kernel
theorem dX0_cutPiece_145 : decode cX0_cutPiece 145 = .ok (.iload_n 2, 1) := by decide +kernel
theorem dX0_cutPiece_146 : decode cX0_cutPiece 146 = .ok (.invokevirtual 136, 3) := by decide +kernel
theorem dX0_cutPiece_149 : decode cX0_cutPiece 149 = .ok (.invokevirtual 139, 3) := by decide +kernel
theorem dX0_cutPiece_152 : decode cX0_cutPiece 152 = .ok (.ireturn, 1) := by decide +kernel
theorem dX0_cutPiece_153 : decode cX0_cutPiece 153 = .ok (.iload_n 1, 1) := by decide +kernel
theorem dX0_cutPiece_154 : decode cX0_cutPiece 154 = .ok (.invokestatic 142, 3) := by decide +kernel
theorem dX0_cutPiece_157 : decode cX0_cutPiece 157 = .ok (.ifCond .ne 16, 3) := by decide +kernel
theorem dX0_cutPiece_160 : decode cX0_cutPiece 160 = .ok (.iload_n 1, 1) := by decide +kernel
theorem dX0_cutPiece_161 : decode cX0_cutPiece 161 = .ok (.bipush 46, 2) := by decide +kernel
theorem dX0_cutPiece_163 : decode cX0_cutPiece 163 = .ok (.if_icmp .ne 22, 3) := by decide +kernel
theorem dX0_cutPiece_166 : decode cX0_cutPiece 166 = .ok (.iload_n 3, 1) := by decide +kernel
theorem dX0_cutPiece_167 : decode cX0_cutPiece 167 = .ok (.invokestatic 142, 3) := by decide +kernel
theorem dX0_cutPiece_170 : decode cX0_cutPiece 170 = .ok (.ifCond .eq 15, 3) := by decide +kernel
theorem dX0_cutPiece_173 : decode cX0_cutPiece 173 = .ok (.aload_n 0, 1) := by decide +kernel
theorem dX0_cutPiece_174 : decode cX0_cutPiece 174 = .ok (.iconst 2, 1) := by decide +kernel
theorem dX0_cutPiece_175 : decode cX0_cutPiece 175 = .ok (.aload_n 0, 1) := by decide +kernel
theorem dX0_cutPiece_176 : decode cX0_cutPiece 176 = .ok (.iload_n 2, 1) := by decide +kernel
theorem dX0_cutPiece_177 : decode cX0_cutPiece 177 = .ok (.iload_n 1, 1) := by decide +kernel
theorem dX0_cutPiece_178 : decode cX0_cutPiece 178 = .ok (.invokevirtual 145, 3) := by decide +kernel
theorem dX0_cutPiece_181 : decode cX0_cutPiece 181 = .ok (.invokevirtual 139, 3) := by decide +kernel
theorem dX0_cutPiece_184 : decode cX0_cutPiece 184 = .ok (.ireturn, 1) := by decide +kernel
theorem dX0_cutPiece_185 : decode cX0_cutPiece 185 = .ok (.aload_n 0, 1) := by decide +kernel
theorem dX0_cutPiece_186 : decode cX0_cutPiece 186 = .ok (.iload_n 1, 1) := by decide +kernel
theorem dX0_cutPiece_187 : decode cX0_cutPiece 187 = .ok (.iload_n 3, 1) := by decide +kernel
theorem dX0_cutPiece_188 : decode cX0_cutPiece 188 = .ok (.iload_n 2, 1) := by decide +kernel
theorem dX0_cutPiece_189 : decode cX0_cutPiece 189 = .ok (.invokevirtual 148, 3) := by decide +kernel
theorem dX0_cutPiece_192 : decode cX0_cutPiece 192 = .ok (.ireturn, 1) := by decide +kernel
theorem dX0_passBlank_0 : decode cX0_passBlank 0 = .ok (.aload_n 0, 1) := by decide +kernel
theorem dX0_passBlank_1 : decode cX0_passBlank 1 = .ok (.iload_n 1, 1) := by decide +kernel
theorem dX0_passBlank_2 : decode cX0_passBlank 2 = .ok (.invokevirtual 45, 3) := by decide +kernel
theorem dX0_passBlank_5 : decode cX0_passBlank 5 = .ok (.pop, 1) := by decide +kernel
theorem dX0_passBlank_6 : decode cX0_passBlank 6 = .ok (.aload_n 0, 1) := by decide +kernel
theorem dX0_passBlank_7 : decode cX0_passBlank 7 = .ok (.iconst 1, 1) := by decide +kernel
theorem dX0_passBlank_8 : decode cX0_passBlank 8 = .ok (.putfield 93, 3) := by decide +kernel
theorem dX0_passBlank_11 : decode cX0_passBlank 11 = .ok (.iconst 0, 1) := by decide +kernel
theorem dX0_passBlank_12 : decode cX0_passBlank 12 = .ok (.ireturn, 1) := by decide +kernel
theorem dX0_passComment_0 : decode cX0_passComment 0 = .ok (.aload_n 0, 1) := by decide +kernel
theorem dX0_passComment_1 : decode cX0_passComment 1 = .ok (.iload_n 1, 1) := by decide +kernel
theorem dX0_passComment_2 : decode cX0_passComment 2 = .ok (.invokevirtual 152, 3) := by decide +kernel
theorem dX0_passComment_5 : decode cX0_passComment 5 = .ok (.istore_n 2, 1) := by decide +kernel
theorem dX0_passComment_6 : decode cX0_passComment 6 = .ok (.iload_n 2, 1) := by decide +kernel
theorem dX0_passComment_7 : decode cX0_passComment 7 = .ok (.iconst (-1), 1) := by decide +kernel
theorem dX0_passComment_8 : decode cX0_passComment 8 = .ok (.if_icmp .ne 13, 3) := by decide +kernel
theorem dX0_passComment_11 : decode cX0_passComment 11 = .ok (.aload_n 0, 1) := by decide +kernel
theorem dX0_passComment_12 : decode cX0_passComment 12 = .ok (.aload_n 0, 1) := by decide +kernel
theorem dX0_passComment_13 : decode cX0_passComment 13 = .ok (.getfield 68, 3) := by decide +kernel
theorem dX0_passComment_16 : decode cX0_passComment 16 = .ok (.iconst 1, 1) := by decide +kernel
theorem dX0_passComment_17 : decode cX0_passComment 17 = .ok (.invokevirtual 105, 3) := by decide +kernel
theorem dX0_passComment_20 : decode cX0_passComment 20 = .ok (.ireturn, 1) := by decide +kernel
theorem dX0_passComment_21 : decode cX0_passComment 21 = .ok (.aload_n 0, 1) := by decide +kernel
theorem dX0_passComment_22 : decode cX0_passComment 22 = .ok (.iload_n 2, 1) := by decide +kernel
theorem dX0_passComment_23 : decode cX0_passComment 23 = .ok (.invokevirtual 112, 3) := by decide +kernel
theorem dX0_passComment_26 : decode cX0_passComment 26 = .ok (.ireturn, 1) := by decide +kernel
theorem dX0_cutQuote_0 : decode cX0_cutQuote 0 = .ok (.aload_n 0, 1) := by decide +kernel
theorem dX0_cutQuote_1 : decode cX0_cutQuote 1 = .ok (.aload_n 0, 1) := by decide +kernel
theorem dX0_cutQuote_2 : decode cX0_cutQuote 2 = .ok (.getfield 39, 3) := by decide +kernel
theorem dX0_cutQuote_5 : decode cX0_cutQuote 5 = .ok (.iload_n 1, 1) := by decide +kernel
theorem dX0_cutQuote_6 : decode cX0_cutQuote 6 = .ok (.invokevirtual 155, 3) := by decide +kernel
theorem dX0_cutQuote_9 : decode cX0_cutQuote 9 = .ok (.istore_n 2, 1) := by decide +kernel
theorem dX0_cutQuote_10 : decode cX0_cutQuote 10 = .ok (.iload_n 2, 1) := by decide +kernel
theorem dX0_cutQuote_11 : decode cX0_cutQuote 11 = .ok (.iconst (-1), 1) := by decide +kernel
theorem dX0_cutQuote_12 : decode cX0_cutQuote 12 = .ok (.if_icmp .eq 13, 3) := by decide +kernel
theorem dX0_cutQuote_15 : decode cX0_cutQuote 15 = .ok (.aload_n 0, 1) := by decide +kernel
theorem dX0_cutQuote_16 : decode cX0_cutQuote 16 = .ok (.iload_n 1, 1) := by decide +kernel
theorem dX0_cutQuote_17 : decode cX0_cutQuote 17 = .ok (.invokestatic 158, 3) := by decide +kernel
theorem dX0_cutQuote_20 : decode cX0_cutQuote 20 = .ok (.iload_n 2, 1) := by decide +kernel
theorem dX0_cutQuote_21 : decode cX0_cutQuote 21 = .ok (.invokevirtual 139, 3) := by decide +kernel
theorem dX0_cutQuote_24 : decode cX0_cutQuote 24 = .ok (.ireturn, 1) := by decide +kernel
theorem dX0_cutQuote_25 : decode cX0_cutQuote 25 = .ok (.aload_n 0, 1) := by decide +kernel
theorem dX0_cutQuote_26 : decode cX0_cutQuote 26 = .ok (.getfield 85, 3) := by decide +kernel
theorem dX0_cutQuote_29 : decode cX0_cutQuote 29 = .ok (.sipush 1000, 3) := by decide +kernel
theorem dX0_cutQuote_32 : decode cX0_cutQuote 32 = .ok (.if_icmp .lt 14, 3) := by decide +kernel
theorem dX0_cutQuote_35 : decode cX0_cutQuote 35 = .ok (.aload_n 0, 1) := by decide +kernel
theorem dX0_cutQuote_36 : decode cX0_cutQuote 36 = .ok (.aload_n 0, 1) := by decide +kernel
theorem dX0_cutQuote_37 : decode cX0_cutQuote 37 = .ok (.getfield 68, 3) := by decide +kernel
theorem dX0_cutQuote_40 : decode cX0_cutQuote 40 = .ok (.bipush 21, 2) := by decide +kernel
theorem dX0_cutQuote_42 : decode cX0_cutQuote 42 = .ok (.invokevirtual 105, 3) := by decide +kernel
theorem dX0_cutQuote_45 : decode cX0_cutQuote 45 = .ok (.ireturn, 1) := by decide +kernel
theorem dX0_cutQuote_46 : decode cX0_cutQuote 46 = .ok (.aload_n 0, 1) := by decide +kernel
theorem dX0_cutQuote_47 : decode cX0_cutQuote 47 = .ok (.dup, 1) := by decide +kernel
theorem dX0_cutQuote_48 : decode cX0_cutQuote 48 = .ok (.getfield 85, 3) := by decide +kernel
theorem dX0_cutQuote_51 : decode cX0_cutQuote 51 = .ok (.iconst 1, 1) := by decide +kernel
theorem dX0_cutQuote_52 : decode cX0_cutQuote 52 = .ok (.iadd, 1) := by decide +kernel
theorem dX0_cutQuote_53 : decode cX0_cutQuote 53 = .ok (.putfield 85, 3) := by decide +kernel
theorem dX0_cutQuote_56 : decode cX0_cutQuote 56 = .ok (.aload_n 0, 1) := by decide +kernel
theorem dX0_cutQuote_57 : decode cX0_cutQuote 57 = .ok (.bipush 6, 2) := by decide +kernel
theorem dX0_cutQuote_59 : decode cX0_cutQuote 59 = .ok (.aload_n 0, 1) := by decide +kernel
theorem dX0_cutQuote_60 : decode cX0_cutQuote 60 = .ok (.aload_n 0, 1) := by decide +kernel
theorem dX0_cutQuote_61 : decode cX0_cutQuote 61 = .ok (.getfield 39, 3) := by decide +kernel
theorem dX0_cutQuote_64 : decode cX0_cutQuote 64 = .ok (.iconst 1, 1) := by decide +kernel
theorem dX0_cutQuote_65 : decode cX0_cutQuote 65 = .ok (.iadd, 1) := by decide +kernel
theorem dX0_cutQuote_66 : decode cX0_cutQuote 66 = .ok (.invokevirtual 42, 3) := by decide +kernel
theorem dX0_cutQuote_69 : decode cX0_cutQuote 69 = .ok (.invokevirtual 139, 3) := by decide +kernel
theorem dX0_cutQuote_72 : decode cX0_cutQuote 72 = .ok (.ireturn, 1) := by decide +kernel
theorem dX0_cutWide_0 : decode cX0_cutWide 0 = .ok (.aload_n 0, 1) := by decide +kernel
theorem dX0_cutWide_1 : decode cX0_cutWide 1 = .ok (.iload_n 1, 1) := by decide +kernel
theorem dX0_cutWide_2 : decode cX0_cutWide 2 = .ok (.iload_n 2, 1) := by decide +kernel
theorem dX0_cutWide_3 : decode cX0_cutWide 3 = .ok (.invokevirtual 155, 3) := by decide +kernel
theorem dX0_cutWide_6 : decode cX0_cutWide 6 = .ok (.istore_n 3, 1) := by decide +kernel
theorem dX0_cutWide_7 : decode cX0_cutWide 7 = .ok (.iload_n 3, 1) := by decide +kernel
theorem dX0_cutWide_8 : decode cX0_cutWide 8 = .ok (.iconst (-1), 1) := by decide +kernel
theorem dX0_cutWide_9 : decode cX0_cutWide 9 = .ok (.if_icmp .ne 10, 3) := by decide +kernel
theorem dX0_cutWide_12 : decode cX0_cutWide 12 = .ok (.aload_n 0, 1) := by decide +kernel
theorem dX0_cutWide_13 : decode cX0_cutWide 13 = .ok (.iconst 1, 1) := by decide +kernel
theorem dX0_cutWide_14 : decode cX0_cutWide 14 = .ok (.iload_n 1, 1) := by decide +kernel
theorem dX0_cutWide_15 : decode cX0_cutWide 15 = .ok (.invokevirtual 139, 3) := by decide +kernel
theorem dX0_cutWide_18 : decode cX0_cutWide 18 = .ok (.ireturn, 1) := by decide +kernel
theorem dX0_cutWide_19 : decode cX0_cutWide 19 = .ok (.aload_n 0, 1) := by decide +kernel
theorem dX0_cutWide_20 : decode cX0_cutWide 20 = .ok (.iload_n 2, 1) := by decide +kernel
theorem dX0_cutWide_21 : decode cX0_cutWide 21 = .ok (.invokestatic 158, 3) := by decide +kernel
theorem dX0_cutWide_24 : decode cX0_cutWide 24 = .ok (.iload_n 3, 1) := by decide +kernel
theorem dX0_cutWide_25 : decode cX0_cutWide 25 = .ok (.invokevirtual 139, 3) := by decide +kernel
theorem dX0_cutWide_28 : decode cX0_cutWide 28 = .ok (.ireturn, 1) := by decide +kernel
theorem dX0_cutSign_0 : decode cX0_cutSign 0 = .ok (.aload_n 0, 1) := by decide +kernel
theorem dX0_cutSign_1 : decode cX0_cutSign 1 = .ok (.iload_n 3, 1) := by decide +kernel
theorem dX0_cutSign_2 : decode cX0_cutSign 2 = .ok (.iconst 1, 1) := by decide +kernel
theorem dX0_cutSign_3 : decode cX0_cutSign 3 = .ok (.iadd, 1) := by decide +kernel
theorem dX0_cutSign_4 : decode cX0_cutSign 4 = .ok (.invokevirtual 42, 3) := by decide +kernel
theorem dX0_cutSign_7 : decode cX0_cutSign 7 = .ok (.istore 4, 2) := by decide +kernel
theorem dX0_cutSign_9 : decode cX0_cutSign 9 = .ok (.aload_n 0, 1) := by decide +kernel
theorem dX0_cutSign_10 : decode cX0_cutSign 10 = .ok (.iload 4, 2) := by decide +kernel
theorem dX0_cutSign_12 : decode cX0_cutSign 12 = .ok (.invokevirtual 28, 3) := by decide +kernel
theorem dX0_cutSign_15 : decode cX0_cutSign 15 = .ok (.istore 5, 2) := by decide +kernel
theorem dX0_cutSign_17 : decode cX0_cutSign 17 = .ok (.ldc 161, 2) := by decide +kernel
theorem dX0_cutSign_19 : decode cX0_cutSign 19 = .ok (.iconst 3, 1) := by decide +kernel
theorem dX0_cutSign_20 : decode cX0_cutSign 20 = .ok (.iload_n 1, 1) := by decide +kernel
theorem dX0_cutSign_21 : decode cX0_cutSign 21 = .ok (.iload_n 2, 1) := by decide +kernel
theorem dX0_cutSign_22 : decode cX0_cutSign 22 = .ok (.iload 5, 2) := by decide +kernel
theorem dX0_cutSign_24 : decode cX0_cutSign 24 = .ok (.invokestatic 163, 3) := by decide +kernel
theorem dX0_cutSign_27 : decode cX0_cutSign 27 = .ok (.ifCond .eq 17, 3) := by decide +kernel
theorem dX0_cutSign_30 : decode cX0_cutSign 30 = .ok (.aload_n 0, 1) := by decide +kernel
theorem dX0_cutSign_31 : decode cX0_cutSign 31 = .ok (.iconst 5, 1) := by decide +kernel
theorem dX0_cutSign_32 : decode cX0_cutSign 32 = .ok (.aload_n 0, 1) := by decide +kernel
theorem dX0_cutSign_33 : decode cX0_cutSign 33 = .ok (.iload 4, 2) := by decide +kernel
theorem dX0_cutSign_35 : decode cX0_cutSign 35 = .ok (.iconst 1, 1) := by decide +kernel
theorem dX0_cutSign_36 : decode cX0_cutSign 36 = .ok (.iadd, 1) := by decide +kernel
theorem dX0_cutSign_37 : decode cX0_cutSign 37 = .ok (.invokevirtual 42, 3) := by decide +kernel
theorem dX0_cutSign_40 : decode cX0_cutSign 40 = .ok (.invokevirtual 139, 3) := by decide +kernel
theorem dX0_cutSign_43 : decode cX0_cutSign 43 = .ok (.ireturn, 1) := by decide +kernel
theorem dX0_cutSign_44 : decode cX0_cutSign 44 = .ok (.ldc 167, 2) := by decide +kernel
theorem dX0_cutSign_46 : decode cX0_cutSign 46 = .ok (.iconst 2, 1) := by decide +kernel
theorem dX0_cutSign_47 : decode cX0_cutSign 47 = .ok (.iload_n 1, 1) := by decide +kernel
theorem dX0_cutSign_48 : decode cX0_cutSign 48 = .ok (.iload_n 2, 1) := by decide +kernel
theorem dX0_cutSign_49 : decode cX0_cutSign 49 = .ok (.iload 5, 2) := by decide +kernel
theorem dX0_cutSign_51 : decode cX0_cutSign 51 = .ok (.invokestatic 163, 3) := by decide +kernel
theorem dX0_cutSign_54 : decode cX0_cutSign 54 = .ok (.ifCond .eq 11, 3) := by decide +kernel
theorem dX0_cutSign_57 : decode cX0_cutSign 57 = .ok (.aload_n 0, 1) := by decide +kernel
theorem dX0_cutSign_58 : decode cX0_cutSign 58 = .ok (.iconst 5, 1) := by decide +kernel
theorem dX0_cutSign_59 : decode cX0_cutSign 59 = .ok (.iload 4, 2) := by decide +kernel
theorem dX0_cutSign_61 : decode cX0_cutSign 61 = .ok (.invokevirtual 139, 3) := by decide +kernel
theorem dX0_cutSign_64 : decode cX0_cutSign 64 = .ok (.ireturn, 1) := by decide +kernel
theorem dX0_cutSign_65 : decode cX0_cutSign 65 = .ok (.ldc 169, 2) := by decide +kernel
theorem dX0_cutSign_67 : decode cX0_cutSign 67 = .ok (.iconst 1, 1) := by decide +kernel
theorem dX0_cutSign_68 : decode cX0_cutSign 68 = .ok (.iload_n 1, 1) := by decide +kernel
theorem dX0_cutSign_69 : decode cX0_cutSign 69 = .ok (.iload_n 2, 1) := by decide +kernel
theorem dX0_cutSign_70 : decode cX0_cutSign 70 = .ok (.iload 5, 2) := by decide +kernel
theorem dX0_cutSign_72 : decode cX0_cutSign 72 = .ok (.invokestatic 163, 3) := by decide +kernel
theorem dX0_cutSign_75 : decode cX0_cutSign 75 = .ok (.istore 6, 2) := by decide +kernel
theorem dX0_cutSign_77 : decode cX0_cutSign 77 = .ok (.aload_n 0, 1) := by decide +kernel
theorem dX0_cutSign_78 : decode cX0_cutSign 78 = .ok (.iload 6, 2) := by decide +kernel
theorem dX0_cutSign_80 : decode cX0_cutSign 80 = .ok (.ifCond .eq 7, 3) := by decide +kernel
theorem dX0_cutSign_83 : decode cX0_cutSign 83 = .ok (.iconst 5, 1) := by decide +kernel
theorem dX0_cutSign_84 : decode cX0_cutSign 84 = .ok (.goto 5, 3) := by decide +kernel
theorem dX0_cutSign_87 : decode cX0_cutSign 87 = .ok (.bipush 6, 2) := by decide +kernel
theorem dX0_cutSign_89 : decode cX0_cutSign 89 = .ok (.iload_n 3, 1) := by decide +kernel
theorem dX0_cutSign_90 : decode cX0_cutSign 90 = .ok (.invokevirtual 139, 3) := by decide +kernel
theorem dX0_cutSign_93 : decode cX0_cutSign 93 = .ok (.ireturn, 1) := by decide +kernel
theorem dX0_addToken_0 : decode cX0_addToken 0 = .ok (.aload_n 0, 1) := by decide +kernel
theorem dX0_addToken_1 : decode cX0_addToken 1 = .ok (.getfield 39, 3) := by decide +kernel
theorem dX0_addToken_4 : decode cX0_addToken 4 = .ok (.istore_n 3, 1) := by decide +kernel
theorem dX0_addToken_5 : decode cX0_addToken 5 = .ok (.aload_n 0, 1) := by decide +kernel
theorem dX0_addToken_6 : decode cX0_addToken 6 = .ok (.getfield 68, 3) := by decide +kernel
theorem dX0_addToken_9 : decode cX0_addToken 9 = .ok (.istore 4, 2) := by decide +kernel
theorem dX0_addToken_11 : decode cX0_addToken 11 = .ok (.aload_n 0, 1) := by decide +kernel
theorem dX0_addToken_12 : decode cX0_addToken 12 = .ok (.iload_n 2, 1) := by decide +kernel
theorem dX0_addToken_13 : decode cX0_addToken 13 = .ok (.invokevirtual 45, 3) := by decide +kernel
theorem dX0_addToken_16 : decode cX0_addToken 16 = .ok (.istore 5, 2) := by decide +kernel
theorem dX0_addToken_18 : decode cX0_addToken 18 = .ok (.aload_n 0, 1) := by decide +kernel
theorem dX0_addToken_19 : decode cX0_addToken 19 = .ok (.getfield 90, 3) := by decide +kernel
theorem dX0_addToken_22 : decode cX0_addToken 22 = .ok (.ifCond .ne 9, 3) := by decide +kernel
theorem dX0_addToken_25 : decode cX0_addToken 25 = .ok (.aload_n 0, 1) := by decide +kernel
theorem dX0_addToken_26 : decode cX0_addToken 26 = .ok (.iload 4, 2) := by decide +kernel
theorem dX0_addToken_28 : decode cX0_addToken 28 = .ok (.putfield 102, 3) := by decide +kernel
theorem dX0_addToken_31 : decode cX0_addToken 31 = .ok (.aload_n 0, 1) := by decide +kernel
theorem dX0_addToken_32 : decode cX0_addToken 32 = .ok (.getfield 90, 3) := by decide +kernel
theorem dX0_addToken_35 : decode cX0_addToken 35 = .ok (.ifCond .lt 65, 3) := by decide +kernel
theorem dX0_addToken_38 : decode cX0_addToken 38 = .ok (.aload_n 0, 1) := by decide +kernel
theorem dX0_addToken_39 : decode cX0_addToken 39 = .ok (.getfield 90, 3) := by decide +kernel
theorem dX0_addToken_42 : decode cX0_addToken 42 = .ok (.aload_n 0, 1) := by decide +kernel
theorem dX0_addToken_43 : decode cX0_addToken 43 = .ok (.getfield 13, 3) := by decide +kernel
theorem dX0_addToken_46 : decode cX0_addToken 46 = .ok (.arraylength, 1) := by decide +kernel
theorem dX0_addToken_47 : decode cX0_addToken 47 = .ok (.if_icmp .ge 53, 3) := by decide +kernel
theorem dX0_addToken_50 : decode cX0_addToken 50 = .ok (.aload_n 0, 1) := by decide +kernel
theorem dX0_addToken_51 : decode cX0_addToken 51 = .ok (.getfield 13, 3) := by decide +kernel
theorem dX0_addToken_54 : decode cX0_addToken 54 = .ok (.aload_n 0, 1) := by decide +kernel
theorem dX0_addToken_55 : decode cX0_addToken 55 = .ok (.getfield 90, 3) := by decide +kernel
theorem dX0_addToken_58 : decode cX0_addToken 58 = .ok (.iload_n 3, 1) := by decide +kernel
theorem dX0_addToken_59 : decode cX0_addToken 59 = .ok (.i2l, 1) := by decide +kernel
theorem dX0_addToken_60 : decode cX0_addToken 60 = .ok (.iload 5, 2) := by decide +kernel
theorem dX0_addToken_62 : decode cX0_addToken 62 = .ok (.i2l, 1) := by decide +kernel
theorem dX0_addToken_63 : decode cX0_addToken 63 = .ok (.bipush 16, 2) := by decide +kernel
theorem dX0_addToken_65 : decode cX0_addToken 65 = .ok (.lshl, 1) := by decide +kernel
theorem dX0_addToken_66 : decode cX0_addToken 66 = .ok (.lor, 1) := by decide +kernel
theorem dX0_addToken_67 : decode cX0_addToken 67 = .ok (.iload 4, 2) := by decide +kernel
theorem dX0_addToken_69 : decode cX0_addToken 69 = .ok (.i2l, 1) := by decide +kernel
theorem dX0_addToken_70 : decode cX0_addToken 70 = .ok (.bipush 32, 2) := by decide +kernel
theorem dX0_addToken_72 : decode cX0_addToken 72 = .ok (.lshl, 1) := by decide +kernel
theorem dX0_addToken_73 : decode cX0_addToken 73 = .ok (.lor, 1) := by decide +kernel
theorem dX0_addToken_74 : decode cX0_addToken 74 = .ok (.iload_n 1, 1) := by decide +kernel
theorem dX0_addToken_75 : decode cX0_addToken 75 = .ok (.i2l, 1) := by decide +kernel
theorem dX0_addToken_76 : decode cX0_addToken 76 = .ok (.bipush 48, 2) := by decide +kernel
theorem dX0_addToken_78 : decode cX0_addToken 78 = .ok (.lshl, 1) := by decide +kernel
theorem dX0_addToken_79 : decode cX0_addToken 79 = .ok (.lor, 1) := by decide +kernel
theorem dX0_addToken_80 : decode cX0_addToken 80 = .ok (.aload_n 0, 1) := by decide +kernel
theorem dX0_addToken_81 : decode cX0_addToken 81 = .ok (.getfield 93, 3) := by decide +kernel
theorem dX0_addToken_84 : decode cX0_addToken 84 = .ok (.ifCond .eq 7, 3) := by decide +kernel
theorem dX0_addToken_87 : decode cX0_addToken 87 = .ok (.lconst 1, 1) := by decide +kernel
theorem dX0_addToken_88 : decode cX0_addToken 88 = .ok (.goto 4, 3) := by decide +kernel
theorem dX0_addToken_91 : decode cX0_addToken 91 = .ok (.lconst 0, 1) := by decide +kernel
theorem dX0_addToken_92 : decode cX0_addToken 92 = .ok (.bipush 52, 2) := by decide +kernel
theorem dX0_addToken_94 : decode cX0_addToken 94 = .ok (.lshl, 1) := by decide +kernel
theorem dX0_addToken_95 : decode cX0_addToken 95 = .ok (.lor, 1) := by decide +kernel
theorem dX0_addToken_96 : decode cX0_addToken 96 = .ok (.lastore, 1) := by decide +kernel
theorem dX0_addToken_97 : decode cX0_addToken 97 = .ok (.goto 19, 3) := by decide +kernel
theorem dX0_addToken_100 : decode cX0_addToken 100 = .ok (.aload_n 0, 1) := by decide +kernel
theorem dX0_addToken_101 : decode cX0_addToken 101 = .ok (.getfield 90, 3) := by decide +kernel
theorem dX0_addToken_104 : decode cX0_addToken 104 = .ok (.sipush 8000, 3) := by decide +kernel
theorem dX0_addToken_107 : decode cX0_addToken 107 = .ok (.if_icmp .ne 9, 3) := by decide +kernel
theorem dX0_addToken_110 : decode cX0_addToken 110 = .ok (.aload_n 0, 1) := by decide +kernel
theorem dX0_addToken_111 : decode cX0_addToken 111 = .ok (.iload 4, 2) := by decide +kernel
theorem dX0_addToken_113 : decode cX0_addToken 113 = .ok (.putfield 109, 3) := by decide +kernel
theorem dX0_addToken_116 : decode cX0_addToken 116 = .ok (.aload_n 0, 1) := by decide +kernel
theorem dX0_addToken_117 : decode cX0_addToken 117 = .ok (.dup, 1) := by decide +kernel
theorem dX0_addToken_118 : decode cX0_addToken 118 = .ok (.getfield 90, 3) := by decide +kernel
theorem dX0_addToken_121 : decode cX0_addToken 121 = .ok (.iconst 1, 1) := by decide +kernel
theorem dX0_addToken_122 : decode cX0_addToken 122 = .ok (.iadd, 1) := by decide +kernel
theorem dX0_addToken_123 : decode cX0_addToken 123 = .ok (.putfield 90, 3) := by decide +kernel
theorem dX0_addToken_126 : decode cX0_addToken 126 = .ok (.aload_n 0, 1) := by decide +kernel
theorem dX0_addToken_127 : decode cX0_addToken 127 = .ok (.iconst 0, 1) := by decide +kernel
theorem dX0_addToken_128 : decode cX0_addToken 128 = .ok (.putfield 93, 3) := by decide +kernel
theorem dX0_addToken_131 : decode cX0_addToken 131 = .ok (.iconst 0, 1) := by decide +kernel
theorem dX0_addToken_132 : decode cX0_addToken 132 = .ok (.ireturn, 1) := by decide +kernel
theorem dX0_commentEnd_0 : decode cX0_commentEnd 0 = .ok (.iload_n 1, 1) := by decide +kernel
theorem dX0_commentEnd_1 : decode cX0_commentEnd 1 = .ok (.istore_n 2, 1) := by decide +kernel
theorem dX0_commentEnd_2 : decode cX0_commentEnd 2 = .ok (.iconst 0, 1) := by decide +kernel
theorem dX0_commentEnd_3 : decode cX0_commentEnd 3 = .ok (.istore_n 3, 1) := by decide +kernel
theorem dX0_commentEnd_4 : decode cX0_commentEnd 4 = .ok (.iload_n 2, 1) := by decide +kernel
theorem dX0_commentEnd_5 : decode cX0_commentEnd 5 = .ok (.aload_n 0, 1) := by decide +kernel
theorem dX0_commentEnd_6 : decode cX0_commentEnd 6 = .ok (.getfield 19, 3) := by decide +kernel
theorem dX0_commentEnd_9 : decode cX0_commentEnd 9 = .ok (.if_icmp .ge 47, 3) := by decide +kernel
theorem dX0_commentEnd_12 : decode cX0_commentEnd 12 = .ok (.aload_n 0, 1) := by decide +kernel
theorem dX0_commentEnd_13 : decode cX0_commentEnd 13 = .ok (.iload_n 2, 1) := by decide +kernel
theorem dX0_commentEnd_14 : decode cX0_commentEnd 14 = .ok (.invokevirtual 28, 3) := by decide +kernel
theorem dX0_commentEnd_17 : decode cX0_commentEnd 17 = .ok (.istore 4, 2) := by decide +kernel
theorem dX0_commentEnd_19 : decode cX0_commentEnd 19 = .ok (.aload_n 0, 1) := by decide +kernel
theorem dX0_commentEnd_20 : decode cX0_commentEnd 20 = .ok (.iload_n 2, 1) := by decide +kernel
theorem dX0_commentEnd_21 : decode cX0_commentEnd 21 = .ok (.iconst 1, 1) := by decide +kernel
theorem dX0_commentEnd_22 : decode cX0_commentEnd 22 = .ok (.iadd, 1) := by decide +kernel
theorem dX0_commentEnd_23 : decode cX0_commentEnd 23 = .ok (.invokevirtual 42, 3) := by decide +kernel
theorem dX0_commentEnd_26 : decode cX0_commentEnd 26 = .ok (.istore_n 2, 1) := by decide +kernel
theorem dX0_commentEnd_27 : decode cX0_commentEnd 27 = .ok (.iload_n 3, 1) := by decide +kernel
theorem dX0_commentEnd_28 : decode cX0_commentEnd 28 = .ok (.ifCond .eq 12, 3) := by decide +kernel
theorem dX0_commentEnd_31 : decode cX0_commentEnd 31 = .ok (.iload 4, 2) := by decide +kernel
theorem dX0_commentEnd_33 : decode cX0_commentEnd 33 = .ok (.bipush 47, 2) := by decide +kernel
theorem dX0_commentEnd_35 : decode cX0_commentEnd 35 = .ok (.if_icmp .ne 5, 3) := by decide +kernel
theorem dX0_commentEnd_38 : decode cX0_commentEnd 38 = .ok (.iload_n 2, 1) := by decide +kernel
theorem dX0_commentEnd_39 : decode cX0_commentEnd 39 = .ok (.ireturn, 1) := by decide +kernel
theorem dX0_commentEnd_40 : decode cX0_commentEnd 40 = .ok (.iload 4, 2) := by decide +kernel
theorem dX0_commentEnd_42 : decode cX0_commentEnd 42 = .ok (.bipush 42, 2) := by decide +kernel
theorem dX0_commentEnd_44 : decode cX0_commentEnd 44 = .ok (.if_icmp .ne 7, 3) := by decide +kernel
theorem dX0_commentEnd_47 : decode cX0_commentEnd 47 = .ok (.iconst 1, 1) := by decide +kernel
theorem dX0_commentEnd_48 : decode cX0_commentEnd 48 = .ok (.goto 4, 3) := by decide +kernel
theorem dX0_commentEnd_51 : decode cX0_commentEnd 51 = .ok (.iconst 0, 1) := by decide +kernel
theorem dX0_commentEnd_52 : decode cX0_commentEnd 52 = .ok (.istore_n 3, 1) := by decide +kernel
theorem dX0_commentEnd_53 : decode cX0_commentEnd 53 = .ok (.goto (-49), 3) := by decide +kernel
theorem dX0_commentEnd_56 : decode cX0_commentEnd 56 = .ok (.iconst (-1), 1) := by decide +kernel
theorem dX0_commentEnd_57 : decode cX0_commentEnd 57 = .ok (.ireturn, 1) := by decide +kernel
theorem dX0_lineEnd_0 : decode cX0_lineEnd 0 = .ok (.iload_n 1, 1) := by decide +kernel
theorem dX0_lineEnd_1 : decode cX0_lineEnd 1 = .ok (.istore_n 2, 1) := by decide +kernel
theorem dX0_lineEnd_2 : decode cX0_lineEnd 2 = .ok (.iload_n 2, 1) := by decide +kernel
theorem dX0_lineEnd_3 : decode cX0_lineEnd 3 = .ok (.aload_n 0, 1) := by decide +kernel
theorem dX0_lineEnd_4 : decode cX0_lineEnd 4 = .ok (.getfield 19, 3) := by decide +kernel
theorem dX0_lineEnd_7 : decode cX0_lineEnd 7 = .ok (.if_icmp .ge 24, 3) := by decide +kernel
theorem dX0_lineEnd_10 : decode cX0_lineEnd 10 = .ok (.aload_n 0, 1) := by decide +kernel
theorem dX0_lineEnd_11 : decode cX0_lineEnd 11 = .ok (.iload_n 2, 1) := by decide +kernel
theorem dX0_lineEnd_12 : decode cX0_lineEnd 12 = .ok (.invokevirtual 28, 3) := by decide +kernel
theorem dX0_lineEnd_15 : decode cX0_lineEnd 15 = .ok (.bipush 10, 2) := by decide +kernel
theorem dX0_lineEnd_17 : decode cX0_lineEnd 17 = .ok (.if_icmp .eq 14, 3) := by decide +kernel
theorem dX0_lineEnd_20 : decode cX0_lineEnd 20 = .ok (.aload_n 0, 1) := by decide +kernel
theorem dX0_lineEnd_21 : decode cX0_lineEnd 21 = .ok (.iload_n 2, 1) := by decide +kernel
theorem dX0_lineEnd_22 : decode cX0_lineEnd 22 = .ok (.iconst 1, 1) := by decide +kernel
theorem dX0_lineEnd_23 : decode cX0_lineEnd 23 = .ok (.iadd, 1) := by decide +kernel
theorem dX0_lineEnd_24 : decode cX0_lineEnd 24 = .ok (.invokevirtual 42, 3) := by decide +kernel
theorem dX0_lineEnd_27 : decode cX0_lineEnd 27 = .ok (.istore_n 2, 1) := by decide +kernel
theorem dX0_lineEnd_28 : decode cX0_lineEnd 28 = .ok (.goto (-26), 3) := by decide +kernel
theorem dX0_lineEnd_31 : decode cX0_lineEnd 31 = .ok (.iload_n 2, 1) := by decide +kernel
theorem dX0_lineEnd_32 : decode cX0_lineEnd 32 = .ok (.ireturn, 1) := by decide +kernel
theorem dX0_quoteEnd_0 : decode cX0_quoteEnd 0 = .ok (.iload_n 2, 1) := by decide +kernel
theorem dX0_quoteEnd_1 : decode cX0_quoteEnd 1 = .ok (.bipush 34, 2) := by decide +kernel
theorem dX0_quoteEnd_3 : decode cX0_quoteEnd 3 = .ok (.if_icmp .ne 7, 3) := by decide +kernel
theorem dX0_quoteEnd_6 : decode cX0_quoteEnd 6 = .ok (.iconst 1, 1) := by decide +kernel
theorem dX0_quoteEnd_7 : decode cX0_quoteEnd 7 = .ok (.goto 4, 3) := by decide +kernel
theorem dX0_quoteEnd_10 : decode cX0_quoteEnd 10 = .ok (.iconst 0, 1) := by decide +kernel
theorem dX0_quoteEnd_11 : decode cX0_quoteEnd 11 = .ok (.istore_n 3, 1) := by decide +kernel
theorem dX0_quoteEnd_12 : decode cX0_quoteEnd 12 = .ok (.iload_n 1, 1) := by decide +kernel
theorem dX0_quoteEnd_13 : decode cX0_quoteEnd 13 = .ok (.iload_n 3, 1) := by decide +kernel
theorem dX0_quoteEnd_14 : decode cX0_quoteEnd 14 = .ok (.ifCond .eq 10, 3) := by decide +kernel
theorem dX0_quoteEnd_17 : decode cX0_quoteEnd 17 = .ok (.aload_n 0, 1) := by decide +kernel
theorem dX0_quoteEnd_18 : decode cX0_quoteEnd 18 = .ok (.getfield 96, 3) := by decide +kernel
theorem dX0_quoteEnd_21 : decode cX0_quoteEnd 21 = .ok (.goto 7, 3) := by decide +kernel
theorem dX0_quoteEnd_24 : decode cX0_quoteEnd 24 = .ok (.aload_n 0, 1) := by decide +kernel
theorem dX0_quoteEnd_25 : decode cX0_quoteEnd 25 = .ok (.getfield 99, 3) := by decide +kernel
theorem dX0_quoteEnd_28 : decode cX0_quoteEnd 28 = .ok (.if_icmp .ge 5, 3) := by decide +kernel
theorem dX0_quoteEnd_31 : decode cX0_quoteEnd 31 = .ok (.iconst (-1), 1) := by decide +kernel
theorem dX0_quoteEnd_32 : decode cX0_quoteEnd 32 = .ok (.ireturn, 1) := by decide +kernel
theorem dX0_quoteEnd_33 : decode cX0_quoteEnd 33 = .ok (.aload_n 0, 1) := by decide +kernel
theorem dX0_quoteEnd_34 : decode cX0_quoteEnd 34 = .ok (.iload_n 1, 1) := by decide +kernel
theorem dX0_quoteEnd_35 : decode cX0_quoteEnd 35 = .ok (.iconst 1, 1) := by decide +kernel
theorem dX0_quoteEnd_36 : decode cX0_quoteEnd 36 = .ok (.iadd, 1) := by decide +kernel
theorem dX0_quoteEnd_37 : decode cX0_quoteEnd 37 = .ok (.invokevirtual 42, 3) := by decide +kernel
theorem dX0_quoteEnd_40 : decode cX0_quoteEnd 40 = .ok (.istore 4, 2) := by decide +kernel
theorem dX0_quoteEnd_42 : decode cX0_quoteEnd 42 = .ok (.iload 4, 2) := by decide +kernel
theorem dX0_quoteEnd_44 : decode cX0_quoteEnd 44 = .ok (.aload_n 0, 1) := by decide +kernel
theorem dX0_quoteEnd_45 : decode cX0_quoteEnd 45 = .ok (.getfield 19, 3) := by decide +kernel
theorem dX0_quoteEnd_48 : decode cX0_quoteEnd 48 = .ok (.if_icmp .ge 81, 3) := by decide +kernel
theorem dX0_quoteEnd_51 : decode cX0_quoteEnd 51 = .ok (.aload_n 0, 1) := by decide +kernel
theorem dX0_quoteEnd_52 : decode cX0_quoteEnd 52 = .ok (.iload 4, 2) := by decide +kernel
theorem dX0_quoteEnd_54 : decode cX0_quoteEnd 54 = .ok (.invokevirtual 28, 3) := by decide +kernel
theorem dX0_quoteEnd_57 : decode cX0_quoteEnd 57 = .ok (.bipush 10, 2) := by decide +kernel
theorem dX0_quoteEnd_59 : decode cX0_quoteEnd 59 = .ok (.if_icmp .eq 70, 3) := by decide +kernel
theorem dX0_quoteEnd_62 : decode cX0_quoteEnd 62 = .ok (.aload_n 0, 1) := by decide +kernel
theorem dX0_quoteEnd_63 : decode cX0_quoteEnd 63 = .ok (.iload 4, 2) := by decide +kernel
theorem dX0_quoteEnd_65 : decode cX0_quoteEnd 65 = .ok (.invokevirtual 28, 3) := by decide +kernel
theorem dX0_quoteEnd_68 : decode cX0_quoteEnd 68 = .ok (.istore 5, 2) := by decide +kernel
theorem dX0_quoteEnd_70 : decode cX0_quoteEnd 70 = .ok (.aload_n 0, 1) := by decide +kernel
theorem dX0_quoteEnd_71 : decode cX0_quoteEnd 71 = .ok (.iload 4, 2) := by decide +kernel
theorem dX0_quoteEnd_73 : decode cX0_quoteEnd 73 = .ok (.iconst 1, 1) := by decide +kernel
theorem dX0_quoteEnd_74 : decode cX0_quoteEnd 74 = .ok (.iadd, 1) := by decide +kernel
theorem dX0_quoteEnd_75 : decode cX0_quoteEnd 75 = .ok (.invokevirtual 42, 3) := by decide +kernel
theorem dX0_quoteEnd_78 : decode cX0_quoteEnd 78 = .ok (.istore 4, 2) := by decide +kernel
theorem dX0_quoteEnd_80 : decode cX0_quoteEnd 80 = .ok (.iload 5, 2) := by decide +kernel
theorem dX0_quoteEnd_82 : decode cX0_quoteEnd 82 = .ok (.iload_n 2, 1) := by decide +kernel
theorem dX0_quoteEnd_83 : decode cX0_quoteEnd 83 = .ok (.if_icmp .ne 6, 3) := by decide +kernel
theorem dX0_quoteEnd_86 : decode cX0_quoteEnd 86 = .ok (.iload 4, 2) := by decide +kernel
theorem dX0_quoteEnd_88 : decode cX0_quoteEnd 88 = .ok (.ireturn, 1) := by decide +kernel
theorem dX0_quoteEnd_89 : decode cX0_quoteEnd 89 = .ok (.iload 5, 2) := by decide +kernel
theorem dX0_quoteEnd_91 : decode cX0_quoteEnd 91 = .ok (.bipush 92, 2) := by decide +kernel
theorem dX0_quoteEnd_93 : decode cX0_quoteEnd 93 = .ok (.if_icmp .ne 33, 3) := by decide +kernel
theorem dX0_quoteEnd_96 : decode cX0_quoteEnd 96 = .ok (.iload 4, 2) := by decide +kernel
theorem dX0_quoteEnd_98 : decode cX0_quoteEnd 98 = .ok (.aload_n 0, 1) := by decide +kernel
theorem dX0_quoteEnd_99 : decode cX0_quoteEnd 99 = .ok (.getfield 19, 3) := by decide +kernel
theorem dX0_quoteEnd_102 : decode cX0_quoteEnd 102 = .ok (.if_icmp .ge 24, 3) := by decide +kernel
theorem dX0_quoteEnd_105 : decode cX0_quoteEnd 105 = .ok (.aload_n 0, 1) := by decide +kernel
theorem dX0_quoteEnd_106 : decode cX0_quoteEnd 106 = .ok (.iload 4, 2) := by decide +kernel
theorem dX0_quoteEnd_108 : decode cX0_quoteEnd 108 = .ok (.invokevirtual 28, 3) := by decide +kernel
theorem dX0_quoteEnd_111 : decode cX0_quoteEnd 111 = .ok (.bipush 10, 2) := by decide +kernel
theorem dX0_quoteEnd_113 : decode cX0_quoteEnd 113 = .ok (.if_icmp .eq 13, 3) := by decide +kernel
theorem dX0_quoteEnd_116 : decode cX0_quoteEnd 116 = .ok (.aload_n 0, 1) := by decide +kernel
theorem dX0_quoteEnd_117 : decode cX0_quoteEnd 117 = .ok (.iload 4, 2) := by decide +kernel
theorem dX0_quoteEnd_119 : decode cX0_quoteEnd 119 = .ok (.iconst 1, 1) := by decide +kernel
theorem dX0_quoteEnd_120 : decode cX0_quoteEnd 120 = .ok (.iadd, 1) := by decide +kernel
theorem dX0_quoteEnd_121 : decode cX0_quoteEnd 121 = .ok (.invokevirtual 42, 3) := by decide +kernel
theorem dX0_quoteEnd_124 : decode cX0_quoteEnd 124 = .ok (.istore 4, 2) := by decide +kernel
theorem dX0_quoteEnd_126 : decode cX0_quoteEnd 126 = .ok (.goto (-84), 3) := by decide +kernel
theorem dX0_quoteEnd_129 : decode cX0_quoteEnd 129 = .ok (.iload_n 3, 1) := by decide +kernel
theorem dX0_quoteEnd_130 : decode cX0_quoteEnd 130 = .ok (.ifCond .eq 12, 3) := by decide +kernel
theorem dX0_quoteEnd_133 : decode cX0_quoteEnd 133 = .ok (.aload_n 0, 1) := by decide +kernel
theorem dX0_quoteEnd_134 : decode cX0_quoteEnd 134 = .ok (.iload 4, 2) := by decide +kernel
theorem dX0_quoteEnd_136 : decode cX0_quoteEnd 136 = .ok (.putfield 96, 3) := by decide +kernel
theorem dX0_quoteEnd_139 : decode cX0_quoteEnd 139 = .ok (.goto 9, 3) := by decide +kernel
theorem dX0_quoteEnd_142 : decode cX0_quoteEnd 142 = .ok (.aload_n 0, 1) := by decide +kernel
theorem dX0_quoteEnd_143 : decode cX0_quoteEnd 143 = .ok (.iload 4, 2) := by decide +kernel
theorem dX0_quoteEnd_145 : decode cX0_quoteEnd 145 = .ok (.putfield 99, 3) := by decide +kernel
theorem dX0_quoteEnd_148 : decode cX0_quoteEnd 148 = .ok (.iconst (-1), 1) := by decide +kernel
theorem dX0_quoteEnd_149 : decode cX0_quoteEnd 149 = .ok (.ireturn, 1) := by decide +kernel
theorem dX0_nameEnd_0 : decode cX0_nameEnd 0 = .ok (.iload_n 1, 1) := by decide +kernel
theorem dX0_nameEnd_1 : decode cX0_nameEnd 1 = .ok (.istore_n 2, 1) := by decide +kernel
theorem dX0_nameEnd_2 : decode cX0_nameEnd 2 = .ok (.iload_n 2, 1) := by decide +kernel
theorem dX0_nameEnd_3 : decode cX0_nameEnd 3 = .ok (.aload_n 0, 1) := by decide +kernel
theorem dX0_nameEnd_4 : decode cX0_nameEnd 4 = .ok (.getfield 19, 3) := by decide +kernel
theorem dX0_nameEnd_7 : decode cX0_nameEnd 7 = .ok (.if_icmp .ge 36, 3) := by decide +kernel
theorem dX0_nameEnd_10 : decode cX0_nameEnd 10 = .ok (.aload_n 0, 1) := by decide +kernel
theorem dX0_nameEnd_11 : decode cX0_nameEnd 11 = .ok (.iload_n 2, 1) := by decide +kernel
theorem dX0_nameEnd_12 : decode cX0_nameEnd 12 = .ok (.invokevirtual 28, 3) := by decide +kernel
theorem dX0_nameEnd_15 : decode cX0_nameEnd 15 = .ok (.invokestatic 133, 3) := by decide +kernel
theorem dX0_nameEnd_18 : decode cX0_nameEnd 18 = .ok (.ifCond .ne 14, 3) := by decide +kernel
theorem dX0_nameEnd_21 : decode cX0_nameEnd 21 = .ok (.aload_n 0, 1) := by decide +kernel
theorem dX0_nameEnd_22 : decode cX0_nameEnd 22 = .ok (.iload_n 2, 1) := by decide +kernel
theorem dX0_nameEnd_23 : decode cX0_nameEnd 23 = .ok (.invokevirtual 28, 3) := by decide +kernel
theorem dX0_nameEnd_26 : decode cX0_nameEnd 26 = .ok (.invokestatic 142, 3) := by decide +kernel
theorem dX0_nameEnd_29 : decode cX0_nameEnd 29 = .ok (.ifCond .eq 14, 3) := by decide +kernel
theorem dX0_nameEnd_32 : decode cX0_nameEnd 32 = .ok (.aload_n 0, 1) := by decide +kernel
theorem dX0_nameEnd_33 : decode cX0_nameEnd 33 = .ok (.iload_n 2, 1) := by decide +kernel
theorem dX0_nameEnd_34 : decode cX0_nameEnd 34 = .ok (.iconst 1, 1) := by decide +kernel
theorem dX0_nameEnd_35 : decode cX0_nameEnd 35 = .ok (.iadd, 1) := by decide +kernel
theorem dX0_nameEnd_36 : decode cX0_nameEnd 36 = .ok (.invokevirtual 42, 3) := by decide +kernel
theorem dX0_nameEnd_39 : decode cX0_nameEnd 39 = .ok (.istore_n 2, 1) := by decide +kernel
theorem dX0_nameEnd_40 : decode cX0_nameEnd 40 = .ok (.goto (-38), 3) := by decide +kernel
theorem dX0_nameEnd_43 : decode cX0_nameEnd 43 = .ok (.iload_n 2, 1) := by decide +kernel
theorem dX0_nameEnd_44 : decode cX0_nameEnd 44 = .ok (.ireturn, 1) := by decide +kernel
theorem dX0_numberEnd_0 : decode cX0_numberEnd 0 = .ok (.iload_n 1, 1) := by decide +kernel
theorem dX0_numberEnd_1 : decode cX0_numberEnd 1 = .ok (.istore_n 3, 1) := by decide +kernel
theorem dX0_numberEnd_2 : decode cX0_numberEnd 2 = .ok (.iload_n 2, 1) := by decide +kernel
theorem dX0_numberEnd_3 : decode cX0_numberEnd 3 = .ok (.istore 4, 2) := by decide +kernel
theorem dX0_numberEnd_5 : decode cX0_numberEnd 5 = .ok (.iload_n 3, 1) := by decide +kernel
theorem dX0_numberEnd_6 : decode cX0_numberEnd 6 = .ok (.aload_n 0, 1) := by decide +kernel
theorem dX0_numberEnd_7 : decode cX0_numberEnd 7 = .ok (.getfield 19, 3) := by decide +kernel
theorem dX0_numberEnd_10 : decode cX0_numberEnd 10 = .ok (.if_icmp .ge 34, 3) := by decide +kernel
theorem dX0_numberEnd_13 : decode cX0_numberEnd 13 = .ok (.aload_n 0, 1) := by decide +kernel
theorem dX0_numberEnd_14 : decode cX0_numberEnd 14 = .ok (.iload_n 3, 1) := by decide +kernel
theorem dX0_numberEnd_15 : decode cX0_numberEnd 15 = .ok (.invokevirtual 28, 3) := by decide +kernel
theorem dX0_numberEnd_18 : decode cX0_numberEnd 18 = .ok (.iload 4, 2) := by decide +kernel
theorem dX0_numberEnd_20 : decode cX0_numberEnd 20 = .ok (.invokestatic 171, 3) := by decide +kernel
theorem dX0_numberEnd_23 : decode cX0_numberEnd 23 = .ok (.ifCond .eq 21, 3) := by decide +kernel
theorem dX0_numberEnd_26 : decode cX0_numberEnd 26 = .ok (.aload_n 0, 1) := by decide +kernel
theorem dX0_numberEnd_27 : decode cX0_numberEnd 27 = .ok (.iload_n 3, 1) := by decide +kernel
theorem dX0_numberEnd_28 : decode cX0_numberEnd 28 = .ok (.invokevirtual 28, 3) := by decide +kernel
theorem dX0_numberEnd_31 : decode cX0_numberEnd 31 = .ok (.istore 4, 2) := by decide +kernel
theorem dX0_numberEnd_33 : decode cX0_numberEnd 33 = .ok (.aload_n 0, 1) := by decide +kernel
theorem dX0_numberEnd_34 : decode cX0_numberEnd 34 = .ok (.iload_n 3, 1) := by decide +kernel
theorem dX0_numberEnd_35 : decode cX0_numberEnd 35 = .ok (.iconst 1, 1) := by decide +kernel
theorem dX0_numberEnd_36 : decode cX0_numberEnd 36 = .ok (.iadd, 1) := by decide +kernel
theorem dX0_numberEnd_37 : decode cX0_numberEnd 37 = .ok (.invokevirtual 42, 3) := by decide +kernel
theorem dX0_numberEnd_40 : decode cX0_numberEnd 40 = .ok (.istore_n 3, 1) := by decide +kernel
theorem dX0_numberEnd_41 : decode cX0_numberEnd 41 = .ok (.goto (-36), 3) := by decide +kernel
theorem dX0_numberEnd_44 : decode cX0_numberEnd 44 = .ok (.iload_n 3, 1) := by decide +kernel
theorem dX0_numberEnd_45 : decode cX0_numberEnd 45 = .ok (.ireturn, 1) := by decide +kernel
theorem dX0_isAtHand_0 : decode cX0_isAtHand 0 = .ok (.iload_n 1, 1) := by decide +kernel
theorem dX0_isAtHand_1 : decode cX0_isAtHand 1 = .ok (.ifCond .lt 24, 3) := by decide +kernel
theorem dX0_isAtHand_4 : decode cX0_isAtHand 4 = .ok (.iload_n 1, 1) := by decide +kernel
theorem dX0_isAtHand_5 : decode cX0_isAtHand 5 = .ok (.aload_n 0, 1) := by decide +kernel
theorem dX0_isAtHand_6 : decode cX0_isAtHand 6 = .ok (.getfield 32, 3) := by decide +kernel
theorem dX0_isAtHand_9 : decode cX0_isAtHand 9 = .ok (.if_icmp .ge 16, 3) := by decide +kernel
theorem dX0_isAtHand_12 : decode cX0_isAtHand 12 = .ok (.iload_n 1, 1) := by decide +kernel
theorem dX0_isAtHand_13 : decode cX0_isAtHand 13 = .ok (.aload_n 0, 1) := by decide +kernel
theorem dX0_isAtHand_14 : decode cX0_isAtHand 14 = .ok (.getfield 13, 3) := by decide +kernel
theorem dX0_isAtHand_17 : decode cX0_isAtHand 17 = .ok (.arraylength, 1) := by decide +kernel
theorem dX0_isAtHand_18 : decode cX0_isAtHand 18 = .ok (.if_icmp .ge 7, 3) := by decide +kernel
theorem dX0_isAtHand_21 : decode cX0_isAtHand 21 = .ok (.iconst 1, 1) := by decide +kernel
theorem dX0_isAtHand_22 : decode cX0_isAtHand 22 = .ok (.goto 4, 3) := by decide +kernel
theorem dX0_isAtHand_25 : decode cX0_isAtHand 25 = .ok (.iconst 0, 1) := by decide +kernel
theorem dX0_isAtHand_26 : decode cX0_isAtHand 26 = .ok (.ireturn, 1) := by decide +kernel
theorem dX0_isDirective_0 : decode cX0_isDirective 0 = .ok (.aload_n 0, 1) := by decide +kernel
theorem dX0_isDirective_1 : decode cX0_isDirective 1 = .ok (.iconst 0, 1) := by decide +kernel
theorem dX0_isDirective_2 : decode cX0_isDirective 2 = .ok (.invokevirtual 71, 3) := by decide +kernel
theorem dX0_isDirective_5 : decode cX0_isDirective 5 = .ok (.ifCond .eq 38, 3) := by decide +kernel
theorem dX0_isDirective_8 : decode cX0_isDirective 8 = .ok (.aload_n 0, 1) := by decide +kernel
theorem dX0_isDirective_9 : decode cX0_isDirective 9 = .ok (.getfield 13, 3) := by decide +kernel
theorem dX0_isDirective_12 : decode cX0_isDirective 12 = .ok (.iconst 0, 1) := by decide +kernel
theorem dX0_isDirective_13 : decode cX0_isDirective 13 = .ok (.laload, 1) := by decide +kernel
theorem dX0_isDirective_14 : decode cX0_isDirective 14 = .ok (.invokestatic 76, 3) := by decide +kernel
theorem dX0_isDirective_17 : decode cX0_isDirective 17 = .ok (.iconst 1, 1) := by decide +kernel
theorem dX0_isDirective_18 : decode cX0_isDirective 18 = .ok (.if_icmp .ne 25, 3) := by decide +kernel
theorem dX0_isDirective_21 : decode cX0_isDirective 21 = .ok (.aload_n 0, 1) := by decide +kernel
theorem dX0_isDirective_22 : decode cX0_isDirective 22 = .ok (.aload_n 0, 1) := by decide +kernel
theorem dX0_isDirective_23 : decode cX0_isDirective 23 = .ok (.getfield 13, 3) := by decide +kernel
theorem dX0_isDirective_26 : decode cX0_isDirective 26 = .ok (.iconst 0, 1) := by decide +kernel
theorem dX0_isDirective_27 : decode cX0_isDirective 27 = .ok (.laload, 1) := by decide +kernel
theorem dX0_isDirective_28 : decode cX0_isDirective 28 = .ok (.invokestatic 80, 3) := by decide +kernel
theorem dX0_isDirective_31 : decode cX0_isDirective 31 = .ok (.invokevirtual 28, 3) := by decide +kernel
theorem dX0_isDirective_34 : decode cX0_isDirective 34 = .ok (.bipush 35, 2) := by decide +kernel
theorem dX0_isDirective_36 : decode cX0_isDirective 36 = .ok (.if_icmp .ne 7, 3) := by decide +kernel
theorem dX0_isDirective_39 : decode cX0_isDirective 39 = .ok (.iconst 1, 1) := by decide +kernel
theorem dX0_isDirective_40 : decode cX0_isDirective 40 = .ok (.goto 4, 3) := by decide +kernel
theorem dX0_isDirective_43 : decode cX0_isDirective 43 = .ok (.iconst 0, 1) := by decide +kernel
theorem dX0_isDirective_44 : decode cX0_isDirective 44 = .ok (.ireturn, 1) := by decide +kernel
theorem dX0_startOf_0 : decode cX0_startOf 0 = .ok (.lload_n 0, 1) := by decide +kernel
theorem dX0_startOf_1 : decode cX0_startOf 1 = .ok (.l2i, 1) := by decide +kernel
theorem dX0_startOf_2 : decode cX0_startOf 2 = .ok (.ldc 75, 2) := by decide +kernel
theorem dX0_startOf_4 : decode cX0_startOf 4 = .ok (.iand, 1) := by decide +kernel
theorem dX0_startOf_5 : decode cX0_startOf 5 = .ok (.ireturn, 1) := by decide +kernel
theorem dX0_bytesOf_0 : decode cX0_bytesOf 0 = .ok (.lload_n 0, 1) := by decide +kernel
theorem dX0_bytesOf_1 : decode cX0_bytesOf 1 = .ok (.bipush 16, 2) := by decide +kernel
theorem dX0_bytesOf_3 : decode cX0_bytesOf 3 = .ok (.lushr, 1) := by decide +kernel
theorem dX0_bytesOf_4 : decode cX0_bytesOf 4 = .ok (.l2i, 1) := by decide +kernel
theorem dX0_bytesOf_5 : decode cX0_bytesOf 5 = .ok (.ldc 75, 2) := by decide +kernel
theorem dX0_bytesOf_7 : decode cX0_bytesOf 7 = .ok (.iand, 1) := by decide +kernel
theorem dX0_bytesOf_8 : decode cX0_bytesOf 8 = .ok (.ireturn, 1) := by decide +kernel
theorem dX0_goesOnNumber_0 : decode cX0_goesOnNumber 0 = .ok (.iload_n 0, 1) := by decide +kernel
theorem dX0_goesOnNumber_1 : decode cX0_goesOnNumber 1 = .ok (.bipush 43, 2) := by decide +kernel
theorem dX0_goesOnNumber_3 : decode cX0_goesOnNumber 3 = .ok (.if_icmp .eq 9, 3) := by decide +kernel
theorem dX0_goesOnNumber_6 : decode cX0_goesOnNumber 6 = .ok (.iload_n 0, 1) := by decide +kernel
theorem dX0_goesOnNumber_7 : decode cX0_goesOnNumber 7 = .ok (.bipush 45, 2) := by decide +kernel
theorem dX0_goesOnNumber_9 : decode cX0_goesOnNumber 9 = .ok (.if_icmp .ne 33, 3) := by decide +kernel
theorem dX0_goesOnNumber_12 : decode cX0_goesOnNumber 12 = .ok (.iload_n 1, 1) := by decide +kernel
theorem dX0_goesOnNumber_13 : decode cX0_goesOnNumber 13 = .ok (.bipush 101, 2) := by decide +kernel
theorem dX0_goesOnNumber_15 : decode cX0_goesOnNumber 15 = .ok (.if_icmp .eq 21, 3) := by decide +kernel
theorem dX0_goesOnNumber_18 : decode cX0_goesOnNumber 18 = .ok (.iload_n 1, 1) := by decide +kernel
theorem dX0_goesOnNumber_19 : decode cX0_goesOnNumber 19 = .ok (.bipush 69, 2) := by decide +kernel
theorem dX0_goesOnNumber_21 : decode cX0_goesOnNumber 21 = .ok (.if_icmp .eq 15, 3) := by decide +kernel
theorem dX0_goesOnNumber_24 : decode cX0_goesOnNumber 24 = .ok (.iload_n 1, 1) := by decide +kernel
theorem dX0_goesOnNumber_25 : decode cX0_goesOnNumber 25 = .ok (.bipush 112, 2) := by decide +kernel
theorem dX0_goesOnNumber_27 : decode cX0_goesOnNumber 27 = .ok (.if_icmp .eq 9, 3) := by decide +kernel
theorem dX0_goesOnNumber_30 : decode cX0_goesOnNumber 30 = .ok (.iload_n 1, 1) := by decide +kernel
theorem dX0_goesOnNumber_31 : decode cX0_goesOnNumber 31 = .ok (.bipush 80, 2) := by decide +kernel
theorem dX0_goesOnNumber_33 : decode cX0_goesOnNumber 33 = .ok (.if_icmp .ne 7, 3) := by decide +kernel
theorem dX0_goesOnNumber_36 : decode cX0_goesOnNumber 36 = .ok (.iconst 1, 1) := by decide +kernel
theorem dX0_goesOnNumber_37 : decode cX0_goesOnNumber 37 = .ok (.goto 4, 3) := by decide +kernel
theorem dX0_goesOnNumber_40 : decode cX0_goesOnNumber 40 = .ok (.iconst 0, 1) := by decide +kernel
theorem dX0_goesOnNumber_41 : decode cX0_goesOnNumber 41 = .ok (.ireturn, 1) := by decide +kernel
theorem dX0_goesOnNumber_42 : decode cX0_goesOnNumber 42 = .ok (.iload_n 0, 1) := by decide +kernel
theorem dX0_goesOnNumber_43 : decode cX0_goesOnNumber 43 = .ok (.invokestatic 142, 3) := by decide +kernel
theorem dX0_goesOnNumber_46 : decode cX0_goesOnNumber 46 = .ok (.ifCond .ne 16, 3) := by decide +kernel
theorem dX0_goesOnNumber_49 : decode cX0_goesOnNumber 49 = .ok (.iload_n 0, 1) := by decide +kernel
theorem dX0_goesOnNumber_50 : decode cX0_goesOnNumber 50 = .ok (.invokestatic 133, 3) := by decide +kernel
theorem dX0_goesOnNumber_53 : decode cX0_goesOnNumber 53 = .ok (.ifCond .ne 9, 3) := by decide +kernel
theorem dX0_goesOnNumber_56 : decode cX0_goesOnNumber 56 = .ok (.iload_n 0, 1) := by decide +kernel
theorem dX0_goesOnNumber_57 : decode cX0_goesOnNumber 57 = .ok (.bipush 46, 2) := by decide +kernel
theorem dX0_goesOnNumber_59 : decode cX0_goesOnNumber 59 = .ok (.if_icmp .ne 7, 3) := by decide +kernel
theorem dX0_goesOnNumber_62 : decode cX0_goesOnNumber 62 = .ok (.iconst 1, 1) := by decide +kernel
theorem dX0_goesOnNumber_63 : decode cX0_goesOnNumber 63 = .ok (.goto 4, 3) := by decide +kernel
theorem dX0_goesOnNumber_66 : decode cX0_goesOnNumber 66 = .ok (.iconst 0, 1) := by decide +kernel
theorem dX0_goesOnNumber_67 : decode cX0_goesOnNumber 67 = .ok (.ireturn, 1) := by decide +kernel
theorem dX0_isLetter_0 : decode cX0_isLetter 0 = .ok (.iload_n 0, 1) := by decide +kernel
theorem dX0_isLetter_1 : decode cX0_isLetter 1 = .ok (.bipush 65, 2) := by decide +kernel
theorem dX0_isLetter_3 : decode cX0_isLetter 3 = .ok (.if_icmp .lt 9, 3) := by decide +kernel
theorem dX0_isLetter_6 : decode cX0_isLetter 6 = .ok (.iload_n 0, 1) := by decide +kernel
theorem dX0_isLetter_7 : decode cX0_isLetter 7 = .ok (.bipush 90, 2) := by decide +kernel
theorem dX0_isLetter_9 : decode cX0_isLetter 9 = .ok (.if_icmp .le 21, 3) := by decide +kernel
theorem dX0_isLetter_12 : decode cX0_isLetter 12 = .ok (.iload_n 0, 1) := by decide +kernel
theorem dX0_isLetter_13 : decode cX0_isLetter 13 = .ok (.bipush 97, 2) := by decide +kernel
theorem dX0_isLetter_15 : decode cX0_isLetter 15 = .ok (.if_icmp .lt 9, 3) := by decide +kernel
theorem dX0_isLetter_18 : decode cX0_isLetter 18 = .ok (.iload_n 0, 1) := by decide +kernel
theorem dX0_isLetter_19 : decode cX0_isLetter 19 = .ok (.bipush 122, 2) := by decide +kernel
theorem dX0_isLetter_21 : decode cX0_isLetter 21 = .ok (.if_icmp .le 9, 3) := by decide +kernel
theorem dX0_isLetter_24 : decode cX0_isLetter 24 = .ok (.iload_n 0, 1) := by decide +kernel
theorem dX0_isLetter_25 : decode cX0_isLetter 25 = .ok (.bipush 95, 2) := by decide +kernel
theorem dX0_isLetter_27 : decode cX0_isLetter 27 = .ok (.if_icmp .ne 7, 3) := by decide +kernel
theorem dX0_isLetter_30 : decode cX0_isLetter 30 = .ok (.iconst 1, 1) := by decide +kernel
theorem dX0_isLetter_31 : decode cX0_isLetter 31 = .ok (.goto 4, 3) := by decide +kernel
theorem dX0_isLetter_34 : decode cX0_isLetter 34 = .ok (.iconst 0, 1) := by decide +kernel
theorem dX0_isLetter_35 : decode cX0_isLetter 35 = .ok (.ireturn, 1) := by decide +kernel
theorem dX0_isDigit_0 : decode cX0_isDigit 0 = .ok (.iload_n 0, 1) := by decide +kernel
theorem dX0_isDigit_1 : decode cX0_isDigit 1 = .ok (.bipush 48, 2) := by decide +kernel
theorem dX0_isDigit_3 : decode cX0_isDigit 3 = .ok (.if_icmp .lt 13, 3) := by decide +kernel
theorem dX0_isDigit_6 : decode cX0_isDigit 6 = .ok (.iload_n 0, 1) := by decide +kernel
theorem dX0_isDigit_7 : decode cX0_isDigit 7 = .ok (.bipush 57, 2) := by decide +kernel
theorem dX0_isDigit_9 : decode cX0_isDigit 9 = .ok (.if_icmp .gt 7, 3) := by decide +kernel
theorem dX0_isDigit_12 : decode cX0_isDigit 12 = .ok (.iconst 1, 1) := by decide +kernel
theorem dX0_isDigit_13 : decode cX0_isDigit 13 = .ok (.goto 4, 3) := by decide +kernel
theorem dX0_isDigit_16 : decode cX0_isDigit 16 = .ok (.iconst 0, 1) := by decide +kernel
theorem dX0_isDigit_17 : decode cX0_isDigit 17 = .ok (.ireturn, 1) := by decide +kernel
theorem dX0_isBlank_0 : decode cX0_isBlank 0 = .ok (.iload_n 0, 1) := by decide +kernel
theorem dX0_isBlank_1 : decode cX0_isBlank 1 = .ok (.bipush 32, 2) := by decide +kernel
theorem dX0_isBlank_3 : decode cX0_isBlank 3 = .ok (.if_icmp .eq 21, 3) := by decide +kernel
theorem dX0_isBlank_6 : decode cX0_isBlank 6 = .ok (.iload_n 0, 1) := by decide +kernel
theorem dX0_isBlank_7 : decode cX0_isBlank 7 = .ok (.bipush 9, 2) := by decide +kernel
theorem dX0_isBlank_9 : decode cX0_isBlank 9 = .ok (.if_icmp .eq 15, 3) := by decide +kernel
theorem dX0_isBlank_12 : decode cX0_isBlank 12 = .ok (.iload_n 0, 1) := by decide +kernel
theorem dX0_isBlank_13 : decode cX0_isBlank 13 = .ok (.bipush 11, 2) := by decide +kernel
theorem dX0_isBlank_15 : decode cX0_isBlank 15 = .ok (.if_icmp .lt 13, 3) := by decide +kernel
theorem dX0_isBlank_18 : decode cX0_isBlank 18 = .ok (.iload_n 0, 1) := by decide +kernel
theorem dX0_isBlank_19 : decode cX0_isBlank 19 = .ok (.bipush 13, 2) := by decide +kernel
theorem dX0_isBlank_21 : decode cX0_isBlank 21 = .ok (.if_icmp .gt 7, 3) := by decide +kernel
theorem dX0_isBlank_24 : decode cX0_isBlank 24 = .ok (.iconst 1, 1) := by decide +kernel
theorem dX0_isBlank_25 : decode cX0_isBlank 25 = .ok (.goto 4, 3) := by decide +kernel
theorem dX0_isBlank_28 : decode cX0_isBlank 28 = .ok (.iconst 0, 1) := by decide +kernel
theorem dX0_isBlank_29 : decode cX0_isBlank 29 = .ok (.ireturn, 1) := by decide +kernel
theorem dX0_isQuote_0 : decode cX0_isQuote 0 = .ok (.iload_n 0, 1) := by decide +kernel
theorem dX0_isQuote_1 : decode cX0_isQuote 1 = .ok (.bipush 34, 2) := by decide +kernel
theorem dX0_isQuote_3 : decode cX0_isQuote 3 = .ok (.if_icmp .eq 9, 3) := by decide +kernel
theorem dX0_isQuote_6 : decode cX0_isQuote 6 = .ok (.iload_n 0, 1) := by decide +kernel
theorem dX0_isQuote_7 : decode cX0_isQuote 7 = .ok (.bipush 39, 2) := by decide +kernel
theorem dX0_isQuote_9 : decode cX0_isQuote 9 = .ok (.if_icmp .ne 7, 3) := by decide +kernel
theorem dX0_isQuote_12 : decode cX0_isQuote 12 = .ok (.iconst 1, 1) := by decide +kernel
theorem dX0_isQuote_13 : decode cX0_isQuote 13 = .ok (.goto 4, 3) := by decide +kernel
theorem dX0_isQuote_16 : decode cX0_isQuote 16 = .ok (.iconst 0, 1) := by decide +kernel
theorem dX0_isQuote_17 : decode cX0_isQuote 17 = .ok (.ireturn, 1) := by decide +kernel
theorem dX0_kindOfQuote_0 : decode cX0_kindOfQuote 0 = .ok (.iload_n 0, 1) := by decide +kernel
theorem dX0_kindOfQuote_1 : decode cX0_kindOfQuote 1 = .ok (.bipush 34, 2) := by decide +kernel
theorem dX0_kindOfQuote_3 : decode cX0_kindOfQuote 3 = .ok (.if_icmp .ne 7, 3) := by decide +kernel
theorem dX0_kindOfQuote_6 : decode cX0_kindOfQuote 6 = .ok (.iconst 3, 1) := by decide +kernel
theorem dX0_kindOfQuote_7 : decode cX0_kindOfQuote 7 = .ok (.goto 4, 3) := by decide +kernel
theorem dX0_kindOfQuote_10 : decode cX0_kindOfQuote 10 = .ok (.iconst 4, 1) := by decide +kernel
theorem dX0_kindOfQuote_11 : decode cX0_kindOfQuote 11 = .ok (.ireturn, 1) := by decide +kernel
theorem dX0_hasSign_0 : decode cX0_hasSign 0 = .ok (.iconst 0, 1) := by decide +kernel
theorem dX0_hasSign_1 : decode cX0_hasSign 1 = .ok (.istore 5, 2) := by decide +kernel
theorem dX0_hasSign_3 : decode cX0_hasSign 3 = .ok (.iload 5, 2) := by decide +kernel
theorem dX0_hasSign_5 : decode cX0_hasSign 5 = .ok (.iload_n 1, 1) := by decide +kernel
theorem dX0_hasSign_6 : decode cX0_hasSign 6 = .ok (.iadd, 1) := by decide +kernel
theorem dX0_hasSign_7 : decode cX0_hasSign 7 = .ok (.aload_n 0, 1) := by decide +kernel
theorem dX0_hasSign_8 : decode cX0_hasSign 8 = .ok (.invokevirtual 175, 3) := by decide +kernel
theorem dX0_hasSign_11 : decode cX0_hasSign 11 = .ok (.if_icmp .gt 59, 3) := by decide +kernel
theorem dX0_hasSign_14 : decode cX0_hasSign 14 = .ok (.aload_n 0, 1) := by decide +kernel
theorem dX0_hasSign_15 : decode cX0_hasSign 15 = .ok (.iload 5, 2) := by decide +kernel
theorem dX0_hasSign_17 : decode cX0_hasSign 17 = .ok (.invokevirtual 179, 3) := by decide +kernel
theorem dX0_hasSign_20 : decode cX0_hasSign 20 = .ok (.iload_n 2, 1) := by decide +kernel
theorem dX0_hasSign_21 : decode cX0_hasSign 21 = .ok (.if_icmp .ne 40, 3) := by decide +kernel
theorem dX0_hasSign_24 : decode cX0_hasSign 24 = .ok (.iload_n 1, 1) := by decide +kernel
theorem dX0_hasSign_25 : decode cX0_hasSign 25 = .ok (.iconst 2, 1) := by decide +kernel
theorem dX0_hasSign_26 : decode cX0_hasSign 26 = .ok (.if_icmp .lt 15, 3) := by decide +kernel
theorem dX0_hasSign_29 : decode cX0_hasSign 29 = .ok (.aload_n 0, 1) := by decide +kernel
theorem dX0_hasSign_30 : decode cX0_hasSign 30 = .ok (.iload 5, 2) := by decide +kernel
theorem dX0_hasSign_32 : decode cX0_hasSign 32 = .ok (.iconst 1, 1) := by decide +kernel
theorem dX0_hasSign_33 : decode cX0_hasSign 33 = .ok (.iadd, 1) := by decide +kernel
theorem dX0_hasSign_34 : decode cX0_hasSign 34 = .ok (.invokevirtual 179, 3) := by decide +kernel
theorem dX0_hasSign_37 : decode cX0_hasSign 37 = .ok (.iload_n 3, 1) := by decide +kernel
theorem dX0_hasSign_38 : decode cX0_hasSign 38 = .ok (.if_icmp .ne 23, 3) := by decide +kernel
theorem dX0_hasSign_41 : decode cX0_hasSign 41 = .ok (.iload_n 1, 1) := by decide +kernel
theorem dX0_hasSign_42 : decode cX0_hasSign 42 = .ok (.iconst 3, 1) := by decide +kernel
theorem dX0_hasSign_43 : decode cX0_hasSign 43 = .ok (.if_icmp .lt 16, 3) := by decide +kernel
theorem dX0_hasSign_46 : decode cX0_hasSign 46 = .ok (.aload_n 0, 1) := by decide +kernel
theorem dX0_hasSign_47 : decode cX0_hasSign 47 = .ok (.iload 5, 2) := by decide +kernel
theorem dX0_hasSign_49 : decode cX0_hasSign 49 = .ok (.iconst 2, 1) := by decide +kernel
theorem dX0_hasSign_50 : decode cX0_hasSign 50 = .ok (.iadd, 1) := by decide +kernel
theorem dX0_hasSign_51 : decode cX0_hasSign 51 = .ok (.invokevirtual 179, 3) := by decide +kernel
theorem dX0_hasSign_54 : decode cX0_hasSign 54 = .ok (.iload 4, 2) := by decide +kernel
theorem dX0_hasSign_56 : decode cX0_hasSign 56 = .ok (.if_icmp .ne 5, 3) := by decide +kernel
theorem dX0_hasSign_59 : decode cX0_hasSign 59 = .ok (.iconst 1, 1) := by decide +kernel
theorem dX0_hasSign_60 : decode cX0_hasSign 60 = .ok (.ireturn, 1) := by decide +kernel
theorem dX0_hasSign_61 : decode cX0_hasSign 61 = .ok (.iload 5, 2) := by decide +kernel
theorem dX0_hasSign_63 : decode cX0_hasSign 63 = .ok (.iload_n 1, 1) := by decide +kernel
theorem dX0_hasSign_64 : decode cX0_hasSign 64 = .ok (.iadd, 1) := by decide +kernel
theorem dX0_hasSign_65 : decode cX0_hasSign 65 = .ok (.istore 5, 2) := by decide +kernel
theorem dX0_hasSign_67 : decode cX0_hasSign 67 = .ok (.goto (-64), 3) := by decide +kernel
theorem dX0_hasSign_70 : decode cX0_hasSign 70 = .ok (.iconst 0, 1) := by decide +kernel
theorem dX0_hasSign_71 : decode cX0_hasSign 71 = .ok (.ireturn, 1) := by decide +kernel
