/-! decode rows -/
theorem dX1_init_0 : decode cX1_init 0 = .ok (.aload_n 0, 1) := by decide +kernel
theorem dX1_init_1 : decode cX1_init 1 = .ok (.invokespecial 1, 3) := by decide +kernel
theorem dX1_init_4 : decode cX1_init 4 = .ok (.aload_n 0, 1) := by decide +kernel
theorem dX1_init_5 : decode cX1_init 5 = .ok (.ldc 9, 2) := by decide +kernel
theorem dX1_init_7 : decode cX1_init 7 = .ok (.newarray .byte, 2) := by decide +kernel
theorem dX1_init_9 : decode cX1_init 9 = .ok (.putfield 10, 3) := by decide +kernel
theorem dX1_init_12 : decode cX1_init 12 = .ok (.aload_n 0, 1) := by decide +kernel
theorem dX1_init_13 : decode cX1_init 13 = .ok (.ldc 9, 2) := by decide +kernel
theorem dX1_init_15 : decode cX1_init 15 = .ok (.newarray .byte, 2) := by decide +kernel
theorem dX1_init_17 : decode cX1_init 17 = .ok (.putfield 14, 3) := by decide +kernel
theorem dX1_init_20 : decode cX1_init 20 = .ok (.aload_n 0, 1) := by decide +kernel
theorem dX1_init_21 : decode cX1_init 21 = .ok (.ldc 9, 2) := by decide +kernel
theorem dX1_init_23 : decode cX1_init 23 = .ok (.newarray .int, 2) := by decide +kernel
theorem dX1_init_25 : decode cX1_init 25 = .ok (.putfield 17, 3) := by decide +kernel
theorem dX1_init_28 : decode cX1_init 28 = .ok (.aload_n 0, 1) := by decide +kernel
theorem dX1_init_29 : decode cX1_init 29 = .ok (.ldc 9, 2) := by decide +kernel
theorem dX1_init_31 : decode cX1_init 31 = .ok (.newarray .int, 2) := by decide +kernel
theorem dX1_init_33 : decode cX1_init 33 = .ok (.putfield 21, 3) := by decide +kernel
theorem dX1_init_36 : decode cX1_init 36 = .ok (.aload_n 0, 1) := by decide +kernel
theorem dX1_init_37 : decode cX1_init 37 = .ok (.sipush 8000, 3) := by decide +kernel
theorem dX1_init_40 : decode cX1_init 40 = .ok (.newarray .int, 2) := by decide +kernel
theorem dX1_init_42 : decode cX1_init 42 = .ok (.putfield 24, 3) := by decide +kernel
theorem dX1_init_45 : decode cX1_init 45 = .ok (.aload_n 0, 1) := by decide +kernel
theorem dX1_init_46 : decode cX1_init 46 = .ok (.sipush 8000, 3) := by decide +kernel
theorem dX1_init_49 : decode cX1_init 49 = .ok (.newarray .int, 2) := by decide +kernel
theorem dX1_init_51 : decode cX1_init 51 = .ok (.putfield 27, 3) := by decide +kernel
theorem dX1_init_54 : decode cX1_init 54 = .ok (.aload_n 0, 1) := by decide +kernel
theorem dX1_init_55 : decode cX1_init 55 = .ok (.sipush 8000, 3) := by decide +kernel
theorem dX1_init_58 : decode cX1_init 58 = .ok (.newarray .int, 2) := by decide +kernel
theorem dX1_init_60 : decode cX1_init 60 = .ok (.putfield 30, 3) := by decide +kernel
theorem dX1_init_63 : decode cX1_init 63 = .ok (.aload_n 0, 1) := by decide +kernel
theorem dX1_init_64 : decode cX1_init 64 = .ok (.sipush 8000, 3) := by decide +kernel
theorem dX1_init_67 : decode cX1_init 67 = .ok (.newarray .boolean, 2) := by decide +kernel
theorem dX1_init_69 : decode cX1_init 69 = .ok (.putfield 33, 3) := by decide +kernel
theorem dX1_init_72 : decode cX1_init 72 = .ok (.aload_n 0, 1) := by decide +kernel
theorem dX1_init_73 : decode cX1_init 73 = .ok (.ldc 9, 2) := by decide +kernel
theorem dX1_init_75 : decode cX1_init 75 = .ok (.newarray .byte, 2) := by decide +kernel
theorem dX1_init_77 : decode cX1_init 77 = .ok (.putfield 37, 3) := by decide +kernel
theorem dX1_init_80 : decode cX1_init 80 = .ok (.aload_n 0, 1) := by decide +kernel
theorem dX1_init_81 : decode cX1_init 81 = .ok (.invokevirtual 40, 3) := by decide +kernel
theorem dX1_init_84 : decode cX1_init 84 = .ok (.return_, 1) := by decide +kernel
theorem dX1_feed_0 : decode cX1_feed 0 = .ok (.iload_n 3, 1) := by decide +kernel
theorem dX1_feed_1 : decode cX1_feed 1 = .ok (.iconst 1, 1) := by decide +kernel
theorem dX1_feed_2 : decode cX1_feed 2 = .ok (.if_icmp .lt 9, 3) := by decide +kernel
theorem dX1_feed_5 : decode cX1_feed 5 = .ok (.iload_n 3, 1) := by decide +kernel
theorem dX1_feed_6 : decode cX1_feed 6 = .ok (.bipush 8, 2) := by decide +kernel
theorem dX1_feed_8 : decode cX1_feed 8 = .ok (.if_icmp .le 5, 3) := by decide +kernel
theorem dX1_feed_11 : decode cX1_feed 11 = .ok (.iconst (-1), 1) := by decide +kernel
theorem dX1_feed_12 : decode cX1_feed 12 = .ok (.ireturn, 1) := by decide +kernel
theorem dX1_feed_13 : decode cX1_feed 13 = .ok (.aload_n 0, 1) := by decide +kernel
theorem dX1_feed_14 : decode cX1_feed 14 = .ok (.getfield 43, 3) := by decide +kernel
theorem dX1_feed_17 : decode cX1_feed 17 = .ok (.iload_n 3, 1) := by decide +kernel
theorem dX1_feed_18 : decode cX1_feed 18 = .ok (.iadd, 1) := by decide +kernel
theorem dX1_feed_19 : decode cX1_feed 19 = .ok (.ldc 9, 2) := by decide +kernel
theorem dX1_feed_21 : decode cX1_feed 21 = .ok (.if_icmp .le 6, 3) := by decide +kernel
theorem dX1_feed_24 : decode cX1_feed 24 = .ok (.bipush (-3), 2) := by decide +kernel
theorem dX1_feed_26 : decode cX1_feed 26 = .ok (.ireturn, 1) := by decide +kernel
theorem dX1_feed_27 : decode cX1_feed 27 = .ok (.iconst 0, 1) := by decide +kernel
theorem dX1_feed_28 : decode cX1_feed 28 = .ok (.istore 4, 2) := by decide +kernel
theorem dX1_feed_30 : decode cX1_feed 30 = .ok (.iload 4, 2) := by decide +kernel
theorem dX1_feed_32 : decode cX1_feed 32 = .ok (.iload_n 3, 1) := by decide +kernel
theorem dX1_feed_33 : decode cX1_feed 33 = .ok (.if_icmp .ge 37, 3) := by decide +kernel
theorem dX1_feed_36 : decode cX1_feed 36 = .ok (.aload_n 0, 1) := by decide +kernel
theorem dX1_feed_37 : decode cX1_feed 37 = .ok (.getfield 10, 3) := by decide +kernel
theorem dX1_feed_40 : decode cX1_feed 40 = .ok (.aload_n 0, 1) := by decide +kernel
theorem dX1_feed_41 : decode cX1_feed 41 = .ok (.getfield 43, 3) := by decide +kernel
theorem dX1_feed_44 : decode cX1_feed 44 = .ok (.lload_n 1, 1) := by decide +kernel
theorem dX1_feed_45 : decode cX1_feed 45 = .ok (.bipush 8, 2) := by decide +kernel
theorem dX1_feed_47 : decode cX1_feed 47 = .ok (.iload 4, 2) := by decide +kernel
theorem dX1_feed_49 : decode cX1_feed 49 = .ok (.imul, 1) := by decide +kernel
theorem dX1_feed_50 : decode cX1_feed 50 = .ok (.lshr, 1) := by decide +kernel
theorem dX1_feed_51 : decode cX1_feed 51 = .ok (.l2i, 1) := by decide +kernel
theorem dX1_feed_52 : decode cX1_feed 52 = .ok (.i2b, 1) := by decide +kernel
theorem dX1_feed_53 : decode cX1_feed 53 = .ok (.bastore, 1) := by decide +kernel
theorem dX1_feed_54 : decode cX1_feed 54 = .ok (.aload_n 0, 1) := by decide +kernel
theorem dX1_feed_55 : decode cX1_feed 55 = .ok (.dup, 1) := by decide +kernel
theorem dX1_feed_56 : decode cX1_feed 56 = .ok (.getfield 43, 3) := by decide +kernel
theorem dX1_feed_59 : decode cX1_feed 59 = .ok (.iconst 1, 1) := by decide +kernel
theorem dX1_feed_60 : decode cX1_feed 60 = .ok (.iadd, 1) := by decide +kernel
theorem dX1_feed_61 : decode cX1_feed 61 = .ok (.putfield 43, 3) := by decide +kernel
theorem dX1_feed_64 : decode cX1_feed 64 = .ok (.iinc 4 1, 3) := by decide +kernel
theorem dX1_feed_67 : decode cX1_feed 67 = .ok (.goto (-37), 3) := by decide +kernel
theorem dX1_feed_70 : decode cX1_feed 70 = .ok (.aload_n 0, 1) := by decide +kernel
theorem dX1_feed_71 : decode cX1_feed 71 = .ok (.getfield 43, 3) := by decide +kernel
theorem dX1_feed_74 : decode cX1_feed 74 = .ok (.ireturn, 1) := by decide +kernel
theorem dX1_again_0 : decode cX1_again 0 = .ok (.iload_n 1, 1) := by decide +kernel
theorem dX1_again_1 : decode cX1_again 1 = .ok (.ifCond .lt 18, 3) := by decide +kernel
theorem dX1_again_4 : decode cX1_again 4 = .ok (.iload_n 2, 1) := by decide +kernel
theorem dX1_again_5 : decode cX1_again 5 = .ok (.iconst 1, 1) := by decide +kernel
theorem dX1_again_6 : decode cX1_again 6 = .ok (.if_icmp .lt 13, 3) := by decide +kernel
theorem dX1_again_9 : decode cX1_again 9 = .ok (.iload_n 2, 1) := by decide +kernel
theorem dX1_again_10 : decode cX1_again 10 = .ok (.aload_n 0, 1) := by decide +kernel
theorem dX1_again_11 : decode cX1_again 11 = .ok (.getfield 43, 3) := by decide +kernel
theorem dX1_again_14 : decode cX1_again 14 = .ok (.iload_n 1, 1) := by decide +kernel
theorem dX1_again_15 : decode cX1_again 15 = .ok (.isub, 1) := by decide +kernel
theorem dX1_again_16 : decode cX1_again 16 = .ok (.if_icmp .le 5, 3) := by decide +kernel
theorem dX1_again_19 : decode cX1_again 19 = .ok (.iconst (-1), 1) := by decide +kernel
theorem dX1_again_20 : decode cX1_again 20 = .ok (.ireturn, 1) := by decide +kernel
theorem dX1_again_21 : decode cX1_again 21 = .ok (.aload_n 0, 1) := by decide +kernel
theorem dX1_again_22 : decode cX1_again 22 = .ok (.getfield 43, 3) := by decide +kernel
theorem dX1_again_25 : decode cX1_again 25 = .ok (.iload_n 2, 1) := by decide +kernel
theorem dX1_again_26 : decode cX1_again 26 = .ok (.iadd, 1) := by decide +kernel
theorem dX1_again_27 : decode cX1_again 27 = .ok (.ldc 9, 2) := by decide +kernel
theorem dX1_again_29 : decode cX1_again 29 = .ok (.if_icmp .le 6, 3) := by decide +kernel
theorem dX1_again_32 : decode cX1_again 32 = .ok (.bipush (-3), 2) := by decide +kernel
theorem dX1_again_34 : decode cX1_again 34 = .ok (.ireturn, 1) := by decide +kernel
theorem dX1_again_35 : decode cX1_again 35 = .ok (.iconst 0, 1) := by decide +kernel
theorem dX1_again_36 : decode cX1_again 36 = .ok (.istore_n 3, 1) := by decide +kernel
theorem dX1_again_37 : decode cX1_again 37 = .ok (.iload_n 3, 1) := by decide +kernel
theorem dX1_again_38 : decode cX1_again 38 = .ok (.iload_n 2, 1) := by decide +kernel
theorem dX1_again_39 : decode cX1_again 39 = .ok (.if_icmp .ge 28, 3) := by decide +kernel
theorem dX1_again_42 : decode cX1_again 42 = .ok (.aload_n 0, 1) := by decide +kernel
theorem dX1_again_43 : decode cX1_again 43 = .ok (.getfield 10, 3) := by decide +kernel
theorem dX1_again_46 : decode cX1_again 46 = .ok (.aload_n 0, 1) := by decide +kernel
theorem dX1_again_47 : decode cX1_again 47 = .ok (.getfield 43, 3) := by decide +kernel
theorem dX1_again_50 : decode cX1_again 50 = .ok (.iload_n 3, 1) := by decide +kernel
theorem dX1_again_51 : decode cX1_again 51 = .ok (.iadd, 1) := by decide +kernel
theorem dX1_again_52 : decode cX1_again 52 = .ok (.aload_n 0, 1) := by decide +kernel
theorem dX1_again_53 : decode cX1_again 53 = .ok (.getfield 10, 3) := by decide +kernel
theorem dX1_again_56 : decode cX1_again 56 = .ok (.iload_n 1, 1) := by decide +kernel
theorem dX1_again_57 : decode cX1_again 57 = .ok (.iload_n 3, 1) := by decide +kernel
theorem dX1_again_58 : decode cX1_again 58 = .ok (.iadd, 1) := by decide +kernel
theorem dX1_again_59 : decode cX1_again 59 = .ok (.baload, 1) := by decide +kernel
theorem dX1_again_60 : decode cX1_again 60 = .ok (.bastore, 1) := by decide +kernel
theorem dX1_again_61 : decode cX1_again 61 = .ok (.iinc 3 1, 3) := by decide +kernel
theorem dX1_again_64 : decode cX1_again 64 = .ok (.goto (-27), 3) := by decide +kernel
theorem dX1_again_67 : decode cX1_again 67 = .ok (.aload_n 0, 1) := by decide +kernel
theorem dX1_again_68 : decode cX1_again 68 = .ok (.aload_n 0, 1) := by decide +kernel
theorem dX1_again_69 : decode cX1_again 69 = .ok (.getfield 43, 3) := by decide +kernel
theorem dX1_again_72 : decode cX1_again 72 = .ok (.iload_n 2, 1) := by decide +kernel
theorem dX1_again_73 : decode cX1_again 73 = .ok (.iadd, 1) := by decide +kernel
theorem dX1_again_74 : decode cX1_again 74 = .ok (.putfield 43, 3) := by decide +kernel
theorem dX1_again_77 : decode cX1_again 77 = .ok (.aload_n 0, 1) := by decide +kernel
theorem dX1_again_78 : decode cX1_again 78 = .ok (.getfield 43, 3) := by decide +kernel
theorem dX1_again_81 : decode cX1_again 81 = .ok (.ireturn, 1) := by decide +kernel
theorem dX1_clear_0 : decode cX1_clear 0 = .ok (.aload_n 0, 1) := by decide +kernel
theorem dX1_clear_1 : decode cX1_clear 1 = .ok (.getfield 43, 3) := by decide +kernel
theorem dX1_clear_4 : decode cX1_clear 4 = .ok (.istore_n 1, 1) := by decide +kernel
theorem dX1_clear_5 : decode cX1_clear 5 = .ok (.aload_n 0, 1) := by decide +kernel
theorem dX1_clear_6 : decode cX1_clear 6 = .ok (.iconst 0, 1) := by decide +kernel
theorem dX1_clear_7 : decode cX1_clear 7 = .ok (.putfield 43, 3) := by decide +kernel
theorem dX1_clear_10 : decode cX1_clear 10 = .ok (.aload_n 0, 1) := by decide +kernel
theorem dX1_clear_11 : decode cX1_clear 11 = .ok (.invokevirtual 40, 3) := by decide +kernel
theorem dX1_clear_14 : decode cX1_clear 14 = .ok (.iload_n 1, 1) := by decide +kernel
theorem dX1_clear_15 : decode cX1_clear 15 = .ok (.ireturn, 1) := by decide +kernel
theorem dX1_begin_0 : decode cX1_begin 0 = .ok (.aload_n 0, 1) := by decide +kernel
theorem dX1_begin_1 : decode cX1_begin 1 = .ok (.iconst 0, 1) := by decide +kernel
theorem dX1_begin_2 : decode cX1_begin 2 = .ok (.putfield 47, 3) := by decide +kernel
theorem dX1_begin_5 : decode cX1_begin 5 = .ok (.aload_n 0, 1) := by decide +kernel
theorem dX1_begin_6 : decode cX1_begin 6 = .ok (.iconst 1, 1) := by decide +kernel
theorem dX1_begin_7 : decode cX1_begin 7 = .ok (.putfield 50, 3) := by decide +kernel
theorem dX1_begin_10 : decode cX1_begin 10 = .ok (.aload_n 0, 1) := by decide +kernel
theorem dX1_begin_11 : decode cX1_begin 11 = .ok (.iconst 0, 1) := by decide +kernel
theorem dX1_begin_12 : decode cX1_begin 12 = .ok (.putfield 53, 3) := by decide +kernel
theorem dX1_begin_15 : decode cX1_begin 15 = .ok (.aload_n 0, 1) := by decide +kernel
theorem dX1_begin_16 : decode cX1_begin 16 = .ok (.iconst 0, 1) := by decide +kernel
theorem dX1_begin_17 : decode cX1_begin 17 = .ok (.putfield 57, 3) := by decide +kernel
theorem dX1_begin_20 : decode cX1_begin 20 = .ok (.aload_n 0, 1) := by decide +kernel
theorem dX1_begin_21 : decode cX1_begin 21 = .ok (.iconst 0, 1) := by decide +kernel
theorem dX1_begin_22 : decode cX1_begin 22 = .ok (.putfield 60, 3) := by decide +kernel
theorem dX1_begin_25 : decode cX1_begin 25 = .ok (.aload_n 0, 1) := by decide +kernel
theorem dX1_begin_26 : decode cX1_begin 26 = .ok (.iconst 0, 1) := by decide +kernel
theorem dX1_begin_27 : decode cX1_begin 27 = .ok (.putfield 63, 3) := by decide +kernel
theorem dX1_begin_30 : decode cX1_begin 30 = .ok (.aload_n 0, 1) := by decide +kernel
theorem dX1_begin_31 : decode cX1_begin 31 = .ok (.iconst 0, 1) := by decide +kernel
theorem dX1_begin_32 : decode cX1_begin 32 = .ok (.putfield 66, 3) := by decide +kernel
theorem dX1_begin_35 : decode cX1_begin 35 = .ok (.return_, 1) := by decide +kernel
theorem dX1_isLetter_0 : decode cX1_isLetter 0 = .ok (.iload_n 0, 1) := by decide +kernel
theorem dX1_isLetter_1 : decode cX1_isLetter 1 = .ok (.bipush 65, 2) := by decide +kernel
theorem dX1_isLetter_3 : decode cX1_isLetter 3 = .ok (.if_icmp .lt 9, 3) := by decide +kernel
theorem dX1_isLetter_6 : decode cX1_isLetter 6 = .ok (.iload_n 0, 1) := by decide +kernel
theorem dX1_isLetter_7 : decode cX1_isLetter 7 = .ok (.bipush 90, 2) := by decide +kernel
theorem dX1_isLetter_9 : decode cX1_isLetter 9 = .ok (.if_icmp .le 21, 3) := by decide +kernel
theorem dX1_isLetter_12 : decode cX1_isLetter 12 = .ok (.iload_n 0, 1) := by decide +kernel
theorem dX1_isLetter_13 : decode cX1_isLetter 13 = .ok (.bipush 97, 2) := by decide +kernel
theorem dX1_isLetter_15 : decode cX1_isLetter 15 = .ok (.if_icmp .lt 9, 3) := by decide +kernel
theorem dX1_isLetter_18 : decode cX1_isLetter 18 = .ok (.iload_n 0, 1) := by decide +kernel
theorem dX1_isLetter_19 : decode cX1_isLetter 19 = .ok (.bipush 122, 2) := by decide +kernel
theorem dX1_isLetter_21 : decode cX1_isLetter 21 = .ok (.if_icmp .le 9, 3) := by decide +kernel
theorem dX1_isLetter_24 : decode cX1_isLetter 24 = .ok (.iload_n 0, 1) := by decide +kernel
theorem dX1_isLetter_25 : decode cX1_isLetter 25 = .ok (.bipush 95, 2) := by decide +kernel
theorem dX1_isLetter_27 : decode cX1_isLetter 27 = .ok (.if_icmp .ne 7, 3) := by decide +kernel
theorem dX1_isLetter_30 : decode cX1_isLetter 30 = .ok (.iconst 1, 1) := by decide +kernel
theorem dX1_isLetter_31 : decode cX1_isLetter 31 = .ok (.goto 4, 3) := by decide +kernel
theorem dX1_isLetter_34 : decode cX1_isLetter 34 = .ok (.iconst 0, 1) := by decide +kernel
theorem dX1_isLetter_35 : decode cX1_isLetter 35 = .ok (.ireturn, 1) := by decide +kernel
theorem dX1_isDigit_0 : decode cX1_isDigit 0 = .ok (.iload_n 0, 1) := by decide +kernel
theorem dX1_isDigit_1 : decode cX1_isDigit 1 = .ok (.bipush 48, 2) := by decide +kernel
theorem dX1_isDigit_3 : decode cX1_isDigit 3 = .ok (.if_icmp .lt 13, 3) := by decide +kernel
theorem dX1_isDigit_6 : decode cX1_isDigit 6 = .ok (.iload_n 0, 1) := by decide +kernel
theorem dX1_isDigit_7 : decode cX1_isDigit 7 = .ok (.bipush 57, 2) := by decide +kernel
theorem dX1_isDigit_9 : decode cX1_isDigit 9 = .ok (.if_icmp .gt 7, 3) := by decide +kernel
theorem dX1_isDigit_12 : decode cX1_isDigit 12 = .ok (.iconst 1, 1) := by decide +kernel
theorem dX1_isDigit_13 : decode cX1_isDigit 13 = .ok (.goto 4, 3) := by decide +kernel
theorem dX1_isDigit_16 : decode cX1_isDigit 16 = .ok (.iconst 0, 1) := by decide +kernel
theorem dX1_isDigit_17 : decode cX1_isDigit 17 = .ok (.ireturn, 1) := by decide +kernel
theorem dX1_isBlank_0 : decode cX1_isBlank 0 = .ok (.iload_n 0, 1) := by decide +kernel
theorem dX1_isBlank_1 : decode cX1_isBlank 1 = .ok (.bipush 32, 2) := by decide +kernel
theorem dX1_isBlank_3 : decode cX1_isBlank 3 = .ok (.if_icmp .eq 27, 3) := by decide +kernel
theorem dX1_isBlank_6 : decode cX1_isBlank 6 = .ok (.iload_n 0, 1) := by decide +kernel
theorem dX1_isBlank_7 : decode cX1_isBlank 7 = .ok (.bipush 9, 2) := by decide +kernel
theorem dX1_isBlank_9 : decode cX1_isBlank 9 = .ok (.if_icmp .eq 21, 3) := by decide +kernel
theorem dX1_isBlank_12 : decode cX1_isBlank 12 = .ok (.iload_n 0, 1) := by decide +kernel
theorem dX1_isBlank_13 : decode cX1_isBlank 13 = .ok (.bipush 11, 2) := by decide +kernel
theorem dX1_isBlank_15 : decode cX1_isBlank 15 = .ok (.if_icmp .eq 15, 3) := by decide +kernel
theorem dX1_isBlank_18 : decode cX1_isBlank 18 = .ok (.iload_n 0, 1) := by decide +kernel
theorem dX1_isBlank_19 : decode cX1_isBlank 19 = .ok (.bipush 12, 2) := by decide +kernel
theorem dX1_isBlank_21 : decode cX1_isBlank 21 = .ok (.if_icmp .eq 9, 3) := by decide +kernel
theorem dX1_isBlank_24 : decode cX1_isBlank 24 = .ok (.iload_n 0, 1) := by decide +kernel
theorem dX1_isBlank_25 : decode cX1_isBlank 25 = .ok (.bipush 13, 2) := by decide +kernel
theorem dX1_isBlank_27 : decode cX1_isBlank 27 = .ok (.if_icmp .ne 7, 3) := by decide +kernel
theorem dX1_isBlank_30 : decode cX1_isBlank 30 = .ok (.iconst 1, 1) := by decide +kernel
theorem dX1_isBlank_31 : decode cX1_isBlank 31 = .ok (.goto 4, 3) := by decide +kernel
theorem dX1_isBlank_34 : decode cX1_isBlank 34 = .ok (.iconst 0, 1) := by decide +kernel
theorem dX1_isBlank_35 : decode cX1_isBlank 35 = .ok (.ireturn, 1) := by decide +kernel
theorem dX1_byteAt_0 : decode cX1_byteAt 0 = .ok (.iload_n 1, 1) := by decide +kernel
theorem dX1_byteAt_1 : decode cX1_byteAt 1 = .ok (.iload_n 2, 1) := by decide +kernel
theorem dX1_byteAt_2 : decode cX1_byteAt 2 = .ok (.if_icmp .ge 13, 3) := by decide +kernel
theorem dX1_byteAt_5 : decode cX1_byteAt 5 = .ok (.aload_n 0, 1) := by decide +kernel
theorem dX1_byteAt_6 : decode cX1_byteAt 6 = .ok (.iload_n 1, 1) := by decide +kernel
theorem dX1_byteAt_7 : decode cX1_byteAt 7 = .ok (.baload, 1) := by decide +kernel
theorem dX1_byteAt_8 : decode cX1_byteAt 8 = .ok (.sipush 255, 3) := by decide +kernel
theorem dX1_byteAt_11 : decode cX1_byteAt 11 = .ok (.iand, 1) := by decide +kernel
theorem dX1_byteAt_12 : decode cX1_byteAt 12 = .ok (.goto 4, 3) := by decide +kernel
theorem dX1_byteAt_15 : decode cX1_byteAt 15 = .ok (.iconst (-1), 1) := by decide +kernel
theorem dX1_byteAt_16 : decode cX1_byteAt 16 = .ok (.ireturn, 1) := by decide +kernel
theorem dX1_quotedEnd_0 : decode cX1_quotedEnd 0 = .ok (.aload_n 0, 1) := by decide +kernel
theorem dX1_quotedEnd_1 : decode cX1_quotedEnd 1 = .ok (.getfield 14, 3) := by decide +kernel
theorem dX1_quotedEnd_4 : decode cX1_quotedEnd 4 = .ok (.iload_n 1, 1) := by decide +kernel
theorem dX1_quotedEnd_5 : decode cX1_quotedEnd 5 = .ok (.baload, 1) := by decide +kernel
theorem dX1_quotedEnd_6 : decode cX1_quotedEnd 6 = .ok (.sipush 255, 3) := by decide +kernel
theorem dX1_quotedEnd_9 : decode cX1_quotedEnd 9 = .ok (.iand, 1) := by decide +kernel
theorem dX1_quotedEnd_10 : decode cX1_quotedEnd 10 = .ok (.istore_n 3, 1) := by decide +kernel
theorem dX1_quotedEnd_11 : decode cX1_quotedEnd 11 = .ok (.iload_n 1, 1) := by decide +kernel
theorem dX1_quotedEnd_12 : decode cX1_quotedEnd 12 = .ok (.iconst 1, 1) := by decide +kernel
theorem dX1_quotedEnd_13 : decode cX1_quotedEnd 13 = .ok (.iadd, 1) := by decide +kernel
theorem dX1_quotedEnd_14 : decode cX1_quotedEnd 14 = .ok (.istore 4, 2) := by decide +kernel
theorem dX1_quotedEnd_16 : decode cX1_quotedEnd 16 = .ok (.iload 4, 2) := by decide +kernel
theorem dX1_quotedEnd_18 : decode cX1_quotedEnd 18 = .ok (.iload_n 2, 1) := by decide +kernel
theorem dX1_quotedEnd_19 : decode cX1_quotedEnd 19 = .ok (.if_icmp .ge 80, 3) := by decide +kernel
theorem dX1_quotedEnd_22 : decode cX1_quotedEnd 22 = .ok (.aload_n 0, 1) := by decide +kernel
theorem dX1_quotedEnd_23 : decode cX1_quotedEnd 23 = .ok (.getfield 14, 3) := by decide +kernel
theorem dX1_quotedEnd_26 : decode cX1_quotedEnd 26 = .ok (.iload 4, 2) := by decide +kernel
theorem dX1_quotedEnd_28 : decode cX1_quotedEnd 28 = .ok (.baload, 1) := by decide +kernel
theorem dX1_quotedEnd_29 : decode cX1_quotedEnd 29 = .ok (.bipush 10, 2) := by decide +kernel
theorem dX1_quotedEnd_31 : decode cX1_quotedEnd 31 = .ok (.if_icmp .eq 68, 3) := by decide +kernel
theorem dX1_quotedEnd_34 : decode cX1_quotedEnd 34 = .ok (.aload_n 0, 1) := by decide +kernel
theorem dX1_quotedEnd_35 : decode cX1_quotedEnd 35 = .ok (.getfield 14, 3) := by decide +kernel
theorem dX1_quotedEnd_38 : decode cX1_quotedEnd 38 = .ok (.iload 4, 2) := by decide +kernel
theorem dX1_quotedEnd_40 : decode cX1_quotedEnd 40 = .ok (.baload, 1) := by decide +kernel
theorem dX1_quotedEnd_41 : decode cX1_quotedEnd 41 = .ok (.sipush 255, 3) := by decide +kernel
theorem dX1_quotedEnd_44 : decode cX1_quotedEnd 44 = .ok (.iand, 1) := by decide +kernel
theorem dX1_quotedEnd_45 : decode cX1_quotedEnd 45 = .ok (.iload_n 3, 1) := by decide +kernel
theorem dX1_quotedEnd_46 : decode cX1_quotedEnd 46 = .ok (.if_icmp .eq 53, 3) := by decide +kernel
theorem dX1_quotedEnd_49 : decode cX1_quotedEnd 49 = .ok (.aload_n 0, 1) := by decide +kernel
theorem dX1_quotedEnd_50 : decode cX1_quotedEnd 50 = .ok (.getfield 14, 3) := by decide +kernel
theorem dX1_quotedEnd_53 : decode cX1_quotedEnd 53 = .ok (.iload 4, 2) := by decide +kernel
theorem dX1_quotedEnd_55 : decode cX1_quotedEnd 55 = .ok (.baload, 1) := by decide +kernel
theorem dX1_quotedEnd_56 : decode cX1_quotedEnd 56 = .ok (.bipush 92, 2) := by decide +kernel
theorem dX1_quotedEnd_58 : decode cX1_quotedEnd 58 = .ok (.if_icmp .ne 32, 3) := by decide +kernel
theorem dX1_quotedEnd_61 : decode cX1_quotedEnd 61 = .ok (.iload 4, 2) := by decide +kernel
theorem dX1_quotedEnd_63 : decode cX1_quotedEnd 63 = .ok (.iconst 1, 1) := by decide +kernel
theorem dX1_quotedEnd_64 : decode cX1_quotedEnd 64 = .ok (.iadd, 1) := by decide +kernel
theorem dX1_quotedEnd_65 : decode cX1_quotedEnd 65 = .ok (.iload_n 2, 1) := by decide +kernel
theorem dX1_quotedEnd_66 : decode cX1_quotedEnd 66 = .ok (.if_icmp .ge 24, 3) := by decide +kernel
theorem dX1_quotedEnd_69 : decode cX1_quotedEnd 69 = .ok (.aload_n 0, 1) := by decide +kernel
theorem dX1_quotedEnd_70 : decode cX1_quotedEnd 70 = .ok (.getfield 14, 3) := by decide +kernel
theorem dX1_quotedEnd_73 : decode cX1_quotedEnd 73 = .ok (.iload 4, 2) := by decide +kernel
theorem dX1_quotedEnd_75 : decode cX1_quotedEnd 75 = .ok (.iconst 1, 1) := by decide +kernel
theorem dX1_quotedEnd_76 : decode cX1_quotedEnd 76 = .ok (.iadd, 1) := by decide +kernel
theorem dX1_quotedEnd_77 : decode cX1_quotedEnd 77 = .ok (.baload, 1) := by decide +kernel
theorem dX1_quotedEnd_78 : decode cX1_quotedEnd 78 = .ok (.bipush 10, 2) := by decide +kernel
theorem dX1_quotedEnd_80 : decode cX1_quotedEnd 80 = .ok (.if_icmp .eq 10, 3) := by decide +kernel
theorem dX1_quotedEnd_83 : decode cX1_quotedEnd 83 = .ok (.iload 4, 2) := by decide +kernel
theorem dX1_quotedEnd_85 : decode cX1_quotedEnd 85 = .ok (.iconst 2, 1) := by decide +kernel
theorem dX1_quotedEnd_86 : decode cX1_quotedEnd 86 = .ok (.iadd, 1) := by decide +kernel
theorem dX1_quotedEnd_87 : decode cX1_quotedEnd 87 = .ok (.goto 7, 3) := by decide +kernel
theorem dX1_quotedEnd_90 : decode cX1_quotedEnd 90 = .ok (.iload 4, 2) := by decide +kernel
theorem dX1_quotedEnd_92 : decode cX1_quotedEnd 92 = .ok (.iconst 1, 1) := by decide +kernel
theorem dX1_quotedEnd_93 : decode cX1_quotedEnd 93 = .ok (.iadd, 1) := by decide +kernel
theorem dX1_quotedEnd_94 : decode cX1_quotedEnd 94 = .ok (.istore 4, 2) := by decide +kernel
theorem dX1_quotedEnd_96 : decode cX1_quotedEnd 96 = .ok (.goto (-80), 3) := by decide +kernel
theorem dX1_quotedEnd_99 : decode cX1_quotedEnd 99 = .ok (.iload 4, 2) := by decide +kernel
theorem dX1_quotedEnd_101 : decode cX1_quotedEnd 101 = .ok (.iload_n 2, 1) := by decide +kernel
theorem dX1_quotedEnd_102 : decode cX1_quotedEnd 102 = .ok (.if_icmp .ge 25, 3) := by decide +kernel
theorem dX1_quotedEnd_105 : decode cX1_quotedEnd 105 = .ok (.aload_n 0, 1) := by decide +kernel
theorem dX1_quotedEnd_106 : decode cX1_quotedEnd 106 = .ok (.getfield 14, 3) := by decide +kernel
theorem dX1_quotedEnd_109 : decode cX1_quotedEnd 109 = .ok (.iload 4, 2) := by decide +kernel
theorem dX1_quotedEnd_111 : decode cX1_quotedEnd 111 = .ok (.baload, 1) := by decide +kernel
theorem dX1_quotedEnd_112 : decode cX1_quotedEnd 112 = .ok (.sipush 255, 3) := by decide +kernel
theorem dX1_quotedEnd_115 : decode cX1_quotedEnd 115 = .ok (.iand, 1) := by decide +kernel
theorem dX1_quotedEnd_116 : decode cX1_quotedEnd 116 = .ok (.iload_n 3, 1) := by decide +kernel
theorem dX1_quotedEnd_117 : decode cX1_quotedEnd 117 = .ok (.if_icmp .ne 10, 3) := by decide +kernel
theorem dX1_quotedEnd_120 : decode cX1_quotedEnd 120 = .ok (.iload 4, 2) := by decide +kernel
theorem dX1_quotedEnd_122 : decode cX1_quotedEnd 122 = .ok (.iconst 1, 1) := by decide +kernel
theorem dX1_quotedEnd_123 : decode cX1_quotedEnd 123 = .ok (.iadd, 1) := by decide +kernel
theorem dX1_quotedEnd_124 : decode cX1_quotedEnd 124 = .ok (.goto 4, 3) := by decide +kernel
theorem dX1_quotedEnd_127 : decode cX1_quotedEnd 127 = .ok (.iconst (-1), 1) := by decide +kernel
theorem dX1_quotedEnd_128 : decode cX1_quotedEnd 128 = .ok (.ireturn, 1) := by decide +kernel
theorem dX1_isOneOf_0 : decode cX1_isOneOf 0 = .ok (.iconst 0, 1) := by decide +kernel
theorem dX1_isOneOf_1 : decode cX1_isOneOf 1 = .ok (.istore_n 2, 1) := by decide +kernel
theorem dX1_isOneOf_2 : decode cX1_isOneOf 2 = .ok (.iconst 0, 1) := by decide +kernel
theorem dX1_isOneOf_3 : decode cX1_isOneOf 3 = .ok (.istore_n 3, 1) := by decide +kernel
theorem dX1_isOneOf_4 : decode cX1_isOneOf 4 = .ok (.iload_n 3, 1) := by decide +kernel
theorem dX1_isOneOf_5 : decode cX1_isOneOf 5 = .ok (.aload_n 1, 1) := by decide +kernel
theorem dX1_isOneOf_6 : decode cX1_isOneOf 6 = .ok (.invokevirtual 69, 3) := by decide +kernel
theorem dX1_isOneOf_9 : decode cX1_isOneOf 9 = .ok (.if_icmp .ge 28, 3) := by decide +kernel
theorem dX1_isOneOf_12 : decode cX1_isOneOf 12 = .ok (.iload_n 2, 1) := by decide +kernel
theorem dX1_isOneOf_13 : decode cX1_isOneOf 13 = .ok (.ifCond .ne 12, 3) := by decide +kernel
theorem dX1_isOneOf_16 : decode cX1_isOneOf 16 = .ok (.iload_n 0, 1) := by decide +kernel
theorem dX1_isOneOf_17 : decode cX1_isOneOf 17 = .ok (.aload_n 1, 1) := by decide +kernel
theorem dX1_isOneOf_18 : decode cX1_isOneOf 18 = .ok (.iload_n 3, 1) := by decide +kernel
theorem dX1_isOneOf_19 : decode cX1_isOneOf 19 = .ok (.invokevirtual 75, 3) := by decide +kernel
theorem dX1_isOneOf_22 : decode cX1_isOneOf 22 = .ok (.if_icmp .ne 7, 3) := by decide +kernel
theorem dX1_isOneOf_25 : decode cX1_isOneOf 25 = .ok (.iconst 1, 1) := by decide +kernel
theorem dX1_isOneOf_26 : decode cX1_isOneOf 26 = .ok (.goto 4, 3) := by decide +kernel
theorem dX1_isOneOf_29 : decode cX1_isOneOf 29 = .ok (.iconst 0, 1) := by decide +kernel
theorem dX1_isOneOf_30 : decode cX1_isOneOf 30 = .ok (.istore_n 2, 1) := by decide +kernel
theorem dX1_isOneOf_31 : decode cX1_isOneOf 31 = .ok (.iinc 3 1, 3) := by decide +kernel
theorem dX1_isOneOf_34 : decode cX1_isOneOf 34 = .ok (.goto (-30), 3) := by decide +kernel
theorem dX1_isOneOf_37 : decode cX1_isOneOf 37 = .ok (.iload_n 2, 1) := by decide +kernel
theorem dX1_isOneOf_38 : decode cX1_isOneOf 38 = .ok (.ireturn, 1) := by decide +kernel
theorem dX1_signSize_0 : decode cX1_signSize 0 = .ok (.aload_n 0, 1) := by decide +kernel
theorem dX1_signSize_1 : decode cX1_signSize 1 = .ok (.getfield 14, 3) := by decide +kernel
theorem dX1_signSize_4 : decode cX1_signSize 4 = .ok (.iload_n 1, 1) := by decide +kernel
theorem dX1_signSize_5 : decode cX1_signSize 5 = .ok (.iload_n 2, 1) := by decide +kernel
theorem dX1_signSize_6 : decode cX1_signSize 6 = .ok (.invokestatic 79, 3) := by decide +kernel
theorem dX1_signSize_9 : decode cX1_signSize 9 = .ok (.istore_n 3, 1) := by decide +kernel
theorem dX1_signSize_10 : decode cX1_signSize 10 = .ok (.aload_n 0, 1) := by decide +kernel
theorem dX1_signSize_11 : decode cX1_signSize 11 = .ok (.getfield 14, 3) := by decide +kernel
theorem dX1_signSize_14 : decode cX1_signSize 14 = .ok (.iload_n 1, 1) := by decide +kernel
theorem dX1_signSize_15 : decode cX1_signSize 15 = .ok (.iconst 1, 1) := by decide +kernel
theorem dX1_signSize_16 : decode cX1_signSize 16 = .ok (.iadd, 1) := by decide +kernel
theorem dX1_signSize_17 : decode cX1_signSize 17 = .ok (.iload_n 2, 1) := by decide +kernel
theorem dX1_signSize_18 : decode cX1_signSize 18 = .ok (.invokestatic 79, 3) := by decide +kernel
theorem dX1_signSize_21 : decode cX1_signSize 21 = .ok (.istore 4, 2) := by decide +kernel
theorem dX1_signSize_23 : decode cX1_signSize 23 = .ok (.aload_n 0, 1) := by decide +kernel
theorem dX1_signSize_24 : decode cX1_signSize 24 = .ok (.getfield 14, 3) := by decide +kernel
theorem dX1_signSize_27 : decode cX1_signSize 27 = .ok (.iload_n 1, 1) := by decide +kernel
theorem dX1_signSize_28 : decode cX1_signSize 28 = .ok (.iconst 2, 1) := by decide +kernel
theorem dX1_signSize_29 : decode cX1_signSize 29 = .ok (.iadd, 1) := by decide +kernel
theorem dX1_signSize_30 : decode cX1_signSize 30 = .ok (.iload_n 2, 1) := by decide +kernel
theorem dX1_signSize_31 : decode cX1_signSize 31 = .ok (.invokestatic 79, 3) := by decide +kernel
theorem dX1_signSize_34 : decode cX1_signSize 34 = .ok (.istore 5, 2) := by decide +kernel
theorem dX1_signSize_36 : decode cX1_signSize 36 = .ok (.iload_n 3, 1) := by decide +kernel
theorem dX1_signSize_37 : decode cX1_signSize 37 = .ok (.bipush 46, 2) := by decide +kernel
theorem dX1_signSize_39 : decode cX1_signSize 39 = .ok (.if_icmp .ne 17, 3) := by decide +kernel
theorem dX1_signSize_42 : decode cX1_signSize 42 = .ok (.iload 4, 2) := by decide +kernel
theorem dX1_signSize_44 : decode cX1_signSize 44 = .ok (.bipush 46, 2) := by decide +kernel
theorem dX1_signSize_46 : decode cX1_signSize 46 = .ok (.if_icmp .ne 10, 3) := by decide +kernel
theorem dX1_signSize_49 : decode cX1_signSize 49 = .ok (.iload 5, 2) := by decide +kernel
theorem dX1_signSize_51 : decode cX1_signSize 51 = .ok (.bipush 46, 2) := by decide +kernel
theorem dX1_signSize_53 : decode cX1_signSize 53 = .ok (.if_icmp .eq 28, 3) := by decide +kernel
theorem dX1_signSize_56 : decode cX1_signSize 56 = .ok (.iload_n 3, 1) := by decide +kernel
theorem dX1_signSize_57 : decode cX1_signSize 57 = .ok (.bipush 60, 2) := by decide +kernel
theorem dX1_signSize_59 : decode cX1_signSize 59 = .ok (.if_icmp .eq 9, 3) := by decide +kernel
theorem dX1_signSize_62 : decode cX1_signSize 62 = .ok (.iload_n 3, 1) := by decide +kernel
theorem dX1_signSize_63 : decode cX1_signSize 63 = .ok (.bipush 62, 2) := by decide +kernel
theorem dX1_signSize_65 : decode cX1_signSize 65 = .ok (.if_icmp .ne 18, 3) := by decide +kernel
theorem dX1_signSize_68 : decode cX1_signSize 68 = .ok (.iload 4, 2) := by decide +kernel
theorem dX1_signSize_70 : decode cX1_signSize 70 = .ok (.iload_n 3, 1) := by decide +kernel
theorem dX1_signSize_71 : decode cX1_signSize 71 = .ok (.if_icmp .ne 12, 3) := by decide +kernel
theorem dX1_signSize_74 : decode cX1_signSize 74 = .ok (.iload 5, 2) := by decide +kernel
theorem dX1_signSize_76 : decode cX1_signSize 76 = .ok (.bipush 61, 2) := by decide +kernel
theorem dX1_signSize_78 : decode cX1_signSize 78 = .ok (.if_icmp .ne 5, 3) := by decide +kernel
theorem dX1_signSize_81 : decode cX1_signSize 81 = .ok (.iconst 3, 1) := by decide +kernel
theorem dX1_signSize_82 : decode cX1_signSize 82 = .ok (.ireturn, 1) := by decide +kernel
theorem dX1_signSize_83 : decode cX1_signSize 83 = .ok (.iload_n 3, 1) := by decide +kernel
theorem dX1_signSize_84 : decode cX1_signSize 84 = .ok (.iload 4, 2) := by decide +kernel
theorem dX1_signSize_86 : decode cX1_signSize 86 = .ok (.if_icmp .ne 16, 3) := by decide +kernel
theorem dX1_signSize_89 : decode cX1_signSize 89 = .ok (.iload_n 3, 1) := by decide +kernel
theorem dX1_signSize_90 : decode cX1_signSize 90 = .ok (.ldc 83, 2) := by decide +kernel
theorem dX1_signSize_92 : decode cX1_signSize 92 = .ok (.invokestatic 85, 3) := by decide +kernel
theorem dX1_signSize_95 : decode cX1_signSize 95 = .ok (.ifCond .eq 7, 3) := by decide +kernel
theorem dX1_signSize_98 : decode cX1_signSize 98 = .ok (.iconst 1, 1) := by decide +kernel
theorem dX1_signSize_99 : decode cX1_signSize 99 = .ok (.goto 4, 3) := by decide +kernel
theorem dX1_signSize_102 : decode cX1_signSize 102 = .ok (.iconst 0, 1) := by decide +kernel
theorem dX1_signSize_103 : decode cX1_signSize 103 = .ok (.istore 6, 2) := by decide +kernel
theorem dX1_signSize_105 : decode cX1_signSize 105 = .ok (.iload 4, 2) := by decide +kernel
theorem dX1_signSize_107 : decode cX1_signSize 107 = .ok (.bipush 61, 2) := by decide +kernel
theorem dX1_signSize_109 : decode cX1_signSize 109 = .ok (.if_icmp .ne 16, 3) := by decide +kernel
theorem dX1_signSize_112 : decode cX1_signSize 112 = .ok (.iload_n 3, 1) := by decide +kernel
theorem dX1_signSize_113 : decode cX1_signSize 113 = .ok (.ldc 89, 2) := by decide +kernel
theorem dX1_signSize_115 : decode cX1_signSize 115 = .ok (.invokestatic 85, 3) := by decide +kernel
theorem dX1_signSize_118 : decode cX1_signSize 118 = .ok (.ifCond .eq 7, 3) := by decide +kernel
theorem dX1_signSize_121 : decode cX1_signSize 121 = .ok (.iconst 1, 1) := by decide +kernel
theorem dX1_signSize_122 : decode cX1_signSize 122 = .ok (.goto 4, 3) := by decide +kernel
theorem dX1_signSize_125 : decode cX1_signSize 125 = .ok (.iconst 0, 1) := by decide +kernel
theorem dX1_signSize_126 : decode cX1_signSize 126 = .ok (.istore 7, 2) := by decide +kernel
theorem dX1_signSize_128 : decode cX1_signSize 128 = .ok (.iload 6, 2) := by decide +kernel
theorem dX1_signSize_130 : decode cX1_signSize 130 = .ok (.ifCond .ne 21, 3) := by decide +kernel
theorem dX1_signSize_133 : decode cX1_signSize 133 = .ok (.iload 7, 2) := by decide +kernel
theorem dX1_signSize_135 : decode cX1_signSize 135 = .ok (.ifCond .ne 16, 3) := by decide +kernel
theorem dX1_signSize_138 : decode cX1_signSize 138 = .ok (.iload_n 3, 1) := by decide +kernel
theorem dX1_signSize_139 : decode cX1_signSize 139 = .ok (.bipush 45, 2) := by decide +kernel
theorem dX1_signSize_141 : decode cX1_signSize 141 = .ok (.if_icmp .ne 14, 3) := by decide +kernel
theorem dX1_signSize_144 : decode cX1_signSize 144 = .ok (.iload 4, 2) := by decide +kernel
theorem dX1_signSize_146 : decode cX1_signSize 146 = .ok (.bipush 62, 2) := by decide +kernel
theorem dX1_signSize_148 : decode cX1_signSize 148 = .ok (.if_icmp .ne 7, 3) := by decide +kernel
theorem dX1_signSize_151 : decode cX1_signSize 151 = .ok (.iconst 2, 1) := by decide +kernel
theorem dX1_signSize_152 : decode cX1_signSize 152 = .ok (.goto 4, 3) := by decide +kernel
theorem dX1_signSize_155 : decode cX1_signSize 155 = .ok (.iconst 1, 1) := by decide +kernel
theorem dX1_signSize_156 : decode cX1_signSize 156 = .ok (.ireturn, 1) := by decide +kernel
theorem dX1_tokenSizeAt_0 : decode cX1_tokenSizeAt 0 = .ok (.aload_n 0, 1) := by decide +kernel
theorem dX1_tokenSizeAt_1 : decode cX1_tokenSizeAt 1 = .ok (.getfield 14, 3) := by decide +kernel
theorem dX1_tokenSizeAt_4 : decode cX1_tokenSizeAt 4 = .ok (.iload_n 1, 1) := by decide +kernel
theorem dX1_tokenSizeAt_5 : decode cX1_tokenSizeAt 5 = .ok (.iload_n 2, 1) := by decide +kernel
theorem dX1_tokenSizeAt_6 : decode cX1_tokenSizeAt 6 = .ok (.invokestatic 79, 3) := by decide +kernel
theorem dX1_tokenSizeAt_9 : decode cX1_tokenSizeAt 9 = .ok (.istore_n 3, 1) := by decide +kernel
theorem dX1_tokenSizeAt_10 : decode cX1_tokenSizeAt 10 = .ok (.aload_n 0, 1) := by decide +kernel
theorem dX1_tokenSizeAt_11 : decode cX1_tokenSizeAt 11 = .ok (.getfield 14, 3) := by decide +kernel
theorem dX1_tokenSizeAt_14 : decode cX1_tokenSizeAt 14 = .ok (.iload_n 1, 1) := by decide +kernel
theorem dX1_tokenSizeAt_15 : decode cX1_tokenSizeAt 15 = .ok (.iconst 1, 1) := by decide +kernel
theorem dX1_tokenSizeAt_16 : decode cX1_tokenSizeAt 16 = .ok (.iadd, 1) := by decide +kernel
theorem dX1_tokenSizeAt_17 : decode cX1_tokenSizeAt 17 = .ok (.iload_n 2, 1) := by decide +kernel
theorem dX1_tokenSizeAt_18 : decode cX1_tokenSizeAt 18 = .ok (.invokestatic 79, 3) := by decide +kernel
theorem dX1_tokenSizeAt_21 : decode cX1_tokenSizeAt 21 = .ok (.istore 4, 2) := by decide +kernel
theorem dX1_tokenSizeAt_23 : decode cX1_tokenSizeAt 23 = .ok (.iload_n 3, 1) := by decide +kernel
theorem dX1_tokenSizeAt_24 : decode cX1_tokenSizeAt 24 = .ok (.bipush 76, 2) := by decide +kernel
theorem dX1_tokenSizeAt_26 : decode cX1_tokenSizeAt 26 = .ok (.if_icmp .ne 39, 3) := by decide +kernel
theorem dX1_tokenSizeAt_29 : decode cX1_tokenSizeAt 29 = .ok (.iload 4, 2) := by decide +kernel
theorem dX1_tokenSizeAt_31 : decode cX1_tokenSizeAt 31 = .ok (.bipush 34, 2) := by decide +kernel
theorem dX1_tokenSizeAt_33 : decode cX1_tokenSizeAt 33 = .ok (.if_icmp .eq 10, 3) := by decide +kernel
theorem dX1_tokenSizeAt_36 : decode cX1_tokenSizeAt 36 = .ok (.iload 4, 2) := by decide +kernel
theorem dX1_tokenSizeAt_38 : decode cX1_tokenSizeAt 38 = .ok (.bipush 39, 2) := by decide +kernel
theorem dX1_tokenSizeAt_40 : decode cX1_tokenSizeAt 40 = .ok (.if_icmp .ne 25, 3) := by decide +kernel
theorem dX1_tokenSizeAt_43 : decode cX1_tokenSizeAt 43 = .ok (.aload_n 0, 1) := by decide +kernel
theorem dX1_tokenSizeAt_44 : decode cX1_tokenSizeAt 44 = .ok (.iload_n 1, 1) := by decide +kernel
theorem dX1_tokenSizeAt_45 : decode cX1_tokenSizeAt 45 = .ok (.iconst 1, 1) := by decide +kernel
theorem dX1_tokenSizeAt_46 : decode cX1_tokenSizeAt 46 = .ok (.iadd, 1) := by decide +kernel
theorem dX1_tokenSizeAt_47 : decode cX1_tokenSizeAt 47 = .ok (.iload_n 2, 1) := by decide +kernel
theorem dX1_tokenSizeAt_48 : decode cX1_tokenSizeAt 48 = .ok (.invokevirtual 91, 3) := by decide +kernel
theorem dX1_tokenSizeAt_51 : decode cX1_tokenSizeAt 51 = .ok (.ifCond .le 14, 3) := by decide +kernel
theorem dX1_tokenSizeAt_54 : decode cX1_tokenSizeAt 54 = .ok (.aload_n 0, 1) := by decide +kernel
theorem dX1_tokenSizeAt_55 : decode cX1_tokenSizeAt 55 = .ok (.iload_n 1, 1) := by decide +kernel
theorem dX1_tokenSizeAt_56 : decode cX1_tokenSizeAt 56 = .ok (.iconst 1, 1) := by decide +kernel
theorem dX1_tokenSizeAt_57 : decode cX1_tokenSizeAt 57 = .ok (.iadd, 1) := by decide +kernel
theorem dX1_tokenSizeAt_58 : decode cX1_tokenSizeAt 58 = .ok (.iload_n 2, 1) := by decide +kernel
theorem dX1_tokenSizeAt_59 : decode cX1_tokenSizeAt 59 = .ok (.invokevirtual 91, 3) := by decide +kernel
theorem dX1_tokenSizeAt_62 : decode cX1_tokenSizeAt 62 = .ok (.iload_n 1, 1) := by decide +kernel
theorem dX1_tokenSizeAt_63 : decode cX1_tokenSizeAt 63 = .ok (.isub, 1) := by decide +kernel
theorem dX1_tokenSizeAt_64 : decode cX1_tokenSizeAt 64 = .ok (.ireturn, 1) := by decide +kernel
theorem dX1_tokenSizeAt_65 : decode cX1_tokenSizeAt 65 = .ok (.iload_n 3, 1) := by decide +kernel
theorem dX1_tokenSizeAt_66 : decode cX1_tokenSizeAt 66 = .ok (.bipush 34, 2) := by decide +kernel
theorem dX1_tokenSizeAt_68 : decode cX1_tokenSizeAt 68 = .ok (.if_icmp .eq 9, 3) := by decide +kernel
theorem dX1_tokenSizeAt_71 : decode cX1_tokenSizeAt 71 = .ok (.iload_n 3, 1) := by decide +kernel
theorem dX1_tokenSizeAt_72 : decode cX1_tokenSizeAt 72 = .ok (.bipush 39, 2) := by decide +kernel
theorem dX1_tokenSizeAt_74 : decode cX1_tokenSizeAt 74 = .ok (.if_icmp .ne 21, 3) := by decide +kernel
theorem dX1_tokenSizeAt_77 : decode cX1_tokenSizeAt 77 = .ok (.aload_n 0, 1) := by decide +kernel
theorem dX1_tokenSizeAt_78 : decode cX1_tokenSizeAt 78 = .ok (.iload_n 1, 1) := by decide +kernel
theorem dX1_tokenSizeAt_79 : decode cX1_tokenSizeAt 79 = .ok (.iload_n 2, 1) := by decide +kernel
theorem dX1_tokenSizeAt_80 : decode cX1_tokenSizeAt 80 = .ok (.invokevirtual 91, 3) := by decide +kernel
theorem dX1_tokenSizeAt_83 : decode cX1_tokenSizeAt 83 = .ok (.ifCond .le 12, 3) := by decide +kernel
theorem dX1_tokenSizeAt_86 : decode cX1_tokenSizeAt 86 = .ok (.aload_n 0, 1) := by decide +kernel
theorem dX1_tokenSizeAt_87 : decode cX1_tokenSizeAt 87 = .ok (.iload_n 1, 1) := by decide +kernel
theorem dX1_tokenSizeAt_88 : decode cX1_tokenSizeAt 88 = .ok (.iload_n 2, 1) := by decide +kernel
theorem dX1_tokenSizeAt_89 : decode cX1_tokenSizeAt 89 = .ok (.invokevirtual 91, 3) := by decide +kernel
theorem dX1_tokenSizeAt_92 : decode cX1_tokenSizeAt 92 = .ok (.iload_n 1, 1) := by decide +kernel
theorem dX1_tokenSizeAt_93 : decode cX1_tokenSizeAt 93 = .ok (.isub, 1) := by decide +kernel
theorem dX1_tokenSizeAt_94 : decode cX1_tokenSizeAt 94 = .ok (.ireturn, 1) := by decide +kernel
theorem dX1_tokenSizeAt_95 : decode cX1_tokenSizeAt 95 = .ok (.iload_n 1, 1) := by decide +kernel
theorem dX1_tokenSizeAt_96 : decode cX1_tokenSizeAt 96 = .ok (.iconst 1, 1) := by decide +kernel
theorem dX1_tokenSizeAt_97 : decode cX1_tokenSizeAt 97 = .ok (.iadd, 1) := by decide +kernel
theorem dX1_tokenSizeAt_98 : decode cX1_tokenSizeAt 98 = .ok (.istore 5, 2) := by decide +kernel
theorem dX1_tokenSizeAt_100 : decode cX1_tokenSizeAt 100 = .ok (.iload_n 3, 1) := by decide +kernel
theorem dX1_tokenSizeAt_101 : decode cX1_tokenSizeAt 101 = .ok (.invokestatic 95, 3) := by decide +kernel
theorem dX1_tokenSizeAt_104 : decode cX1_tokenSizeAt 104 = .ok (.ifCond .eq 46, 3) := by decide +kernel
theorem dX1_tokenSizeAt_107 : decode cX1_tokenSizeAt 107 = .ok (.aload_n 0, 1) := by decide +kernel
theorem dX1_tokenSizeAt_108 : decode cX1_tokenSizeAt 108 = .ok (.getfield 14, 3) := by decide +kernel
theorem dX1_tokenSizeAt_111 : decode cX1_tokenSizeAt 111 = .ok (.iload 5, 2) := by decide +kernel
theorem dX1_tokenSizeAt_113 : decode cX1_tokenSizeAt 113 = .ok (.iload_n 2, 1) := by decide +kernel
theorem dX1_tokenSizeAt_114 : decode cX1_tokenSizeAt 114 = .ok (.invokestatic 79, 3) := by decide +kernel
theorem dX1_tokenSizeAt_117 : decode cX1_tokenSizeAt 117 = .ok (.invokestatic 95, 3) := by decide +kernel
theorem dX1_tokenSizeAt_120 : decode cX1_tokenSizeAt 120 = .ok (.ifCond .ne 19, 3) := by decide +kernel
theorem dX1_tokenSizeAt_123 : decode cX1_tokenSizeAt 123 = .ok (.aload_n 0, 1) := by decide +kernel
theorem dX1_tokenSizeAt_124 : decode cX1_tokenSizeAt 124 = .ok (.getfield 14, 3) := by decide +kernel
theorem dX1_tokenSizeAt_127 : decode cX1_tokenSizeAt 127 = .ok (.iload 5, 2) := by decide +kernel
theorem dX1_tokenSizeAt_129 : decode cX1_tokenSizeAt 129 = .ok (.iload_n 2, 1) := by decide +kernel
theorem dX1_tokenSizeAt_130 : decode cX1_tokenSizeAt 130 = .ok (.invokestatic 79, 3) := by decide +kernel
theorem dX1_tokenSizeAt_133 : decode cX1_tokenSizeAt 133 = .ok (.invokestatic 99, 3) := by decide +kernel
theorem dX1_tokenSizeAt_136 : decode cX1_tokenSizeAt 136 = .ok (.ifCond .eq 9, 3) := by decide +kernel
theorem dX1_tokenSizeAt_139 : decode cX1_tokenSizeAt 139 = .ok (.iinc 5 1, 3) := by decide +kernel
theorem dX1_tokenSizeAt_142 : decode cX1_tokenSizeAt 142 = .ok (.goto (-35), 3) := by decide +kernel
theorem dX1_tokenSizeAt_145 : decode cX1_tokenSizeAt 145 = .ok (.iload 5, 2) := by decide +kernel
theorem dX1_tokenSizeAt_147 : decode cX1_tokenSizeAt 147 = .ok (.iload_n 1, 1) := by decide +kernel
theorem dX1_tokenSizeAt_148 : decode cX1_tokenSizeAt 148 = .ok (.isub, 1) := by decide +kernel
theorem dX1_tokenSizeAt_149 : decode cX1_tokenSizeAt 149 = .ok (.ireturn, 1) := by decide +kernel
theorem dX1_tokenSizeAt_150 : decode cX1_tokenSizeAt 150 = .ok (.iload_n 3, 1) := by decide +kernel
theorem dX1_tokenSizeAt_151 : decode cX1_tokenSizeAt 151 = .ok (.invokestatic 99, 3) := by decide +kernel
theorem dX1_tokenSizeAt_154 : decode cX1_tokenSizeAt 154 = .ok (.ifCond .ne 17, 3) := by decide +kernel
theorem dX1_tokenSizeAt_157 : decode cX1_tokenSizeAt 157 = .ok (.iload_n 3, 1) := by decide +kernel
theorem dX1_tokenSizeAt_158 : decode cX1_tokenSizeAt 158 = .ok (.bipush 46, 2) := by decide +kernel
theorem dX1_tokenSizeAt_160 : decode cX1_tokenSizeAt 160 = .ok (.if_icmp .ne 131, 3) := by decide +kernel
theorem dX1_tokenSizeAt_163 : decode cX1_tokenSizeAt 163 = .ok (.iload 4, 2) := by decide +kernel
theorem dX1_tokenSizeAt_165 : decode cX1_tokenSizeAt 165 = .ok (.invokestatic 99, 3) := by decide +kernel
theorem dX1_tokenSizeAt_168 : decode cX1_tokenSizeAt 168 = .ok (.ifCond .eq 123, 3) := by decide +kernel
theorem dX1_tokenSizeAt_171 : decode cX1_tokenSizeAt 171 = .ok (.iconst 1, 1) := by decide +kernel
theorem dX1_tokenSizeAt_172 : decode cX1_tokenSizeAt 172 = .ok (.istore 6, 2) := by decide +kernel
theorem dX1_tokenSizeAt_174 : decode cX1_tokenSizeAt 174 = .ok (.iload 6, 2) := by decide +kernel
theorem dX1_tokenSizeAt_176 : decode cX1_tokenSizeAt 176 = .ok (.ifCond .eq 110, 3) := by decide +kernel
theorem dX1_tokenSizeAt_179 : decode cX1_tokenSizeAt 179 = .ok (.aload_n 0, 1) := by decide +kernel
theorem dX1_tokenSizeAt_180 : decode cX1_tokenSizeAt 180 = .ok (.getfield 14, 3) := by decide +kernel
theorem dX1_tokenSizeAt_183 : decode cX1_tokenSizeAt 183 = .ok (.iload 5, 2) := by decide +kernel
theorem dX1_tokenSizeAt_185 : decode cX1_tokenSizeAt 185 = .ok (.iload_n 2, 1) := by decide +kernel
theorem dX1_tokenSizeAt_186 : decode cX1_tokenSizeAt 186 = .ok (.invokestatic 79, 3) := by decide +kernel
theorem dX1_tokenSizeAt_189 : decode cX1_tokenSizeAt 189 = .ok (.istore 7, 2) := by decide +kernel
theorem dX1_tokenSizeAt_191 : decode cX1_tokenSizeAt 191 = .ok (.iload 7, 2) := by decide +kernel
theorem dX1_tokenSizeAt_193 : decode cX1_tokenSizeAt 193 = .ok (.bipush 43, 2) := by decide +kernel
theorem dX1_tokenSizeAt_195 : decode cX1_tokenSizeAt 195 = .ok (.if_icmp .eq 10, 3) := by decide +kernel
theorem dX1_tokenSizeAt_198 : decode cX1_tokenSizeAt 198 = .ok (.iload 7, 2) := by decide +kernel
theorem dX1_tokenSizeAt_200 : decode cX1_tokenSizeAt 200 = .ok (.bipush 45, 2) := by decide +kernel
theorem dX1_tokenSizeAt_202 : decode cX1_tokenSizeAt 202 = .ok (.if_icmp .ne 27, 3) := by decide +kernel
theorem dX1_tokenSizeAt_205 : decode cX1_tokenSizeAt 205 = .ok (.aload_n 0, 1) := by decide +kernel
theorem dX1_tokenSizeAt_206 : decode cX1_tokenSizeAt 206 = .ok (.getfield 14, 3) := by decide +kernel
theorem dX1_tokenSizeAt_209 : decode cX1_tokenSizeAt 209 = .ok (.iload 5, 2) := by decide +kernel
theorem dX1_tokenSizeAt_211 : decode cX1_tokenSizeAt 211 = .ok (.iconst 1, 1) := by decide +kernel
theorem dX1_tokenSizeAt_212 : decode cX1_tokenSizeAt 212 = .ok (.isub, 1) := by decide +kernel
theorem dX1_tokenSizeAt_213 : decode cX1_tokenSizeAt 213 = .ok (.iload_n 2, 1) := by decide +kernel
theorem dX1_tokenSizeAt_214 : decode cX1_tokenSizeAt 214 = .ok (.invokestatic 79, 3) := by decide +kernel
theorem dX1_tokenSizeAt_217 : decode cX1_tokenSizeAt 217 = .ok (.ldc 102, 2) := by decide +kernel
theorem dX1_tokenSizeAt_219 : decode cX1_tokenSizeAt 219 = .ok (.invokestatic 85, 3) := by decide +kernel
theorem dX1_tokenSizeAt_222 : decode cX1_tokenSizeAt 222 = .ok (.ifCond .eq 7, 3) := by decide +kernel
theorem dX1_tokenSizeAt_225 : decode cX1_tokenSizeAt 225 = .ok (.iconst 1, 1) := by decide +kernel
theorem dX1_tokenSizeAt_226 : decode cX1_tokenSizeAt 226 = .ok (.goto 4, 3) := by decide +kernel
theorem dX1_tokenSizeAt_229 : decode cX1_tokenSizeAt 229 = .ok (.iconst 0, 1) := by decide +kernel
theorem dX1_tokenSizeAt_230 : decode cX1_tokenSizeAt 230 = .ok (.istore 8, 2) := by decide +kernel
theorem dX1_tokenSizeAt_232 : decode cX1_tokenSizeAt 232 = .ok (.iload 7, 2) := by decide +kernel
theorem dX1_tokenSizeAt_234 : decode cX1_tokenSizeAt 234 = .ok (.invokestatic 99, 3) := by decide +kernel
theorem dX1_tokenSizeAt_237 : decode cX1_tokenSizeAt 237 = .ok (.ifCond .ne 23, 3) := by decide +kernel
theorem dX1_tokenSizeAt_240 : decode cX1_tokenSizeAt 240 = .ok (.iload 7, 2) := by decide +kernel
theorem dX1_tokenSizeAt_242 : decode cX1_tokenSizeAt 242 = .ok (.invokestatic 95, 3) := by decide +kernel
theorem dX1_tokenSizeAt_245 : decode cX1_tokenSizeAt 245 = .ok (.ifCond .ne 15, 3) := by decide +kernel
theorem dX1_tokenSizeAt_248 : decode cX1_tokenSizeAt 248 = .ok (.iload 7, 2) := by decide +kernel
theorem dX1_tokenSizeAt_250 : decode cX1_tokenSizeAt 250 = .ok (.bipush 46, 2) := by decide +kernel
theorem dX1_tokenSizeAt_252 : decode cX1_tokenSizeAt 252 = .ok (.if_icmp .eq 8, 3) := by decide +kernel
theorem dX1_tokenSizeAt_255 : decode cX1_tokenSizeAt 255 = .ok (.iload 8, 2) := by decide +kernel
theorem dX1_tokenSizeAt_257 : decode cX1_tokenSizeAt 257 = .ok (.ifCond .eq 7, 3) := by decide +kernel
theorem dX1_tokenSizeAt_260 : decode cX1_tokenSizeAt 260 = .ok (.iconst 1, 1) := by decide +kernel
theorem dX1_tokenSizeAt_261 : decode cX1_tokenSizeAt 261 = .ok (.goto 4, 3) := by decide +kernel
theorem dX1_tokenSizeAt_264 : decode cX1_tokenSizeAt 264 = .ok (.iconst 0, 1) := by decide +kernel
theorem dX1_tokenSizeAt_265 : decode cX1_tokenSizeAt 265 = .ok (.istore 6, 2) := by decide +kernel
theorem dX1_tokenSizeAt_267 : decode cX1_tokenSizeAt 267 = .ok (.iload 6, 2) := by decide +kernel
theorem dX1_tokenSizeAt_269 : decode cX1_tokenSizeAt 269 = .ok (.ifCond .eq 10, 3) := by decide +kernel
theorem dX1_tokenSizeAt_272 : decode cX1_tokenSizeAt 272 = .ok (.iload 5, 2) := by decide +kernel
theorem dX1_tokenSizeAt_274 : decode cX1_tokenSizeAt 274 = .ok (.iconst 1, 1) := by decide +kernel
theorem dX1_tokenSizeAt_275 : decode cX1_tokenSizeAt 275 = .ok (.iadd, 1) := by decide +kernel
theorem dX1_tokenSizeAt_276 : decode cX1_tokenSizeAt 276 = .ok (.goto 5, 3) := by decide +kernel
theorem dX1_tokenSizeAt_279 : decode cX1_tokenSizeAt 279 = .ok (.iload 5, 2) := by decide +kernel
theorem dX1_tokenSizeAt_281 : decode cX1_tokenSizeAt 281 = .ok (.istore 5, 2) := by decide +kernel
theorem dX1_tokenSizeAt_283 : decode cX1_tokenSizeAt 283 = .ok (.goto (-109), 3) := by decide +kernel
theorem dX1_tokenSizeAt_286 : decode cX1_tokenSizeAt 286 = .ok (.iload 5, 2) := by decide +kernel
theorem dX1_tokenSizeAt_288 : decode cX1_tokenSizeAt 288 = .ok (.iload_n 1, 1) := by decide +kernel
theorem dX1_tokenSizeAt_289 : decode cX1_tokenSizeAt 289 = .ok (.isub, 1) := by decide +kernel
theorem dX1_tokenSizeAt_290 : decode cX1_tokenSizeAt 290 = .ok (.ireturn, 1) := by decide +kernel
theorem dX1_tokenSizeAt_291 : decode cX1_tokenSizeAt 291 = .ok (.aload_n 0, 1) := by decide +kernel
theorem dX1_tokenSizeAt_292 : decode cX1_tokenSizeAt 292 = .ok (.iload_n 1, 1) := by decide +kernel
theorem dX1_tokenSizeAt_293 : decode cX1_tokenSizeAt 293 = .ok (.iload_n 2, 1) := by decide +kernel
theorem dX1_tokenSizeAt_294 : decode cX1_tokenSizeAt 294 = .ok (.invokevirtual 104, 3) := by decide +kernel
theorem dX1_tokenSizeAt_297 : decode cX1_tokenSizeAt 297 = .ok (.ireturn, 1) := by decide +kernel
theorem dX1_layDown_0 : decode cX1_layDown 0 = .ok (.aload_n 0, 1) := by decide +kernel
theorem dX1_layDown_1 : decode cX1_layDown 1 = .ok (.iconst 0, 1) := by decide +kernel
theorem dX1_layDown_2 : decode cX1_layDown 2 = .ok (.putfield 107, 3) := by decide +kernel
theorem dX1_layDown_5 : decode cX1_layDown 5 = .ok (.aload_n 0, 1) := by decide +kernel
theorem dX1_layDown_6 : decode cX1_layDown 6 = .ok (.getfield 50, 3) := by decide +kernel
theorem dX1_layDown_9 : decode cX1_layDown 9 = .ok (.istore_n 1, 1) := by decide +kernel
theorem dX1_layDown_10 : decode cX1_layDown 10 = .ok (.aload_n 0, 1) := by decide +kernel
theorem dX1_layDown_11 : decode cX1_layDown 11 = .ok (.getfield 47, 3) := by decide +kernel
theorem dX1_layDown_14 : decode cX1_layDown 14 = .ok (.istore_n 2, 1) := by decide +kernel
theorem dX1_layDown_15 : decode cX1_layDown 15 = .ok (.iload_n 2, 1) := by decide +kernel
theorem dX1_layDown_16 : decode cX1_layDown 16 = .ok (.aload_n 0, 1) := by decide +kernel
theorem dX1_layDown_17 : decode cX1_layDown 17 = .ok (.getfield 43, 3) := by decide +kernel
theorem dX1_layDown_20 : decode cX1_layDown 20 = .ok (.if_icmp .ge 117, 3) := by decide +kernel
theorem dX1_layDown_23 : decode cX1_layDown 23 = .ok (.aload_n 0, 1) := by decide +kernel
theorem dX1_layDown_24 : decode cX1_layDown 24 = .ok (.getfield 10, 3) := by decide +kernel
theorem dX1_layDown_27 : decode cX1_layDown 27 = .ok (.iload_n 2, 1) := by decide +kernel
theorem dX1_layDown_28 : decode cX1_layDown 28 = .ok (.baload, 1) := by decide +kernel
theorem dX1_layDown_29 : decode cX1_layDown 29 = .ok (.bipush 92, 2) := by decide +kernel
theorem dX1_layDown_31 : decode cX1_layDown 31 = .ok (.if_icmp .ne 36, 3) := by decide +kernel
theorem dX1_layDown_34 : decode cX1_layDown 34 = .ok (.iload_n 2, 1) := by decide +kernel
theorem dX1_layDown_35 : decode cX1_layDown 35 = .ok (.iconst 1, 1) := by decide +kernel
theorem dX1_layDown_36 : decode cX1_layDown 36 = .ok (.iadd, 1) := by decide +kernel
theorem dX1_layDown_37 : decode cX1_layDown 37 = .ok (.aload_n 0, 1) := by decide +kernel
theorem dX1_layDown_38 : decode cX1_layDown 38 = .ok (.getfield 43, 3) := by decide +kernel
theorem dX1_layDown_41 : decode cX1_layDown 41 = .ok (.if_icmp .ge 26, 3) := by decide +kernel
theorem dX1_layDown_44 : decode cX1_layDown 44 = .ok (.aload_n 0, 1) := by decide +kernel
theorem dX1_layDown_45 : decode cX1_layDown 45 = .ok (.getfield 10, 3) := by decide +kernel
theorem dX1_layDown_48 : decode cX1_layDown 48 = .ok (.iload_n 2, 1) := by decide +kernel
theorem dX1_layDown_49 : decode cX1_layDown 49 = .ok (.iconst 1, 1) := by decide +kernel
theorem dX1_layDown_50 : decode cX1_layDown 50 = .ok (.iadd, 1) := by decide +kernel
theorem dX1_layDown_51 : decode cX1_layDown 51 = .ok (.baload, 1) := by decide +kernel
theorem dX1_layDown_52 : decode cX1_layDown 52 = .ok (.bipush 10, 2) := by decide +kernel
theorem dX1_layDown_54 : decode cX1_layDown 54 = .ok (.if_icmp .ne 13, 3) := by decide +kernel
theorem dX1_layDown_57 : decode cX1_layDown 57 = .ok (.iinc 1 1, 3) := by decide +kernel
theorem dX1_layDown_60 : decode cX1_layDown 60 = .ok (.iload_n 2, 1) := by decide +kernel
theorem dX1_layDown_61 : decode cX1_layDown 61 = .ok (.iconst 2, 1) := by decide +kernel
theorem dX1_layDown_62 : decode cX1_layDown 62 = .ok (.iadd, 1) := by decide +kernel
theorem dX1_layDown_63 : decode cX1_layDown 63 = .ok (.istore_n 2, 1) := by decide +kernel
theorem dX1_layDown_64 : decode cX1_layDown 64 = .ok (.goto (-49), 3) := by decide +kernel
theorem dX1_layDown_67 : decode cX1_layDown 67 = .ok (.aload_n 0, 1) := by decide +kernel
theorem dX1_layDown_68 : decode cX1_layDown 68 = .ok (.getfield 14, 3) := by decide +kernel
theorem dX1_layDown_71 : decode cX1_layDown 71 = .ok (.aload_n 0, 1) := by decide +kernel
theorem dX1_layDown_72 : decode cX1_layDown 72 = .ok (.getfield 107, 3) := by decide +kernel
theorem dX1_layDown_75 : decode cX1_layDown 75 = .ok (.aload_n 0, 1) := by decide +kernel
theorem dX1_layDown_76 : decode cX1_layDown 76 = .ok (.getfield 10, 3) := by decide +kernel
theorem dX1_layDown_79 : decode cX1_layDown 79 = .ok (.iload_n 2, 1) := by decide +kernel
theorem dX1_layDown_80 : decode cX1_layDown 80 = .ok (.baload, 1) := by decide +kernel
theorem dX1_layDown_81 : decode cX1_layDown 81 = .ok (.bastore, 1) := by decide +kernel
theorem dX1_layDown_82 : decode cX1_layDown 82 = .ok (.aload_n 0, 1) := by decide +kernel
theorem dX1_layDown_83 : decode cX1_layDown 83 = .ok (.getfield 17, 3) := by decide +kernel
theorem dX1_layDown_86 : decode cX1_layDown 86 = .ok (.aload_n 0, 1) := by decide +kernel
theorem dX1_layDown_87 : decode cX1_layDown 87 = .ok (.getfield 107, 3) := by decide +kernel
theorem dX1_layDown_90 : decode cX1_layDown 90 = .ok (.iload_n 2, 1) := by decide +kernel
theorem dX1_layDown_91 : decode cX1_layDown 91 = .ok (.iastore, 1) := by decide +kernel
theorem dX1_layDown_92 : decode cX1_layDown 92 = .ok (.aload_n 0, 1) := by decide +kernel
theorem dX1_layDown_93 : decode cX1_layDown 93 = .ok (.getfield 21, 3) := by decide +kernel
theorem dX1_layDown_96 : decode cX1_layDown 96 = .ok (.aload_n 0, 1) := by decide +kernel
theorem dX1_layDown_97 : decode cX1_layDown 97 = .ok (.getfield 107, 3) := by decide +kernel
theorem dX1_layDown_100 : decode cX1_layDown 100 = .ok (.iload_n 1, 1) := by decide +kernel
theorem dX1_layDown_101 : decode cX1_layDown 101 = .ok (.iastore, 1) := by decide +kernel
theorem dX1_layDown_102 : decode cX1_layDown 102 = .ok (.aload_n 0, 1) := by decide +kernel
theorem dX1_layDown_103 : decode cX1_layDown 103 = .ok (.dup, 1) := by decide +kernel
theorem dX1_layDown_104 : decode cX1_layDown 104 = .ok (.getfield 107, 3) := by decide +kernel
theorem dX1_layDown_107 : decode cX1_layDown 107 = .ok (.iconst 1, 1) := by decide +kernel
theorem dX1_layDown_108 : decode cX1_layDown 108 = .ok (.iadd, 1) := by decide +kernel
theorem dX1_layDown_109 : decode cX1_layDown 109 = .ok (.putfield 107, 3) := by decide +kernel
theorem dX1_layDown_112 : decode cX1_layDown 112 = .ok (.aload_n 0, 1) := by decide +kernel
theorem dX1_layDown_113 : decode cX1_layDown 113 = .ok (.getfield 10, 3) := by decide +kernel
theorem dX1_layDown_116 : decode cX1_layDown 116 = .ok (.iload_n 2, 1) := by decide +kernel
theorem dX1_layDown_117 : decode cX1_layDown 117 = .ok (.baload, 1) := by decide +kernel
theorem dX1_layDown_118 : decode cX1_layDown 118 = .ok (.bipush 10, 2) := by decide +kernel
theorem dX1_layDown_120 : decode cX1_layDown 120 = .ok (.if_icmp .ne 9, 3) := by decide +kernel
theorem dX1_layDown_123 : decode cX1_layDown 123 = .ok (.iload_n 1, 1) := by decide +kernel
theorem dX1_layDown_124 : decode cX1_layDown 124 = .ok (.iconst 1, 1) := by decide +kernel
theorem dX1_layDown_125 : decode cX1_layDown 125 = .ok (.iadd, 1) := by decide +kernel
theorem dX1_layDown_126 : decode cX1_layDown 126 = .ok (.goto 4, 3) := by decide +kernel
theorem dX1_layDown_129 : decode cX1_layDown 129 = .ok (.iload_n 1, 1) := by decide +kernel
theorem dX1_layDown_130 : decode cX1_layDown 130 = .ok (.istore_n 1, 1) := by decide +kernel
theorem dX1_layDown_131 : decode cX1_layDown 131 = .ok (.iinc 2 1, 3) := by decide +kernel
theorem dX1_layDown_134 : decode cX1_layDown 134 = .ok (.goto (-119), 3) := by decide +kernel
theorem dX1_layDown_137 : decode cX1_layDown 137 = .ok (.aload_n 0, 1) := by decide +kernel
theorem dX1_layDown_138 : decode cX1_layDown 138 = .ok (.iload_n 1, 1) := by decide +kernel
theorem dX1_layDown_139 : decode cX1_layDown 139 = .ok (.putfield 110, 3) := by decide +kernel
theorem dX1_layDown_142 : decode cX1_layDown 142 = .ok (.return_, 1) := by decide +kernel
theorem dX1_stop_0 : decode cX1_stop 0 = .ok (.aload_n 0, 1) := by decide +kernel
theorem dX1_stop_1 : decode cX1_stop 1 = .ok (.iconst 1, 1) := by decide +kernel
theorem dX1_stop_2 : decode cX1_stop 2 = .ok (.putfield 53, 3) := by decide +kernel
theorem dX1_stop_5 : decode cX1_stop 5 = .ok (.aload_n 0, 1) := by decide +kernel
theorem dX1_stop_6 : decode cX1_stop 6 = .ok (.iload_n 2, 1) := by decide +kernel
theorem dX1_stop_7 : decode cX1_stop 7 = .ok (.putfield 57, 3) := by decide +kernel
theorem dX1_stop_10 : decode cX1_stop 10 = .ok (.aload_n 0, 1) := by decide +kernel
theorem dX1_stop_11 : decode cX1_stop 11 = .ok (.iconst 0, 1) := by decide +kernel
theorem dX1_stop_12 : decode cX1_stop 12 = .ok (.putfield 66, 3) := by decide +kernel
theorem dX1_stop_15 : decode cX1_stop 15 = .ok (.bipush (-10), 2) := by decide +kernel
theorem dX1_stop_17 : decode cX1_stop 17 = .ok (.iload_n 1, 1) := by decide +kernel
theorem dX1_stop_18 : decode cX1_stop 18 = .ok (.isub, 1) := by decide +kernel
theorem dX1_stop_19 : decode cX1_stop 19 = .ok (.ireturn, 1) := by decide +kernel
theorem dX1_commentEnd_0 : decode cX1_commentEnd 0 = .ok (.iload_n 1, 1) := by decide +kernel
theorem dX1_commentEnd_1 : decode cX1_commentEnd 1 = .ok (.iconst 2, 1) := by decide +kernel
theorem dX1_commentEnd_2 : decode cX1_commentEnd 2 = .ok (.iadd, 1) := by decide +kernel
theorem dX1_commentEnd_3 : decode cX1_commentEnd 3 = .ok (.istore_n 2, 1) := by decide +kernel
theorem dX1_commentEnd_4 : decode cX1_commentEnd 4 = .ok (.iload_n 2, 1) := by decide +kernel
theorem dX1_commentEnd_5 : decode cX1_commentEnd 5 = .ok (.iconst 1, 1) := by decide +kernel
theorem dX1_commentEnd_6 : decode cX1_commentEnd 6 = .ok (.iadd, 1) := by decide +kernel
theorem dX1_commentEnd_7 : decode cX1_commentEnd 7 = .ok (.aload_n 0, 1) := by decide +kernel
theorem dX1_commentEnd_8 : decode cX1_commentEnd 8 = .ok (.getfield 107, 3) := by decide +kernel
theorem dX1_commentEnd_11 : decode cX1_commentEnd 11 = .ok (.if_icmp .ge 33, 3) := by decide +kernel
theorem dX1_commentEnd_14 : decode cX1_commentEnd 14 = .ok (.aload_n 0, 1) := by decide +kernel
theorem dX1_commentEnd_15 : decode cX1_commentEnd 15 = .ok (.getfield 14, 3) := by decide +kernel
theorem dX1_commentEnd_18 : decode cX1_commentEnd 18 = .ok (.iload_n 2, 1) := by decide +kernel
theorem dX1_commentEnd_19 : decode cX1_commentEnd 19 = .ok (.baload, 1) := by decide +kernel
theorem dX1_commentEnd_20 : decode cX1_commentEnd 20 = .ok (.bipush 42, 2) := by decide +kernel
theorem dX1_commentEnd_22 : decode cX1_commentEnd 22 = .ok (.if_icmp .ne 16, 3) := by decide +kernel
theorem dX1_commentEnd_25 : decode cX1_commentEnd 25 = .ok (.aload_n 0, 1) := by decide +kernel
theorem dX1_commentEnd_26 : decode cX1_commentEnd 26 = .ok (.getfield 14, 3) := by decide +kernel
theorem dX1_commentEnd_29 : decode cX1_commentEnd 29 = .ok (.iload_n 2, 1) := by decide +kernel
theorem dX1_commentEnd_30 : decode cX1_commentEnd 30 = .ok (.iconst 1, 1) := by decide +kernel
theorem dX1_commentEnd_31 : decode cX1_commentEnd 31 = .ok (.iadd, 1) := by decide +kernel
theorem dX1_commentEnd_32 : decode cX1_commentEnd 32 = .ok (.baload, 1) := by decide +kernel
theorem dX1_commentEnd_33 : decode cX1_commentEnd 33 = .ok (.bipush 47, 2) := by decide +kernel
theorem dX1_commentEnd_35 : decode cX1_commentEnd 35 = .ok (.if_icmp .eq 9, 3) := by decide +kernel
theorem dX1_commentEnd_38 : decode cX1_commentEnd 38 = .ok (.iinc 2 1, 3) := by decide +kernel
theorem dX1_commentEnd_41 : decode cX1_commentEnd 41 = .ok (.goto (-37), 3) := by decide +kernel
theorem dX1_commentEnd_44 : decode cX1_commentEnd 44 = .ok (.iload_n 2, 1) := by decide +kernel
theorem dX1_commentEnd_45 : decode cX1_commentEnd 45 = .ok (.iconst 1, 1) := by decide +kernel
theorem dX1_commentEnd_46 : decode cX1_commentEnd 46 = .ok (.iadd, 1) := by decide +kernel
theorem dX1_commentEnd_47 : decode cX1_commentEnd 47 = .ok (.aload_n 0, 1) := by decide +kernel
theorem dX1_commentEnd_48 : decode cX1_commentEnd 48 = .ok (.getfield 107, 3) := by decide +kernel
theorem dX1_commentEnd_51 : decode cX1_commentEnd 51 = .ok (.if_icmp .ge 9, 3) := by decide +kernel
theorem dX1_commentEnd_54 : decode cX1_commentEnd 54 = .ok (.iload_n 2, 1) := by decide +kernel
theorem dX1_commentEnd_55 : decode cX1_commentEnd 55 = .ok (.iconst 2, 1) := by decide +kernel
theorem dX1_commentEnd_56 : decode cX1_commentEnd 56 = .ok (.iadd, 1) := by decide +kernel
theorem dX1_commentEnd_57 : decode cX1_commentEnd 57 = .ok (.goto 4, 3) := by decide +kernel
theorem dX1_commentEnd_60 : decode cX1_commentEnd 60 = .ok (.iconst (-1), 1) := by decide +kernel
theorem dX1_commentEnd_61 : decode cX1_commentEnd 61 = .ok (.ireturn, 1) := by decide +kernel
theorem dX1_keep_0 : decode cX1_keep 0 = .ok (.aload_n 0, 1) := by decide +kernel
theorem dX1_keep_1 : decode cX1_keep 1 = .ok (.getfield 24, 3) := by decide +kernel
theorem dX1_keep_4 : decode cX1_keep 4 = .ok (.aload_n 0, 1) := by decide +kernel
theorem dX1_keep_5 : decode cX1_keep 5 = .ok (.getfield 66, 3) := by decide +kernel
theorem dX1_keep_8 : decode cX1_keep 8 = .ok (.aload_n 0, 1) := by decide +kernel
theorem dX1_keep_9 : decode cX1_keep 9 = .ok (.getfield 113, 3) := by decide +kernel
theorem dX1_keep_12 : decode cX1_keep 12 = .ok (.iastore, 1) := by decide +kernel
theorem dX1_keep_13 : decode cX1_keep 13 = .ok (.aload_n 0, 1) := by decide +kernel
theorem dX1_keep_14 : decode cX1_keep 14 = .ok (.getfield 27, 3) := by decide +kernel
theorem dX1_keep_17 : decode cX1_keep 17 = .ok (.aload_n 0, 1) := by decide +kernel
theorem dX1_keep_18 : decode cX1_keep 18 = .ok (.getfield 66, 3) := by decide +kernel
theorem dX1_keep_21 : decode cX1_keep 21 = .ok (.iload_n 2, 1) := by decide +kernel
theorem dX1_keep_22 : decode cX1_keep 22 = .ok (.iastore, 1) := by decide +kernel
theorem dX1_keep_23 : decode cX1_keep 23 = .ok (.aload_n 0, 1) := by decide +kernel
theorem dX1_keep_24 : decode cX1_keep 24 = .ok (.getfield 30, 3) := by decide +kernel
theorem dX1_keep_27 : decode cX1_keep 27 = .ok (.aload_n 0, 1) := by decide +kernel
theorem dX1_keep_28 : decode cX1_keep 28 = .ok (.getfield 66, 3) := by decide +kernel
theorem dX1_keep_31 : decode cX1_keep 31 = .ok (.aload_n 0, 1) := by decide +kernel
theorem dX1_keep_32 : decode cX1_keep 32 = .ok (.getfield 21, 3) := by decide +kernel
theorem dX1_keep_35 : decode cX1_keep 35 = .ok (.iload_n 1, 1) := by decide +kernel
theorem dX1_keep_36 : decode cX1_keep 36 = .ok (.iaload, 1) := by decide +kernel
theorem dX1_keep_37 : decode cX1_keep 37 = .ok (.iastore, 1) := by decide +kernel
theorem dX1_keep_38 : decode cX1_keep 38 = .ok (.aload_n 0, 1) := by decide +kernel
theorem dX1_keep_39 : decode cX1_keep 39 = .ok (.getfield 33, 3) := by decide +kernel
theorem dX1_keep_42 : decode cX1_keep 42 = .ok (.aload_n 0, 1) := by decide +kernel
theorem dX1_keep_43 : decode cX1_keep 43 = .ok (.getfield 66, 3) := by decide +kernel
theorem dX1_keep_46 : decode cX1_keep 46 = .ok (.iload_n 3, 1) := by decide +kernel
theorem dX1_keep_47 : decode cX1_keep 47 = .ok (.bastore, 1) := by decide +kernel
theorem dX1_keep_48 : decode cX1_keep 48 = .ok (.iconst 0, 1) := by decide +kernel
theorem dX1_keep_49 : decode cX1_keep 49 = .ok (.istore 4, 2) := by decide +kernel
theorem dX1_keep_51 : decode cX1_keep 51 = .ok (.iload 4, 2) := by decide +kernel
theorem dX1_keep_53 : decode cX1_keep 53 = .ok (.iload_n 2, 1) := by decide +kernel
theorem dX1_keep_54 : decode cX1_keep 54 = .ok (.if_icmp .ge 37, 3) := by decide +kernel
theorem dX1_keep_57 : decode cX1_keep 57 = .ok (.aload_n 0, 1) := by decide +kernel
theorem dX1_keep_58 : decode cX1_keep 58 = .ok (.getfield 37, 3) := by decide +kernel
theorem dX1_keep_61 : decode cX1_keep 61 = .ok (.aload_n 0, 1) := by decide +kernel
theorem dX1_keep_62 : decode cX1_keep 62 = .ok (.getfield 113, 3) := by decide +kernel
theorem dX1_keep_65 : decode cX1_keep 65 = .ok (.aload_n 0, 1) := by decide +kernel
theorem dX1_keep_66 : decode cX1_keep 66 = .ok (.getfield 14, 3) := by decide +kernel
theorem dX1_keep_69 : decode cX1_keep 69 = .ok (.iload_n 1, 1) := by decide +kernel
theorem dX1_keep_70 : decode cX1_keep 70 = .ok (.iload 4, 2) := by decide +kernel
theorem dX1_keep_72 : decode cX1_keep 72 = .ok (.iadd, 1) := by decide +kernel
theorem dX1_keep_73 : decode cX1_keep 73 = .ok (.baload, 1) := by decide +kernel
theorem dX1_keep_74 : decode cX1_keep 74 = .ok (.bastore, 1) := by decide +kernel
theorem dX1_keep_75 : decode cX1_keep 75 = .ok (.aload_n 0, 1) := by decide +kernel
theorem dX1_keep_76 : decode cX1_keep 76 = .ok (.dup, 1) := by decide +kernel
theorem dX1_keep_77 : decode cX1_keep 77 = .ok (.getfield 113, 3) := by decide +kernel
theorem dX1_keep_80 : decode cX1_keep 80 = .ok (.iconst 1, 1) := by decide +kernel
theorem dX1_keep_81 : decode cX1_keep 81 = .ok (.iadd, 1) := by decide +kernel
theorem dX1_keep_82 : decode cX1_keep 82 = .ok (.putfield 113, 3) := by decide +kernel
theorem dX1_keep_85 : decode cX1_keep 85 = .ok (.iinc 4 1, 3) := by decide +kernel
theorem dX1_keep_88 : decode cX1_keep 88 = .ok (.goto (-37), 3) := by decide +kernel
theorem dX1_keep_91 : decode cX1_keep 91 = .ok (.aload_n 0, 1) := by decide +kernel
theorem dX1_keep_92 : decode cX1_keep 92 = .ok (.dup, 1) := by decide +kernel
theorem dX1_keep_93 : decode cX1_keep 93 = .ok (.getfield 66, 3) := by decide +kernel
theorem dX1_keep_96 : decode cX1_keep 96 = .ok (.iconst 1, 1) := by decide +kernel
theorem dX1_keep_97 : decode cX1_keep 97 = .ok (.iadd, 1) := by decide +kernel
theorem dX1_keep_98 : decode cX1_keep 98 = .ok (.putfield 66, 3) := by decide +kernel
theorem dX1_keep_101 : decode cX1_keep 101 = .ok (.return_, 1) := by decide +kernel
theorem dX1_next_0 : decode cX1_next 0 = .ok (.aload_n 0, 1) := by decide +kernel
theorem dX1_next_1 : decode cX1_next 1 = .ok (.iconst 0, 1) := by decide +kernel
theorem dX1_next_2 : decode cX1_next 2 = .ok (.putfield 66, 3) := by decide +kernel
theorem dX1_next_5 : decode cX1_next 5 = .ok (.aload_n 0, 1) := by decide +kernel
theorem dX1_next_6 : decode cX1_next 6 = .ok (.iconst 0, 1) := by decide +kernel
theorem dX1_next_7 : decode cX1_next 7 = .ok (.putfield 113, 3) := by decide +kernel
theorem dX1_next_10 : decode cX1_next 10 = .ok (.aload_n 0, 1) := by decide +kernel
theorem dX1_next_11 : decode cX1_next 11 = .ok (.getfield 53, 3) := by decide +kernel
theorem dX1_next_14 : decode cX1_next 14 = .ok (.ifCond .eq 6, 3) := by decide +kernel
theorem dX1_next_17 : decode cX1_next 17 = .ok (.bipush (-2), 2) := by decide +kernel
theorem dX1_next_19 : decode cX1_next 19 = .ok (.ireturn, 1) := by decide +kernel
theorem dX1_next_20 : decode cX1_next 20 = .ok (.aload_n 0, 1) := by decide +kernel
theorem dX1_next_21 : decode cX1_next 21 = .ok (.invokevirtual 116, 3) := by decide +kernel
theorem dX1_next_24 : decode cX1_next 24 = .ok (.aload_n 0, 1) := by decide +kernel
theorem dX1_next_25 : decode cX1_next 25 = .ok (.getfield 107, 3) := by decide +kernel
theorem dX1_next_28 : decode cX1_next 28 = .ok (.ifCond .ne 22, 3) := by decide +kernel
theorem dX1_next_31 : decode cX1_next 31 = .ok (.aload_n 0, 1) := by decide +kernel
theorem dX1_next_32 : decode cX1_next 32 = .ok (.aload_n 0, 1) := by decide +kernel
theorem dX1_next_33 : decode cX1_next 33 = .ok (.getfield 43, 3) := by decide +kernel
theorem dX1_next_36 : decode cX1_next 36 = .ok (.putfield 47, 3) := by decide +kernel
theorem dX1_next_39 : decode cX1_next 39 = .ok (.aload_n 0, 1) := by decide +kernel
theorem dX1_next_40 : decode cX1_next 40 = .ok (.aload_n 0, 1) := by decide +kernel
theorem dX1_next_41 : decode cX1_next 41 = .ok (.getfield 110, 3) := by decide +kernel
theorem dX1_next_44 : decode cX1_next 44 = .ok (.putfield 50, 3) := by decide +kernel
theorem dX1_next_47 : decode cX1_next 47 = .ok (.bipush (-2), 2) := by decide +kernel
theorem dX1_next_49 : decode cX1_next 49 = .ok (.ireturn, 1) := by decide +kernel
theorem dX1_next_50 : decode cX1_next 50 = .ok (.iconst 0, 1) := by decide +kernel
theorem dX1_next_51 : decode cX1_next 51 = .ok (.istore_n 1, 1) := by decide +kernel
theorem dX1_next_52 : decode cX1_next 52 = .ok (.iconst 0, 1) := by decide +kernel
theorem dX1_next_53 : decode cX1_next 53 = .ok (.istore_n 2, 1) := by decide +kernel
theorem dX1_next_54 : decode cX1_next 54 = .ok (.iconst 0, 1) := by decide +kernel
theorem dX1_next_55 : decode cX1_next 55 = .ok (.istore_n 3, 1) := by decide +kernel
theorem dX1_next_56 : decode cX1_next 56 = .ok (.iconst 1, 1) := by decide +kernel
theorem dX1_next_57 : decode cX1_next 57 = .ok (.istore 4, 2) := by decide +kernel
theorem dX1_next_59 : decode cX1_next 59 = .ok (.iconst 0, 1) := by decide +kernel
theorem dX1_next_60 : decode cX1_next 60 = .ok (.istore 5, 2) := by decide +kernel
theorem dX1_next_62 : decode cX1_next 62 = .ok (.iconst 0, 1) := by decide +kernel
theorem dX1_next_63 : decode cX1_next 63 = .ok (.istore 6, 2) := by decide +kernel
theorem dX1_next_65 : decode cX1_next 65 = .ok (.iload 6, 2) := by decide +kernel
theorem dX1_next_67 : decode cX1_next 67 = .ok (.ifCond .ne 290, 3) := by decide +kernel
theorem dX1_next_70 : decode cX1_next 70 = .ok (.iload_n 1, 1) := by decide +kernel
theorem dX1_next_71 : decode cX1_next 71 = .ok (.aload_n 0, 1) := by decide +kernel
theorem dX1_next_72 : decode cX1_next 72 = .ok (.getfield 107, 3) := by decide +kernel
theorem dX1_next_75 : decode cX1_next 75 = .ok (.if_icmp .ge 282, 3) := by decide +kernel
theorem dX1_next_78 : decode cX1_next 78 = .ok (.aload_n 0, 1) := by decide +kernel
theorem dX1_next_79 : decode cX1_next 79 = .ok (.getfield 14, 3) := by decide +kernel
theorem dX1_next_82 : decode cX1_next 82 = .ok (.iload_n 1, 1) := by decide +kernel
theorem dX1_next_83 : decode cX1_next 83 = .ok (.baload, 1) := by decide +kernel
theorem dX1_next_84 : decode cX1_next 84 = .ok (.sipush 255, 3) := by decide +kernel
theorem dX1_next_87 : decode cX1_next 87 = .ok (.iand, 1) := by decide +kernel
theorem dX1_next_88 : decode cX1_next 88 = .ok (.istore 7, 2) := by decide +kernel
theorem dX1_next_90 : decode cX1_next 90 = .ok (.aload_n 0, 1) := by decide +kernel
theorem dX1_next_91 : decode cX1_next 91 = .ok (.getfield 14, 3) := by decide +kernel
theorem dX1_next_94 : decode cX1_next 94 = .ok (.iload_n 1, 1) := by decide +kernel
theorem dX1_next_95 : decode cX1_next 95 = .ok (.iconst 1, 1) := by decide +kernel
theorem dX1_next_96 : decode cX1_next 96 = .ok (.iadd, 1) := by decide +kernel
theorem dX1_next_97 : decode cX1_next 97 = .ok (.aload_n 0, 1) := by decide +kernel
theorem dX1_next_98 : decode cX1_next 98 = .ok (.getfield 107, 3) := by decide +kernel
theorem dX1_next_101 : decode cX1_next 101 = .ok (.invokestatic 79, 3) := by decide +kernel
theorem dX1_next_104 : decode cX1_next 104 = .ok (.istore 8, 2) := by decide +kernel
theorem dX1_next_106 : decode cX1_next 106 = .ok (.iload 7, 2) := by decide +kernel
theorem dX1_next_108 : decode cX1_next 108 = .ok (.bipush 10, 2) := by decide +kernel
theorem dX1_next_110 : decode cX1_next 110 = .ok (.if_icmp .ne 9, 3) := by decide +kernel
theorem dX1_next_113 : decode cX1_next 113 = .ok (.iconst 1, 1) := by decide +kernel
theorem dX1_next_114 : decode cX1_next 114 = .ok (.istore 6, 2) := by decide +kernel
theorem dX1_next_116 : decode cX1_next 116 = .ok (.goto 238, 3) := by decide +kernel
theorem dX1_next_119 : decode cX1_next 119 = .ok (.iload 7, 2) := by decide +kernel
theorem dX1_next_121 : decode cX1_next 121 = .ok (.invokestatic 119, 3) := by decide +kernel
theorem dX1_next_124 : decode cX1_next 124 = .ok (.ifCond .eq 12, 3) := by decide +kernel
theorem dX1_next_127 : decode cX1_next 127 = .ok (.iconst 1, 1) := by decide +kernel
theorem dX1_next_128 : decode cX1_next 128 = .ok (.istore 4, 2) := by decide +kernel
theorem dX1_next_130 : decode cX1_next 130 = .ok (.iinc 1 1, 3) := by decide +kernel
theorem dX1_next_133 : decode cX1_next 133 = .ok (.goto 221, 3) := by decide +kernel
theorem dX1_next_136 : decode cX1_next 136 = .ok (.iload 7, 2) := by decide +kernel
theorem dX1_next_138 : decode cX1_next 138 = .ok (.bipush 47, 2) := by decide +kernel
theorem dX1_next_140 : decode cX1_next 140 = .ok (.if_icmp .ne 43, 3) := by decide +kernel
theorem dX1_next_143 : decode cX1_next 143 = .ok (.iload 8, 2) := by decide +kernel
theorem dX1_next_145 : decode cX1_next 145 = .ok (.bipush 42, 2) := by decide +kernel
theorem dX1_next_147 : decode cX1_next 147 = .ok (.if_icmp .ne 36, 3) := by decide +kernel
theorem dX1_next_150 : decode cX1_next 150 = .ok (.aload_n 0, 1) := by decide +kernel
theorem dX1_next_151 : decode cX1_next 151 = .ok (.iload_n 1, 1) := by decide +kernel
theorem dX1_next_152 : decode cX1_next 152 = .ok (.invokevirtual 122, 3) := by decide +kernel
theorem dX1_next_155 : decode cX1_next 155 = .ok (.istore 9, 2) := by decide +kernel
theorem dX1_next_157 : decode cX1_next 157 = .ok (.iload 9, 2) := by decide +kernel
theorem dX1_next_159 : decode cX1_next 159 = .ok (.ifCond .ge 15, 3) := by decide +kernel
theorem dX1_next_162 : decode cX1_next 162 = .ok (.aload_n 0, 1) := by decide +kernel
theorem dX1_next_163 : decode cX1_next 163 = .ok (.iconst 1, 1) := by decide +kernel
theorem dX1_next_164 : decode cX1_next 164 = .ok (.aload_n 0, 1) := by decide +kernel
theorem dX1_next_165 : decode cX1_next 165 = .ok (.getfield 21, 3) := by decide +kernel
theorem dX1_next_168 : decode cX1_next 168 = .ok (.iload_n 1, 1) := by decide +kernel
theorem dX1_next_169 : decode cX1_next 169 = .ok (.iaload, 1) := by decide +kernel
theorem dX1_next_170 : decode cX1_next 170 = .ok (.invokevirtual 126, 3) := by decide +kernel
theorem dX1_next_173 : decode cX1_next 173 = .ok (.ireturn, 1) := by decide +kernel
theorem dX1_next_174 : decode cX1_next 174 = .ok (.iload 9, 2) := by decide +kernel
theorem dX1_next_176 : decode cX1_next 176 = .ok (.istore_n 1, 1) := by decide +kernel
theorem dX1_next_177 : decode cX1_next 177 = .ok (.iconst 1, 1) := by decide +kernel
theorem dX1_next_178 : decode cX1_next 178 = .ok (.istore 4, 2) := by decide +kernel
theorem dX1_next_180 : decode cX1_next 180 = .ok (.goto 174, 3) := by decide +kernel
theorem dX1_next_183 : decode cX1_next 183 = .ok (.iload 7, 2) := by decide +kernel
theorem dX1_next_185 : decode cX1_next 185 = .ok (.bipush 47, 2) := by decide +kernel
theorem dX1_next_187 : decode cX1_next 187 = .ok (.if_icmp .ne 41, 3) := by decide +kernel
theorem dX1_next_190 : decode cX1_next 190 = .ok (.iload 8, 2) := by decide +kernel
theorem dX1_next_192 : decode cX1_next 192 = .ok (.bipush 47, 2) := by decide +kernel
theorem dX1_next_194 : decode cX1_next 194 = .ok (.if_icmp .ne 34, 3) := by decide +kernel
theorem dX1_next_197 : decode cX1_next 197 = .ok (.iload_n 1, 1) := by decide +kernel
theorem dX1_next_198 : decode cX1_next 198 = .ok (.aload_n 0, 1) := by decide +kernel
theorem dX1_next_199 : decode cX1_next 199 = .ok (.getfield 107, 3) := by decide +kernel
theorem dX1_next_202 : decode cX1_next 202 = .ok (.if_icmp .ge 20, 3) := by decide +kernel
theorem dX1_next_205 : decode cX1_next 205 = .ok (.aload_n 0, 1) := by decide +kernel
theorem dX1_next_206 : decode cX1_next 206 = .ok (.getfield 14, 3) := by decide +kernel
theorem dX1_next_209 : decode cX1_next 209 = .ok (.iload_n 1, 1) := by decide +kernel
theorem dX1_next_210 : decode cX1_next 210 = .ok (.baload, 1) := by decide +kernel
theorem dX1_next_211 : decode cX1_next 211 = .ok (.bipush 10, 2) := by decide +kernel
theorem dX1_next_213 : decode cX1_next 213 = .ok (.if_icmp .eq 9, 3) := by decide +kernel
theorem dX1_next_216 : decode cX1_next 216 = .ok (.iinc 1 1, 3) := by decide +kernel
theorem dX1_next_219 : decode cX1_next 219 = .ok (.goto (-22), 3) := by decide +kernel
theorem dX1_next_222 : decode cX1_next 222 = .ok (.iconst 1, 1) := by decide +kernel
theorem dX1_next_223 : decode cX1_next 223 = .ok (.istore 4, 2) := by decide +kernel
theorem dX1_next_225 : decode cX1_next 225 = .ok (.goto 129, 3) := by decide +kernel
theorem dX1_next_228 : decode cX1_next 228 = .ok (.aload_n 0, 1) := by decide +kernel
theorem dX1_next_229 : decode cX1_next 229 = .ok (.iload_n 1, 1) := by decide +kernel
theorem dX1_next_230 : decode cX1_next 230 = .ok (.aload_n 0, 1) := by decide +kernel
theorem dX1_next_231 : decode cX1_next 231 = .ok (.getfield 107, 3) := by decide +kernel
theorem dX1_next_234 : decode cX1_next 234 = .ok (.invokevirtual 129, 3) := by decide +kernel
theorem dX1_next_237 : decode cX1_next 237 = .ok (.istore 9, 2) := by decide +kernel
theorem dX1_next_239 : decode cX1_next 239 = .ok (.iload 9, 2) := by decide +kernel
theorem dX1_next_241 : decode cX1_next 241 = .ok (.iconst 1, 1) := by decide +kernel
theorem dX1_next_242 : decode cX1_next 242 = .ok (.if_icmp .ne 50, 3) := by decide +kernel
theorem dX1_next_245 : decode cX1_next 245 = .ok (.iload 7, 2) := by decide +kernel
theorem dX1_next_247 : decode cX1_next 247 = .ok (.bipush 34, 2) := by decide +kernel
theorem dX1_next_249 : decode cX1_next 249 = .ok (.if_icmp .eq 10, 3) := by decide +kernel
theorem dX1_next_252 : decode cX1_next 252 = .ok (.iload 7, 2) := by decide +kernel
theorem dX1_next_254 : decode cX1_next 254 = .ok (.bipush 39, 2) := by decide +kernel
theorem dX1_next_256 : decode cX1_next 256 = .ok (.if_icmp .ne 36, 3) := by decide +kernel
theorem dX1_next_259 : decode cX1_next 259 = .ok (.aload_n 0, 1) := by decide +kernel
theorem dX1_next_260 : decode cX1_next 260 = .ok (.dup, 1) := by decide +kernel
theorem dX1_next_261 : decode cX1_next 261 = .ok (.getfield 63, 3) := by decide +kernel
theorem dX1_next_264 : decode cX1_next 264 = .ok (.iconst 1, 1) := by decide +kernel
theorem dX1_next_265 : decode cX1_next 265 = .ok (.iadd, 1) := by decide +kernel
theorem dX1_next_266 : decode cX1_next 266 = .ok (.putfield 63, 3) := by decide +kernel
theorem dX1_next_269 : decode cX1_next 269 = .ok (.aload_n 0, 1) := by decide +kernel
theorem dX1_next_270 : decode cX1_next 270 = .ok (.getfield 63, 3) := by decide +kernel
theorem dX1_next_273 : decode cX1_next 273 = .ok (.sipush 1000, 3) := by decide +kernel
theorem dX1_next_276 : decode cX1_next 276 = .ok (.if_icmp .le 16, 3) := by decide +kernel
theorem dX1_next_279 : decode cX1_next 279 = .ok (.aload_n 0, 1) := by decide +kernel
theorem dX1_next_280 : decode cX1_next 280 = .ok (.bipush 21, 2) := by decide +kernel
theorem dX1_next_282 : decode cX1_next 282 = .ok (.aload_n 0, 1) := by decide +kernel
theorem dX1_next_283 : decode cX1_next 283 = .ok (.getfield 21, 3) := by decide +kernel
theorem dX1_next_286 : decode cX1_next 286 = .ok (.iload_n 1, 1) := by decide +kernel
theorem dX1_next_287 : decode cX1_next 287 = .ok (.iaload, 1) := by decide +kernel
theorem dX1_next_288 : decode cX1_next 288 = .ok (.invokevirtual 126, 3) := by decide +kernel
theorem dX1_next_291 : decode cX1_next 291 = .ok (.ireturn, 1) := by decide +kernel
theorem dX1_next_292 : decode cX1_next 292 = .ok (.iload_n 2, 1) := by decide +kernel
theorem dX1_next_293 : decode cX1_next 293 = .ok (.ifCond .ne 12, 3) := by decide +kernel
theorem dX1_next_296 : decode cX1_next 296 = .ok (.aload_n 0, 1) := by decide +kernel
theorem dX1_next_297 : decode cX1_next 297 = .ok (.getfield 21, 3) := by decide +kernel
theorem dX1_next_300 : decode cX1_next 300 = .ok (.iload_n 1, 1) := by decide +kernel
theorem dX1_next_301 : decode cX1_next 301 = .ok (.iaload, 1) := by decide +kernel
theorem dX1_next_302 : decode cX1_next 302 = .ok (.goto 5, 3) := by decide +kernel
theorem dX1_next_305 : decode cX1_next 305 = .ok (.iload 5, 2) := by decide +kernel
theorem dX1_next_307 : decode cX1_next 307 = .ok (.istore 5, 2) := by decide +kernel
theorem dX1_next_309 : decode cX1_next 309 = .ok (.iload_n 2, 1) := by decide +kernel
theorem dX1_next_310 : decode cX1_next 310 = .ok (.sipush 8000, 3) := by decide +kernel
theorem dX1_next_313 : decode cX1_next 313 = .ok (.if_icmp .ne 12, 3) := by decide +kernel
theorem dX1_next_316 : decode cX1_next 316 = .ok (.aload_n 0, 1) := by decide +kernel
theorem dX1_next_317 : decode cX1_next 317 = .ok (.getfield 21, 3) := by decide +kernel
theorem dX1_next_320 : decode cX1_next 320 = .ok (.iload_n 1, 1) := by decide +kernel
theorem dX1_next_321 : decode cX1_next 321 = .ok (.iaload, 1) := by decide +kernel
theorem dX1_next_322 : decode cX1_next 322 = .ok (.goto 4, 3) := by decide +kernel
theorem dX1_next_325 : decode cX1_next 325 = .ok (.iload_n 3, 1) := by decide +kernel
theorem dX1_next_326 : decode cX1_next 326 = .ok (.istore_n 3, 1) := by decide +kernel
theorem dX1_next_327 : decode cX1_next 327 = .ok (.iload_n 2, 1) := by decide +kernel
theorem dX1_next_328 : decode cX1_next 328 = .ok (.sipush 8000, 3) := by decide +kernel
theorem dX1_next_331 : decode cX1_next 331 = .ok (.if_icmp .ge 12, 3) := by decide +kernel
theorem dX1_next_334 : decode cX1_next 334 = .ok (.aload_n 0, 1) := by decide +kernel
theorem dX1_next_335 : decode cX1_next 335 = .ok (.iload_n 1, 1) := by decide +kernel
theorem dX1_next_336 : decode cX1_next 336 = .ok (.iload 9, 2) := by decide +kernel
theorem dX1_next_338 : decode cX1_next 338 = .ok (.iload 4, 2) := by decide +kernel
theorem dX1_next_340 : decode cX1_next 340 = .ok (.invokevirtual 132, 3) := by decide +kernel
theorem dX1_next_343 : decode cX1_next 343 = .ok (.iinc 2 1, 3) := by decide +kernel
theorem dX1_next_346 : decode cX1_next 346 = .ok (.iconst 0, 1) := by decide +kernel
theorem dX1_next_347 : decode cX1_next 347 = .ok (.istore 4, 2) := by decide +kernel
theorem dX1_next_349 : decode cX1_next 349 = .ok (.iload_n 1, 1) := by decide +kernel
theorem dX1_next_350 : decode cX1_next 350 = .ok (.iload 9, 2) := by decide +kernel
theorem dX1_next_352 : decode cX1_next 352 = .ok (.iadd, 1) := by decide +kernel
theorem dX1_next_353 : decode cX1_next 353 = .ok (.istore_n 1, 1) := by decide +kernel
theorem dX1_next_354 : decode cX1_next 354 = .ok (.goto (-289), 3) := by decide +kernel
theorem dX1_next_357 : decode cX1_next 357 = .ok (.aload_n 0, 1) := by decide +kernel
theorem dX1_next_358 : decode cX1_next 358 = .ok (.iload 6, 2) := by decide +kernel
theorem dX1_next_360 : decode cX1_next 360 = .ok (.ifCond .eq 14, 3) := by decide +kernel
theorem dX1_next_363 : decode cX1_next 363 = .ok (.aload_n 0, 1) := by decide +kernel
theorem dX1_next_364 : decode cX1_next 364 = .ok (.getfield 17, 3) := by decide +kernel
theorem dX1_next_367 : decode cX1_next 367 = .ok (.iload_n 1, 1) := by decide +kernel
theorem dX1_next_368 : decode cX1_next 368 = .ok (.iaload, 1) := by decide +kernel
theorem dX1_next_369 : decode cX1_next 369 = .ok (.iconst 1, 1) := by decide +kernel
theorem dX1_next_370 : decode cX1_next 370 = .ok (.iadd, 1) := by decide +kernel
theorem dX1_next_371 : decode cX1_next 371 = .ok (.goto 7, 3) := by decide +kernel
theorem dX1_next_374 : decode cX1_next 374 = .ok (.aload_n 0, 1) := by decide +kernel
theorem dX1_next_375 : decode cX1_next 375 = .ok (.getfield 43, 3) := by decide +kernel
theorem dX1_next_378 : decode cX1_next 378 = .ok (.putfield 47, 3) := by decide +kernel
theorem dX1_next_381 : decode cX1_next 381 = .ok (.aload_n 0, 1) := by decide +kernel
theorem dX1_next_382 : decode cX1_next 382 = .ok (.iload 6, 2) := by decide +kernel
theorem dX1_next_384 : decode cX1_next 384 = .ok (.ifCond .eq 14, 3) := by decide +kernel
theorem dX1_next_387 : decode cX1_next 387 = .ok (.aload_n 0, 1) := by decide +kernel
theorem dX1_next_388 : decode cX1_next 388 = .ok (.getfield 21, 3) := by decide +kernel
theorem dX1_next_391 : decode cX1_next 391 = .ok (.iload_n 1, 1) := by decide +kernel
theorem dX1_next_392 : decode cX1_next 392 = .ok (.iaload, 1) := by decide +kernel
theorem dX1_next_393 : decode cX1_next 393 = .ok (.iconst 1, 1) := by decide +kernel
theorem dX1_next_394 : decode cX1_next 394 = .ok (.iadd, 1) := by decide +kernel
theorem dX1_next_395 : decode cX1_next 395 = .ok (.goto 7, 3) := by decide +kernel
theorem dX1_next_398 : decode cX1_next 398 = .ok (.aload_n 0, 1) := by decide +kernel
theorem dX1_next_399 : decode cX1_next 399 = .ok (.getfield 110, 3) := by decide +kernel
theorem dX1_next_402 : decode cX1_next 402 = .ok (.putfield 50, 3) := by decide +kernel
theorem dX1_next_405 : decode cX1_next 405 = .ok (.iload_n 2, 1) := by decide +kernel
theorem dX1_next_406 : decode cX1_next 406 = .ok (.ifCond .le 22, 3) := by decide +kernel
theorem dX1_next_409 : decode cX1_next 409 = .ok (.aload_n 0, 1) := by decide +kernel
theorem dX1_next_410 : decode cX1_next 410 = .ok (.getfield 60, 3) := by decide +kernel
theorem dX1_next_413 : decode cX1_next 413 = .ok (.sipush 20000, 3) := by decide +kernel
theorem dX1_next_416 : decode cX1_next 416 = .ok (.if_icmp .ne 12, 3) := by decide +kernel
theorem dX1_next_419 : decode cX1_next 419 = .ok (.aload_n 0, 1) := by decide +kernel
theorem dX1_next_420 : decode cX1_next 420 = .ok (.bipush 21, 2) := by decide +kernel
theorem dX1_next_422 : decode cX1_next 422 = .ok (.iload 5, 2) := by decide +kernel
theorem dX1_next_424 : decode cX1_next 424 = .ok (.invokevirtual 126, 3) := by decide +kernel
theorem dX1_next_427 : decode cX1_next 427 = .ok (.ireturn, 1) := by decide +kernel
theorem dX1_next_428 : decode cX1_next 428 = .ok (.aload_n 0, 1) := by decide +kernel
theorem dX1_next_429 : decode cX1_next 429 = .ok (.iload_n 2, 1) := by decide +kernel
theorem dX1_next_430 : decode cX1_next 430 = .ok (.ifCond .le 12, 3) := by decide +kernel
theorem dX1_next_433 : decode cX1_next 433 = .ok (.aload_n 0, 1) := by decide +kernel
theorem dX1_next_434 : decode cX1_next 434 = .ok (.getfield 60, 3) := by decide +kernel
theorem dX1_next_437 : decode cX1_next 437 = .ok (.iconst 1, 1) := by decide +kernel
theorem dX1_next_438 : decode cX1_next 438 = .ok (.iadd, 1) := by decide +kernel
theorem dX1_next_439 : decode cX1_next 439 = .ok (.goto 7, 3) := by decide +kernel
theorem dX1_next_442 : decode cX1_next 442 = .ok (.aload_n 0, 1) := by decide +kernel
theorem dX1_next_443 : decode cX1_next 443 = .ok (.getfield 60, 3) := by decide +kernel
theorem dX1_next_446 : decode cX1_next 446 = .ok (.putfield 60, 3) := by decide +kernel
theorem dX1_next_449 : decode cX1_next 449 = .ok (.iload_n 2, 1) := by decide +kernel
theorem dX1_next_450 : decode cX1_next 450 = .ok (.sipush 8000, 3) := by decide +kernel
theorem dX1_next_453 : decode cX1_next 453 = .ok (.if_icmp .le 11, 3) := by decide +kernel
theorem dX1_next_456 : decode cX1_next 456 = .ok (.aload_n 0, 1) := by decide +kernel
theorem dX1_next_457 : decode cX1_next 457 = .ok (.bipush 21, 2) := by decide +kernel
theorem dX1_next_459 : decode cX1_next 459 = .ok (.iload_n 3, 1) := by decide +kernel
theorem dX1_next_460 : decode cX1_next 460 = .ok (.invokevirtual 126, 3) := by decide +kernel
theorem dX1_next_463 : decode cX1_next 463 = .ok (.ireturn, 1) := by decide +kernel
theorem dX1_next_464 : decode cX1_next 464 = .ok (.aload_n 0, 1) := by decide +kernel
theorem dX1_next_465 : decode cX1_next 465 = .ok (.getfield 66, 3) := by decide +kernel
theorem dX1_next_468 : decode cX1_next 468 = .ok (.ireturn, 1) := by decide +kernel
theorem dX1_told_0 : decode cX1_told 0 = .ok (.iload_n 1, 1) := by decide +kernel
theorem dX1_told_1 : decode cX1_told 1 = .ok (.tableswitch 91 0 3 #[31, 65, 70, 75], 31) := by decide +kernel
theorem dX1_told_32 : decode cX1_told 32 = .ok (.aload_n 0, 1) := by decide +kernel
theorem dX1_told_33 : decode cX1_told 33 = .ok (.getfield 66, 3) := by decide +kernel
theorem dX1_told_36 : decode cX1_told 36 = .ok (.ifCond .le 28, 3) := by decide +kernel
theorem dX1_told_39 : decode cX1_told 39 = .ok (.aload_n 0, 1) := by decide +kernel
theorem dX1_told_40 : decode cX1_told 40 = .ok (.getfield 27, 3) := by decide +kernel
theorem dX1_told_43 : decode cX1_told 43 = .ok (.iconst 0, 1) := by decide +kernel
theorem dX1_told_44 : decode cX1_told 44 = .ok (.iaload, 1) := by decide +kernel
theorem dX1_told_45 : decode cX1_told 45 = .ok (.iconst 1, 1) := by decide +kernel
theorem dX1_told_46 : decode cX1_told 46 = .ok (.if_icmp .ne 18, 3) := by decide +kernel
theorem dX1_told_49 : decode cX1_told 49 = .ok (.aload_n 0, 1) := by decide +kernel
theorem dX1_told_50 : decode cX1_told 50 = .ok (.getfield 37, 3) := by decide +kernel
theorem dX1_told_53 : decode cX1_told 53 = .ok (.iconst 0, 1) := by decide +kernel
theorem dX1_told_54 : decode cX1_told 54 = .ok (.baload, 1) := by decide +kernel
theorem dX1_told_55 : decode cX1_told 55 = .ok (.bipush 35, 2) := by decide +kernel
theorem dX1_told_57 : decode cX1_told 57 = .ok (.if_icmp .ne 7, 3) := by decide +kernel
theorem dX1_told_60 : decode cX1_told 60 = .ok (.iconst 1, 1) := by decide +kernel
theorem dX1_told_61 : decode cX1_told 61 = .ok (.goto 4, 3) := by decide +kernel
theorem dX1_told_64 : decode cX1_told 64 = .ok (.iconst 0, 1) := by decide +kernel
theorem dX1_told_65 : decode cX1_told 65 = .ok (.ireturn, 1) := by decide +kernel
theorem dX1_told_66 : decode cX1_told 66 = .ok (.aload_n 0, 1) := by decide +kernel
theorem dX1_told_67 : decode cX1_told 67 = .ok (.getfield 60, 3) := by decide +kernel
theorem dX1_told_70 : decode cX1_told 70 = .ok (.ireturn, 1) := by decide +kernel
theorem dX1_told_71 : decode cX1_told 71 = .ok (.aload_n 0, 1) := by decide +kernel
theorem dX1_told_72 : decode cX1_told 72 = .ok (.getfield 57, 3) := by decide +kernel
theorem dX1_told_75 : decode cX1_told 75 = .ok (.ireturn, 1) := by decide +kernel
theorem dX1_told_76 : decode cX1_told 76 = .ok (.aload_n 0, 1) := by decide +kernel
theorem dX1_told_77 : decode cX1_told 77 = .ok (.getfield 53, 3) := by decide +kernel
theorem dX1_told_80 : decode cX1_told 80 = .ok (.ifCond .eq 7, 3) := by decide +kernel
theorem dX1_told_83 : decode cX1_told 83 = .ok (.iconst 0, 1) := by decide +kernel
theorem dX1_told_84 : decode cX1_told 84 = .ok (.goto 7, 3) := by decide +kernel
theorem dX1_told_87 : decode cX1_told 87 = .ok (.aload_n 0, 1) := by decide +kernel
theorem dX1_told_88 : decode cX1_told 88 = .ok (.getfield 50, 3) := by decide +kernel
theorem dX1_told_91 : decode cX1_told 91 = .ok (.ireturn, 1) := by decide +kernel
theorem dX1_told_92 : decode cX1_told 92 = .ok (.iconst (-1), 1) := by decide +kernel
theorem dX1_told_93 : decode cX1_told 93 = .ok (.ireturn, 1) := by decide +kernel
theorem dX1_byteOf_0 : decode cX1_byteOf 0 = .ok (.aload_n 0, 1) := by decide +kernel
theorem dX1_byteOf_1 : decode cX1_byteOf 1 = .ok (.getfield 37, 3) := by decide +kernel
theorem dX1_byteOf_4 : decode cX1_byteOf 4 = .ok (.aload_n 0, 1) := by decide +kernel
theorem dX1_byteOf_5 : decode cX1_byteOf 5 = .ok (.getfield 24, 3) := by decide +kernel
theorem dX1_byteOf_8 : decode cX1_byteOf 8 = .ok (.iload_n 1, 1) := by decide +kernel
theorem dX1_byteOf_9 : decode cX1_byteOf 9 = .ok (.iaload, 1) := by decide +kernel
theorem dX1_byteOf_10 : decode cX1_byteOf 10 = .ok (.iload_n 2, 1) := by decide +kernel
theorem dX1_byteOf_11 : decode cX1_byteOf 11 = .ok (.iadd, 1) := by decide +kernel
theorem dX1_byteOf_12 : decode cX1_byteOf 12 = .ok (.baload, 1) := by decide +kernel
theorem dX1_byteOf_13 : decode cX1_byteOf 13 = .ok (.sipush 255, 3) := by decide +kernel
theorem dX1_byteOf_16 : decode cX1_byteOf 16 = .ok (.iand, 1) := by decide +kernel
theorem dX1_byteOf_17 : decode cX1_byteOf 17 = .ok (.ireturn, 1) := by decide +kernel
theorem dX1_kindOf_0 : decode cX1_kindOf 0 = .ok (.aload_n 0, 1) := by decide +kernel
theorem dX1_kindOf_1 : decode cX1_kindOf 1 = .ok (.iload_n 1, 1) := by decide +kernel
theorem dX1_kindOf_2 : decode cX1_kindOf 2 = .ok (.iconst 0, 1) := by decide +kernel
theorem dX1_kindOf_3 : decode cX1_kindOf 3 = .ok (.invokevirtual 136, 3) := by decide +kernel
theorem dX1_kindOf_6 : decode cX1_kindOf 6 = .ok (.istore_n 2, 1) := by decide +kernel
theorem dX1_kindOf_7 : decode cX1_kindOf 7 = .ok (.aload_n 0, 1) := by decide +kernel
theorem dX1_kindOf_8 : decode cX1_kindOf 8 = .ok (.getfield 27, 3) := by decide +kernel
theorem dX1_kindOf_11 : decode cX1_kindOf 11 = .ok (.iload_n 1, 1) := by decide +kernel
theorem dX1_kindOf_12 : decode cX1_kindOf 12 = .ok (.iaload, 1) := by decide +kernel
theorem dX1_kindOf_13 : decode cX1_kindOf 13 = .ok (.iconst 1, 1) := by decide +kernel
theorem dX1_kindOf_14 : decode cX1_kindOf 14 = .ok (.if_icmp .le 12, 3) := by decide +kernel
theorem dX1_kindOf_17 : decode cX1_kindOf 17 = .ok (.aload_n 0, 1) := by decide +kernel
theorem dX1_kindOf_18 : decode cX1_kindOf 18 = .ok (.iload_n 1, 1) := by decide +kernel
theorem dX1_kindOf_19 : decode cX1_kindOf 19 = .ok (.iconst 1, 1) := by decide +kernel
theorem dX1_kindOf_20 : decode cX1_kindOf 20 = .ok (.invokevirtual 136, 3) := by decide +kernel
theorem dX1_kindOf_23 : decode cX1_kindOf 23 = .ok (.goto 4, 3) := by decide +kernel
theorem dX1_kindOf_26 : decode cX1_kindOf 26 = .ok (.iconst (-1), 1) := by decide +kernel
theorem dX1_kindOf_27 : decode cX1_kindOf 27 = .ok (.istore_n 3, 1) := by decide +kernel
theorem dX1_kindOf_28 : decode cX1_kindOf 28 = .ok (.iload_n 2, 1) := by decide +kernel
theorem dX1_kindOf_29 : decode cX1_kindOf 29 = .ok (.bipush 76, 2) := by decide +kernel
theorem dX1_kindOf_31 : decode cX1_kindOf 31 = .ok (.if_icmp .ne 19, 3) := by decide +kernel
theorem dX1_kindOf_34 : decode cX1_kindOf 34 = .ok (.iload_n 3, 1) := by decide +kernel
theorem dX1_kindOf_35 : decode cX1_kindOf 35 = .ok (.bipush 34, 2) := by decide +kernel
theorem dX1_kindOf_37 : decode cX1_kindOf 37 = .ok (.if_icmp .eq 9, 3) := by decide +kernel
theorem dX1_kindOf_40 : decode cX1_kindOf 40 = .ok (.iload_n 3, 1) := by decide +kernel
theorem dX1_kindOf_41 : decode cX1_kindOf 41 = .ok (.bipush 39, 2) := by decide +kernel
theorem dX1_kindOf_43 : decode cX1_kindOf 43 = .ok (.if_icmp .ne 7, 3) := by decide +kernel
theorem dX1_kindOf_46 : decode cX1_kindOf 46 = .ok (.iload_n 3, 1) := by decide +kernel
theorem dX1_kindOf_47 : decode cX1_kindOf 47 = .ok (.goto 12, 3) := by decide +kernel
theorem dX1_kindOf_50 : decode cX1_kindOf 50 = .ok (.iload_n 3, 1) := by decide +kernel
theorem dX1_kindOf_51 : decode cX1_kindOf 51 = .ok (.ifCond .lt 7, 3) := by decide +kernel
theorem dX1_kindOf_54 : decode cX1_kindOf 54 = .ok (.iload_n 2, 1) := by decide +kernel
theorem dX1_kindOf_55 : decode cX1_kindOf 55 = .ok (.goto 4, 3) := by decide +kernel
theorem dX1_kindOf_58 : decode cX1_kindOf 58 = .ok (.iconst (-1), 1) := by decide +kernel
theorem dX1_kindOf_59 : decode cX1_kindOf 59 = .ok (.istore 4, 2) := by decide +kernel
theorem dX1_kindOf_61 : decode cX1_kindOf 61 = .ok (.iload 4, 2) := by decide +kernel
theorem dX1_kindOf_63 : decode cX1_kindOf 63 = .ok (.bipush 34, 2) := by decide +kernel
theorem dX1_kindOf_65 : decode cX1_kindOf 65 = .ok (.if_icmp .eq 10, 3) := by decide +kernel
theorem dX1_kindOf_68 : decode cX1_kindOf 68 = .ok (.iload 4, 2) := by decide +kernel
theorem dX1_kindOf_70 : decode cX1_kindOf 70 = .ok (.bipush 39, 2) := by decide +kernel
theorem dX1_kindOf_72 : decode cX1_kindOf 72 = .ok (.if_icmp .ne 16, 3) := by decide +kernel
theorem dX1_kindOf_75 : decode cX1_kindOf 75 = .ok (.iload 4, 2) := by decide +kernel
theorem dX1_kindOf_77 : decode cX1_kindOf 77 = .ok (.bipush 34, 2) := by decide +kernel
theorem dX1_kindOf_79 : decode cX1_kindOf 79 = .ok (.if_icmp .ne 7, 3) := by decide +kernel
theorem dX1_kindOf_82 : decode cX1_kindOf 82 = .ok (.iconst 3, 1) := by decide +kernel
theorem dX1_kindOf_83 : decode cX1_kindOf 83 = .ok (.goto 4, 3) := by decide +kernel
theorem dX1_kindOf_86 : decode cX1_kindOf 86 = .ok (.iconst 4, 1) := by decide +kernel
theorem dX1_kindOf_87 : decode cX1_kindOf 87 = .ok (.ireturn, 1) := by decide +kernel
theorem dX1_kindOf_88 : decode cX1_kindOf 88 = .ok (.iload_n 2, 1) := by decide +kernel
theorem dX1_kindOf_89 : decode cX1_kindOf 89 = .ok (.invokestatic 95, 3) := by decide +kernel
theorem dX1_kindOf_92 : decode cX1_kindOf 92 = .ok (.ifCond .eq 5, 3) := by decide +kernel
theorem dX1_kindOf_95 : decode cX1_kindOf 95 = .ok (.iconst 1, 1) := by decide +kernel
theorem dX1_kindOf_96 : decode cX1_kindOf 96 = .ok (.ireturn, 1) := by decide +kernel
theorem dX1_kindOf_97 : decode cX1_kindOf 97 = .ok (.iload_n 2, 1) := by decide +kernel
theorem dX1_kindOf_98 : decode cX1_kindOf 98 = .ok (.invokestatic 99, 3) := by decide +kernel
theorem dX1_kindOf_101 : decode cX1_kindOf 101 = .ok (.ifCond .ne 16, 3) := by decide +kernel
theorem dX1_kindOf_104 : decode cX1_kindOf 104 = .ok (.iload_n 2, 1) := by decide +kernel
theorem dX1_kindOf_105 : decode cX1_kindOf 105 = .ok (.bipush 46, 2) := by decide +kernel
theorem dX1_kindOf_107 : decode cX1_kindOf 107 = .ok (.if_icmp .ne 14, 3) := by decide +kernel
theorem dX1_kindOf_110 : decode cX1_kindOf 110 = .ok (.iload_n 3, 1) := by decide +kernel
theorem dX1_kindOf_111 : decode cX1_kindOf 111 = .ok (.invokestatic 99, 3) := by decide +kernel
theorem dX1_kindOf_114 : decode cX1_kindOf 114 = .ok (.ifCond .eq 7, 3) := by decide +kernel
theorem dX1_kindOf_117 : decode cX1_kindOf 117 = .ok (.iconst 2, 1) := by decide +kernel
theorem dX1_kindOf_118 : decode cX1_kindOf 118 = .ok (.goto 22, 3) := by decide +kernel
theorem dX1_kindOf_121 : decode cX1_kindOf 121 = .ok (.iload_n 3, 1) := by decide +kernel
theorem dX1_kindOf_122 : decode cX1_kindOf 122 = .ok (.ifCond .ge 12, 3) := by decide +kernel
theorem dX1_kindOf_125 : decode cX1_kindOf 125 = .ok (.iload_n 2, 1) := by decide +kernel
theorem dX1_kindOf_126 : decode cX1_kindOf 126 = .ok (.ldc 139, 2) := by decide +kernel
theorem dX1_kindOf_128 : decode cX1_kindOf 128 = .ok (.invokestatic 85, 3) := by decide +kernel
theorem dX1_kindOf_131 : decode cX1_kindOf 131 = .ok (.ifCond .eq 7, 3) := by decide +kernel
theorem dX1_kindOf_134 : decode cX1_kindOf 134 = .ok (.iconst 5, 1) := by decide +kernel
theorem dX1_kindOf_135 : decode cX1_kindOf 135 = .ok (.goto 5, 3) := by decide +kernel
theorem dX1_kindOf_138 : decode cX1_kindOf 138 = .ok (.bipush 6, 2) := by decide +kernel
theorem dX1_kindOf_140 : decode cX1_kindOf 140 = .ok (.ireturn, 1) := by decide +kernel
theorem dX1_token_0 : decode cX1_token 0 = .ok (.iload_n 1, 1) := by decide +kernel
theorem dX1_token_1 : decode cX1_token 1 = .ok (.ifCond .lt 20, 3) := by decide +kernel
theorem dX1_token_4 : decode cX1_token 4 = .ok (.iload_n 1, 1) := by decide +kernel
theorem dX1_token_5 : decode cX1_token 5 = .ok (.aload_n 0, 1) := by decide +kernel
theorem dX1_token_6 : decode cX1_token 6 = .ok (.getfield 66, 3) := by decide +kernel
theorem dX1_token_9 : decode cX1_token 9 = .ok (.if_icmp .ge 12, 3) := by decide +kernel
theorem dX1_token_12 : decode cX1_token 12 = .ok (.iload_n 2, 1) := by decide +kernel
theorem dX1_token_13 : decode cX1_token 13 = .ok (.ifCond .lt 8, 3) := by decide +kernel
theorem dX1_token_16 : decode cX1_token 16 = .ok (.iload_n 2, 1) := by decide +kernel
theorem dX1_token_17 : decode cX1_token 17 = .ok (.iconst 4, 1) := by decide +kernel
theorem dX1_token_18 : decode cX1_token 18 = .ok (.if_icmp .le 5, 3) := by decide +kernel
theorem dX1_token_21 : decode cX1_token 21 = .ok (.iconst (-1), 1) := by decide +kernel
theorem dX1_token_22 : decode cX1_token 22 = .ok (.ireturn, 1) := by decide +kernel
theorem dX1_token_23 : decode cX1_token 23 = .ok (.iload_n 2, 1) := by decide +kernel
theorem dX1_token_24 : decode cX1_token 24 = .ok (.tableswitch 67 0 3 #[32, 38, 45, 52], 32) := by decide +kernel
theorem dX1_token_56 : decode cX1_token 56 = .ok (.aload_n 0, 1) := by decide +kernel
theorem dX1_token_57 : decode cX1_token 57 = .ok (.iload_n 1, 1) := by decide +kernel
theorem dX1_token_58 : decode cX1_token 58 = .ok (.invokevirtual 141, 3) := by decide +kernel
theorem dX1_token_61 : decode cX1_token 61 = .ok (.ireturn, 1) := by decide +kernel
theorem dX1_token_62 : decode cX1_token 62 = .ok (.aload_n 0, 1) := by decide +kernel
theorem dX1_token_63 : decode cX1_token 63 = .ok (.getfield 30, 3) := by decide +kernel
theorem dX1_token_66 : decode cX1_token 66 = .ok (.iload_n 1, 1) := by decide +kernel
theorem dX1_token_67 : decode cX1_token 67 = .ok (.iaload, 1) := by decide +kernel
theorem dX1_token_68 : decode cX1_token 68 = .ok (.ireturn, 1) := by decide +kernel
theorem dX1_token_69 : decode cX1_token 69 = .ok (.aload_n 0, 1) := by decide +kernel
theorem dX1_token_70 : decode cX1_token 70 = .ok (.getfield 27, 3) := by decide +kernel
theorem dX1_token_73 : decode cX1_token 73 = .ok (.iload_n 1, 1) := by decide +kernel
theorem dX1_token_74 : decode cX1_token 74 = .ok (.iaload, 1) := by decide +kernel
theorem dX1_token_75 : decode cX1_token 75 = .ok (.ireturn, 1) := by decide +kernel
theorem dX1_token_76 : decode cX1_token 76 = .ok (.aload_n 0, 1) := by decide +kernel
theorem dX1_token_77 : decode cX1_token 77 = .ok (.getfield 33, 3) := by decide +kernel
theorem dX1_token_80 : decode cX1_token 80 = .ok (.iload_n 1, 1) := by decide +kernel
theorem dX1_token_81 : decode cX1_token 81 = .ok (.baload, 1) := by decide +kernel
theorem dX1_token_82 : decode cX1_token 82 = .ok (.ifCond .eq 7, 3) := by decide +kernel
theorem dX1_token_85 : decode cX1_token 85 = .ok (.iconst 1, 1) := by decide +kernel
theorem dX1_token_86 : decode cX1_token 86 = .ok (.goto 4, 3) := by decide +kernel
theorem dX1_token_89 : decode cX1_token 89 = .ok (.iconst 0, 1) := by decide +kernel
theorem dX1_token_90 : decode cX1_token 90 = .ok (.ireturn, 1) := by decide +kernel
theorem dX1_token_91 : decode cX1_token 91 = .ok (.iload_n 1, 1) := by decide +kernel
theorem dX1_token_92 : decode cX1_token 92 = .ok (.ifCond .ne 7, 3) := by decide +kernel
theorem dX1_token_95 : decode cX1_token 95 = .ok (.iconst 1, 1) := by decide +kernel
theorem dX1_token_96 : decode cX1_token 96 = .ok (.goto 4, 3) := by decide +kernel
theorem dX1_token_99 : decode cX1_token 99 = .ok (.iconst 0, 1) := by decide +kernel
theorem dX1_token_100 : decode cX1_token 100 = .ok (.ireturn, 1) := by decide +kernel
theorem dX1_spelling_0 : decode cX1_spelling 0 = .ok (.lconst 0, 1) := by decide +kernel
theorem dX1_spelling_1 : decode cX1_spelling 1 = .ok (.lstore_n 3, 1) := by decide +kernel
theorem dX1_spelling_2 : decode cX1_spelling 2 = .ok (.bipush 7, 2) := by decide +kernel
theorem dX1_spelling_4 : decode cX1_spelling 4 = .ok (.istore 5, 2) := by decide +kernel
theorem dX1_spelling_6 : decode cX1_spelling 6 = .ok (.iload 5, 2) := by decide +kernel
theorem dX1_spelling_8 : decode cX1_spelling 8 = .ok (.ifCond .lt 71, 3) := by decide +kernel
theorem dX1_spelling_11 : decode cX1_spelling 11 = .ok (.iload_n 1, 1) := by decide +kernel
theorem dX1_spelling_12 : decode cX1_spelling 12 = .ok (.ifCond .lt 67, 3) := by decide +kernel
theorem dX1_spelling_15 : decode cX1_spelling 15 = .ok (.iload_n 1, 1) := by decide +kernel
theorem dX1_spelling_16 : decode cX1_spelling 16 = .ok (.aload_n 0, 1) := by decide +kernel
theorem dX1_spelling_17 : decode cX1_spelling 17 = .ok (.getfield 66, 3) := by decide +kernel
theorem dX1_spelling_20 : decode cX1_spelling 20 = .ok (.if_icmp .ge 59, 3) := by decide +kernel
theorem dX1_spelling_23 : decode cX1_spelling 23 = .ok (.iload_n 2, 1) := by decide +kernel
theorem dX1_spelling_24 : decode cX1_spelling 24 = .ok (.ifCond .lt 55, 3) := by decide +kernel
theorem dX1_spelling_27 : decode cX1_spelling 27 = .ok (.iload_n 2, 1) := by decide +kernel
theorem dX1_spelling_28 : decode cX1_spelling 28 = .ok (.sipush 4096, 3) := by decide +kernel
theorem dX1_spelling_31 : decode cX1_spelling 31 = .ok (.if_icmp .ge 48, 3) := by decide +kernel
theorem dX1_spelling_34 : decode cX1_spelling 34 = .ok (.lload_n 3, 1) := by decide +kernel
theorem dX1_spelling_35 : decode cX1_spelling 35 = .ok (.bipush 8, 2) := by decide +kernel
theorem dX1_spelling_37 : decode cX1_spelling 37 = .ok (.lshl, 1) := by decide +kernel
theorem dX1_spelling_38 : decode cX1_spelling 38 = .ok (.bipush 8, 2) := by decide +kernel
theorem dX1_spelling_40 : decode cX1_spelling 40 = .ok (.iload_n 2, 1) := by decide +kernel
theorem dX1_spelling_41 : decode cX1_spelling 41 = .ok (.imul, 1) := by decide +kernel
theorem dX1_spelling_42 : decode cX1_spelling 42 = .ok (.iload 5, 2) := by decide +kernel
theorem dX1_spelling_44 : decode cX1_spelling 44 = .ok (.iadd, 1) := by decide +kernel
theorem dX1_spelling_45 : decode cX1_spelling 45 = .ok (.aload_n 0, 1) := by decide +kernel
theorem dX1_spelling_46 : decode cX1_spelling 46 = .ok (.getfield 27, 3) := by decide +kernel
theorem dX1_spelling_49 : decode cX1_spelling 49 = .ok (.iload_n 1, 1) := by decide +kernel
theorem dX1_spelling_50 : decode cX1_spelling 50 = .ok (.iaload, 1) := by decide +kernel
theorem dX1_spelling_51 : decode cX1_spelling 51 = .ok (.if_icmp .ge 18, 3) := by decide +kernel
theorem dX1_spelling_54 : decode cX1_spelling 54 = .ok (.aload_n 0, 1) := by decide +kernel
theorem dX1_spelling_55 : decode cX1_spelling 55 = .ok (.iload_n 1, 1) := by decide +kernel
theorem dX1_spelling_56 : decode cX1_spelling 56 = .ok (.bipush 8, 2) := by decide +kernel
theorem dX1_spelling_58 : decode cX1_spelling 58 = .ok (.iload_n 2, 1) := by decide +kernel
theorem dX1_spelling_59 : decode cX1_spelling 59 = .ok (.imul, 1) := by decide +kernel
theorem dX1_spelling_60 : decode cX1_spelling 60 = .ok (.iload 5, 2) := by decide +kernel
theorem dX1_spelling_62 : decode cX1_spelling 62 = .ok (.iadd, 1) := by decide +kernel
theorem dX1_spelling_63 : decode cX1_spelling 63 = .ok (.invokevirtual 136, 3) := by decide +kernel
theorem dX1_spelling_66 : decode cX1_spelling 66 = .ok (.goto 4, 3) := by decide +kernel
theorem dX1_spelling_69 : decode cX1_spelling 69 = .ok (.iconst 0, 1) := by decide +kernel
theorem dX1_spelling_70 : decode cX1_spelling 70 = .ok (.i2l, 1) := by decide +kernel
theorem dX1_spelling_71 : decode cX1_spelling 71 = .ok (.lor, 1) := by decide +kernel
theorem dX1_spelling_72 : decode cX1_spelling 72 = .ok (.lstore_n 3, 1) := by decide +kernel
theorem dX1_spelling_73 : decode cX1_spelling 73 = .ok (.iinc 5 (-1), 3) := by decide +kernel
theorem dX1_spelling_76 : decode cX1_spelling 76 = .ok (.goto (-70), 3) := by decide +kernel
theorem dX1_spelling_79 : decode cX1_spelling 79 = .ok (.lload_n 3, 1) := by decide +kernel
theorem dX1_spelling_80 : decode cX1_spelling 80 = .ok (.lreturn, 1) := by decide +kernel
