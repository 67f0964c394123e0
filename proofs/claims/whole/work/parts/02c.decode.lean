theorem dX10_init_0 : decode cX10_init 0 = .ok (.aload_n 0, 1) := by decide +kernel
theorem dX10_init_1 : decode cX10_init 1 = .ok (.invokespecial 1, 3) := by decide +kernel
theorem dX10_init_4 : decode cX10_init 4 = .ok (.aload_n 0, 1) := by decide +kernel
theorem dX10_init_5 : decode cX10_init 5 = .ok (.sipush 2380, 3) := by decide +kernel
theorem dX10_init_8 : decode cX10_init 8 = .ok (.newarray .int, 2) := by decide +kernel
theorem dX10_init_10 : decode cX10_init 10 = .ok (.putfield 7, 3) := by decide +kernel
theorem dX10_init_13 : decode cX10_init 13 = .ok (.aload_n 0, 1) := by decide +kernel
theorem dX10_init_14 : decode cX10_init 14 = .ok (.bipush 60, 2) := by decide +kernel
theorem dX10_init_16 : decode cX10_init 16 = .ok (.newarray .int, 2) := by decide +kernel
theorem dX10_init_18 : decode cX10_init 18 = .ok (.putfield 13, 3) := by decide +kernel
theorem dX10_init_21 : decode cX10_init 21 = .ok (.aload_n 0, 1) := by decide +kernel
theorem dX10_init_22 : decode cX10_init 22 = .ok (.iconst 4, 1) := by decide +kernel
theorem dX10_init_23 : decode cX10_init 23 = .ok (.newarray .int, 2) := by decide +kernel
theorem dX10_init_25 : decode cX10_init 25 = .ok (.dup, 1) := by decide +kernel
theorem dX10_init_26 : decode cX10_init 26 = .ok (.iconst 0, 1) := by decide +kernel
theorem dX10_init_27 : decode cX10_init 27 = .ok (.bipush (-6), 2) := by decide +kernel
theorem dX10_init_29 : decode cX10_init 29 = .ok (.iastore, 1) := by decide +kernel
theorem dX10_init_30 : decode cX10_init 30 = .ok (.dup, 1) := by decide +kernel
theorem dX10_init_31 : decode cX10_init 31 = .ok (.iconst 1, 1) := by decide +kernel
theorem dX10_init_32 : decode cX10_init 32 = .ok (.bipush (-6), 2) := by decide +kernel
theorem dX10_init_34 : decode cX10_init 34 = .ok (.iastore, 1) := by decide +kernel
theorem dX10_init_35 : decode cX10_init 35 = .ok (.dup, 1) := by decide +kernel
theorem dX10_init_36 : decode cX10_init 36 = .ok (.iconst 2, 1) := by decide +kernel
theorem dX10_init_37 : decode cX10_init 37 = .ok (.bipush (-6), 2) := by decide +kernel
theorem dX10_init_39 : decode cX10_init 39 = .ok (.iastore, 1) := by decide +kernel
theorem dX10_init_40 : decode cX10_init 40 = .ok (.dup, 1) := by decide +kernel
theorem dX10_init_41 : decode cX10_init 41 = .ok (.iconst 3, 1) := by decide +kernel
theorem dX10_init_42 : decode cX10_init 42 = .ok (.bipush (-6), 2) := by decide +kernel
theorem dX10_init_44 : decode cX10_init 44 = .ok (.iastore, 1) := by decide +kernel
theorem dX10_init_45 : decode cX10_init 45 = .ok (.putfield 16, 3) := by decide +kernel
theorem dX10_init_48 : decode cX10_init 48 = .ok (.aload_n 0, 1) := by decide +kernel
theorem dX10_init_49 : decode cX10_init 49 = .ok (.bipush 100, 2) := by decide +kernel
theorem dX10_init_51 : decode cX10_init 51 = .ok (.newarray .int, 2) := by decide +kernel
theorem dX10_init_53 : decode cX10_init 53 = .ok (.putfield 19, 3) := by decide +kernel
theorem dX10_init_56 : decode cX10_init 56 = .ok (.return_, 1) := by decide +kernel
theorem dX10_in_0 : decode cX10_in 0 = .ok (.iload_n 0, 1) := by decide +kernel
theorem dX10_in_1 : decode cX10_in 1 = .ok (.iload_n 1, 1) := by decide +kernel
theorem dX10_in_2 : decode cX10_in 2 = .ok (.if_icmp .lt 12, 3) := by decide +kernel
theorem dX10_in_5 : decode cX10_in 5 = .ok (.iload_n 0, 1) := by decide +kernel
theorem dX10_in_6 : decode cX10_in 6 = .ok (.iload_n 2, 1) := by decide +kernel
theorem dX10_in_7 : decode cX10_in 7 = .ok (.if_icmp .gt 7, 3) := by decide +kernel
theorem dX10_in_10 : decode cX10_in 10 = .ok (.iconst 1, 1) := by decide +kernel
theorem dX10_in_11 : decode cX10_in 11 = .ok (.goto 4, 3) := by decide +kernel
theorem dX10_in_14 : decode cX10_in 14 = .ok (.iconst 0, 1) := by decide +kernel
theorem dX10_in_15 : decode cX10_in 15 = .ok (.ireturn, 1) := by decide +kernel
theorem dX10_of_0 : decode cX10_of 0 = .ok (.aload_n 0, 1) := by decide +kernel
theorem dX10_of_1 : decode cX10_of 1 = .ok (.getfield 7, 3) := by decide +kernel
theorem dX10_of_4 : decode cX10_of 4 = .ok (.sipush 156, 3) := by decide +kernel
theorem dX10_of_7 : decode cX10_of 7 = .ok (.bipush 32, 2) := by decide +kernel
theorem dX10_of_9 : decode cX10_of 9 = .ok (.iload_n 1, 1) := by decide +kernel
theorem dX10_of_10 : decode cX10_of 10 = .ok (.imul, 1) := by decide +kernel
theorem dX10_of_11 : decode cX10_of 11 = .ok (.iadd, 1) := by decide +kernel
theorem dX10_of_12 : decode cX10_of 12 = .ok (.iload_n 2, 1) := by decide +kernel
theorem dX10_of_13 : decode cX10_of 13 = .ok (.iadd, 1) := by decide +kernel
theorem dX10_of_14 : decode cX10_of 14 = .ok (.iaload, 1) := by decide +kernel
theorem dX10_of_15 : decode cX10_of 15 = .ok (.ireturn, 1) := by decide +kernel
theorem dX10_lay_0 : decode cX10_lay 0 = .ok (.aload_n 0, 1) := by decide +kernel
theorem dX10_lay_1 : decode cX10_lay 1 = .ok (.getfield 7, 3) := by decide +kernel
theorem dX10_lay_4 : decode cX10_lay 4 = .ok (.sipush 156, 3) := by decide +kernel
theorem dX10_lay_7 : decode cX10_lay 7 = .ok (.bipush 32, 2) := by decide +kernel
theorem dX10_lay_9 : decode cX10_lay 9 = .ok (.iload_n 1, 1) := by decide +kernel
theorem dX10_lay_10 : decode cX10_lay 10 = .ok (.imul, 1) := by decide +kernel
theorem dX10_lay_11 : decode cX10_lay 11 = .ok (.iadd, 1) := by decide +kernel
theorem dX10_lay_12 : decode cX10_lay 12 = .ok (.iload_n 2, 1) := by decide +kernel
theorem dX10_lay_13 : decode cX10_lay 13 = .ok (.iadd, 1) := by decide +kernel
theorem dX10_lay_14 : decode cX10_lay 14 = .ok (.iload_n 3, 1) := by decide +kernel
theorem dX10_lay_15 : decode cX10_lay 15 = .ok (.iastore, 1) := by decide +kernel
theorem dX10_lay_16 : decode cX10_lay 16 = .ok (.return_, 1) := by decide +kernel
theorem dX10_isSlide_0 : decode cX10_isSlide 0 = .ok (.iload_n 1, 1) := by decide +kernel
theorem dX10_isSlide_1 : decode cX10_isSlide 1 = .ok (.iconst 0, 1) := by decide +kernel
theorem dX10_isSlide_2 : decode cX10_isSlide 2 = .ok (.bipush 9, 2) := by decide +kernel
theorem dX10_isSlide_4 : decode cX10_isSlide 4 = .ok (.invokestatic 22, 3) := by decide +kernel
theorem dX10_isSlide_7 : decode cX10_isSlide 7 = .ok (.ifCond .eq 17, 3) := by decide +kernel
theorem dX10_isSlide_10 : decode cX10_isSlide 10 = .ok (.aload_n 0, 1) := by decide +kernel
theorem dX10_isSlide_11 : decode cX10_isSlide 11 = .ok (.iload_n 1, 1) := by decide +kernel
theorem dX10_isSlide_12 : decode cX10_isSlide 12 = .ok (.iconst 0, 1) := by decide +kernel
theorem dX10_isSlide_13 : decode cX10_isSlide 13 = .ok (.invokevirtual 26, 3) := by decide +kernel
theorem dX10_isSlide_16 : decode cX10_isSlide 16 = .ok (.iconst 1, 1) := by decide +kernel
theorem dX10_isSlide_17 : decode cX10_isSlide 17 = .ok (.if_icmp .ne 7, 3) := by decide +kernel
theorem dX10_isSlide_20 : decode cX10_isSlide 20 = .ok (.iconst 1, 1) := by decide +kernel
theorem dX10_isSlide_21 : decode cX10_isSlide 21 = .ok (.goto 4, 3) := by decide +kernel
theorem dX10_isSlide_24 : decode cX10_isSlide 24 = .ok (.iconst 0, 1) := by decide +kernel
theorem dX10_isSlide_25 : decode cX10_isSlide 25 = .ok (.ireturn, 1) := by decide +kernel
theorem dX10_isItem_0 : decode cX10_isItem 0 = .ok (.aload_n 0, 1) := by decide +kernel
theorem dX10_isItem_1 : decode cX10_isItem 1 = .ok (.iload_n 1, 1) := by decide +kernel
theorem dX10_isItem_2 : decode cX10_isItem 2 = .ok (.invokevirtual 30, 3) := by decide +kernel
theorem dX10_isItem_5 : decode cX10_isItem 5 = .ok (.ifCond .eq 23, 3) := by decide +kernel
theorem dX10_isItem_8 : decode cX10_isItem 8 = .ok (.iload_n 2, 1) := by decide +kernel
theorem dX10_isItem_9 : decode cX10_isItem 9 = .ok (.iconst 0, 1) := by decide +kernel
theorem dX10_isItem_10 : decode cX10_isItem 10 = .ok (.aload_n 0, 1) := by decide +kernel
theorem dX10_isItem_11 : decode cX10_isItem 11 = .ok (.iload_n 1, 1) := by decide +kernel
theorem dX10_isItem_12 : decode cX10_isItem 12 = .ok (.iconst 3, 1) := by decide +kernel
theorem dX10_isItem_13 : decode cX10_isItem 13 = .ok (.invokevirtual 26, 3) := by decide +kernel
theorem dX10_isItem_16 : decode cX10_isItem 16 = .ok (.iconst 1, 1) := by decide +kernel
theorem dX10_isItem_17 : decode cX10_isItem 17 = .ok (.isub, 1) := by decide +kernel
theorem dX10_isItem_18 : decode cX10_isItem 18 = .ok (.invokestatic 22, 3) := by decide +kernel
theorem dX10_isItem_21 : decode cX10_isItem 21 = .ok (.ifCond .eq 7, 3) := by decide +kernel
theorem dX10_isItem_24 : decode cX10_isItem 24 = .ok (.iconst 1, 1) := by decide +kernel
theorem dX10_isItem_25 : decode cX10_isItem 25 = .ok (.goto 4, 3) := by decide +kernel
theorem dX10_isItem_28 : decode cX10_isItem 28 = .ok (.iconst 0, 1) := by decide +kernel
theorem dX10_isItem_29 : decode cX10_isItem 29 = .ok (.ireturn, 1) := by decide +kernel
theorem dX10_isShown_0 : decode cX10_isShown 0 = .ok (.aload_n 0, 1) := by decide +kernel
theorem dX10_isShown_1 : decode cX10_isShown 1 = .ok (.iload_n 1, 1) := by decide +kernel
theorem dX10_isShown_2 : decode cX10_isShown 2 = .ok (.iconst 1, 1) := by decide +kernel
theorem dX10_isShown_3 : decode cX10_isShown 3 = .ok (.invokevirtual 26, 3) := by decide +kernel
theorem dX10_isShown_6 : decode cX10_isShown 6 = .ok (.ifCond .ne 7, 3) := by decide +kernel
theorem dX10_isShown_9 : decode cX10_isShown 9 = .ok (.iconst 1, 1) := by decide +kernel
theorem dX10_isShown_10 : decode cX10_isShown 10 = .ok (.goto 4, 3) := by decide +kernel
theorem dX10_isShown_13 : decode cX10_isShown 13 = .ok (.iconst 0, 1) := by decide +kernel
theorem dX10_isShown_14 : decode cX10_isShown 14 = .ok (.ireturn, 1) := by decide +kernel
theorem dX10_isKey_0 : decode cX10_isKey 0 = .ok (.iload_n 1, 1) := by decide +kernel
theorem dX10_isKey_1 : decode cX10_isKey 1 = .ok (.iconst 0, 1) := by decide +kernel
theorem dX10_isKey_2 : decode cX10_isKey 2 = .ok (.bipush 9, 2) := by decide +kernel
theorem dX10_isKey_4 : decode cX10_isKey 4 = .ok (.invokestatic 22, 3) := by decide +kernel
theorem dX10_isKey_7 : decode cX10_isKey 7 = .ok (.ireturn, 1) := by decide +kernel
theorem dX10_finalStep_0 : decode cX10_finalStep 0 = .ok (.iconst 0, 1) := by decide +kernel
theorem dX10_finalStep_1 : decode cX10_finalStep 1 = .ok (.istore_n 2, 1) := by decide +kernel
theorem dX10_finalStep_2 : decode cX10_finalStep 2 = .ok (.iconst 0, 1) := by decide +kernel
theorem dX10_finalStep_3 : decode cX10_finalStep 3 = .ok (.istore_n 3, 1) := by decide +kernel
theorem dX10_finalStep_4 : decode cX10_finalStep 4 = .ok (.iload_n 3, 1) := by decide +kernel
theorem dX10_finalStep_5 : decode cX10_finalStep 5 = .ok (.aload_n 0, 1) := by decide +kernel
theorem dX10_finalStep_6 : decode cX10_finalStep 6 = .ok (.iload_n 1, 1) := by decide +kernel
theorem dX10_finalStep_7 : decode cX10_finalStep 7 = .ok (.iconst 3, 1) := by decide +kernel
theorem dX10_finalStep_8 : decode cX10_finalStep 8 = .ok (.invokevirtual 26, 3) := by decide +kernel
theorem dX10_finalStep_11 : decode cX10_finalStep 11 = .ok (.if_icmp .ge 70, 3) := by decide +kernel
theorem dX10_finalStep_14 : decode cX10_finalStep 14 = .ok (.aload_n 0, 1) := by decide +kernel
theorem dX10_finalStep_15 : decode cX10_finalStep 15 = .ok (.iload_n 1, 1) := by decide +kernel
theorem dX10_finalStep_16 : decode cX10_finalStep 16 = .ok (.iconst 4, 1) := by decide +kernel
theorem dX10_finalStep_17 : decode cX10_finalStep 17 = .ok (.iconst 3, 1) := by decide +kernel
theorem dX10_finalStep_18 : decode cX10_finalStep 18 = .ok (.iload_n 3, 1) := by decide +kernel
theorem dX10_finalStep_19 : decode cX10_finalStep 19 = .ok (.imul, 1) := by decide +kernel
theorem dX10_finalStep_20 : decode cX10_finalStep 20 = .ok (.iadd, 1) := by decide +kernel
theorem dX10_finalStep_21 : decode cX10_finalStep 21 = .ok (.invokevirtual 26, 3) := by decide +kernel
theorem dX10_finalStep_24 : decode cX10_finalStep 24 = .ok (.istore 4, 2) := by decide +kernel
theorem dX10_finalStep_26 : decode cX10_finalStep 26 = .ok (.aload_n 0, 1) := by decide +kernel
theorem dX10_finalStep_27 : decode cX10_finalStep 27 = .ok (.iload_n 1, 1) := by decide +kernel
theorem dX10_finalStep_28 : decode cX10_finalStep 28 = .ok (.iconst 4, 1) := by decide +kernel
theorem dX10_finalStep_29 : decode cX10_finalStep 29 = .ok (.iconst 3, 1) := by decide +kernel
theorem dX10_finalStep_30 : decode cX10_finalStep 30 = .ok (.iload_n 3, 1) := by decide +kernel
theorem dX10_finalStep_31 : decode cX10_finalStep 31 = .ok (.imul, 1) := by decide +kernel
theorem dX10_finalStep_32 : decode cX10_finalStep 32 = .ok (.iadd, 1) := by decide +kernel
theorem dX10_finalStep_33 : decode cX10_finalStep 33 = .ok (.iconst 1, 1) := by decide +kernel
theorem dX10_finalStep_34 : decode cX10_finalStep 34 = .ok (.iadd, 1) := by decide +kernel
theorem dX10_finalStep_35 : decode cX10_finalStep 35 = .ok (.invokevirtual 26, 3) := by decide +kernel
theorem dX10_finalStep_38 : decode cX10_finalStep 38 = .ok (.iconst 1, 1) := by decide +kernel
theorem dX10_finalStep_39 : decode cX10_finalStep 39 = .ok (.iadd, 1) := by decide +kernel
theorem dX10_finalStep_40 : decode cX10_finalStep 40 = .ok (.istore 5, 2) := by decide +kernel
theorem dX10_finalStep_42 : decode cX10_finalStep 42 = .ok (.iload 4, 2) := by decide +kernel
theorem dX10_finalStep_44 : decode cX10_finalStep 44 = .ok (.iload_n 2, 1) := by decide +kernel
theorem dX10_finalStep_45 : decode cX10_finalStep 45 = .ok (.if_icmp .le 8, 3) := by decide +kernel
theorem dX10_finalStep_48 : decode cX10_finalStep 48 = .ok (.iload 4, 2) := by decide +kernel
theorem dX10_finalStep_50 : decode cX10_finalStep 50 = .ok (.goto 4, 3) := by decide +kernel
theorem dX10_finalStep_53 : decode cX10_finalStep 53 = .ok (.iload_n 2, 1) := by decide +kernel
theorem dX10_finalStep_54 : decode cX10_finalStep 54 = .ok (.istore_n 2, 1) := by decide +kernel
theorem dX10_finalStep_55 : decode cX10_finalStep 55 = .ok (.iload 5, 2) := by decide +kernel
theorem dX10_finalStep_57 : decode cX10_finalStep 57 = .ok (.bipush 10, 2) := by decide +kernel
theorem dX10_finalStep_59 : decode cX10_finalStep 59 = .ok (.if_icmp .ge 14, 3) := by decide +kernel
theorem dX10_finalStep_62 : decode cX10_finalStep 62 = .ok (.iload 5, 2) := by decide +kernel
theorem dX10_finalStep_64 : decode cX10_finalStep 64 = .ok (.iload_n 2, 1) := by decide +kernel
theorem dX10_finalStep_65 : decode cX10_finalStep 65 = .ok (.if_icmp .le 8, 3) := by decide +kernel
theorem dX10_finalStep_68 : decode cX10_finalStep 68 = .ok (.iload 5, 2) := by decide +kernel
theorem dX10_finalStep_70 : decode cX10_finalStep 70 = .ok (.goto 4, 3) := by decide +kernel
theorem dX10_finalStep_73 : decode cX10_finalStep 73 = .ok (.iload_n 2, 1) := by decide +kernel
theorem dX10_finalStep_74 : decode cX10_finalStep 74 = .ok (.istore_n 2, 1) := by decide +kernel
theorem dX10_finalStep_75 : decode cX10_finalStep 75 = .ok (.iinc 3 1, 3) := by decide +kernel
theorem dX10_finalStep_78 : decode cX10_finalStep 78 = .ok (.goto (-74), 3) := by decide +kernel
theorem dX10_finalStep_81 : decode cX10_finalStep 81 = .ok (.iload_n 2, 1) := by decide +kernel
theorem dX10_finalStep_82 : decode cX10_finalStep 82 = .ok (.ireturn, 1) := by decide +kernel
theorem dX10_seen_0 : decode cX10_seen 0 = .ok (.iconst 0, 1) := by decide +kernel
theorem dX10_seen_1 : decode cX10_seen 1 = .ok (.istore_n 3, 1) := by decide +kernel
theorem dX10_seen_2 : decode cX10_seen 2 = .ok (.iconst 0, 1) := by decide +kernel
theorem dX10_seen_3 : decode cX10_seen 3 = .ok (.istore 4, 2) := by decide +kernel
theorem dX10_seen_5 : decode cX10_seen 5 = .ok (.iload 4, 2) := by decide +kernel
theorem dX10_seen_7 : decode cX10_seen 7 = .ok (.aload_n 0, 1) := by decide +kernel
theorem dX10_seen_8 : decode cX10_seen 8 = .ok (.iload_n 1, 1) := by decide +kernel
theorem dX10_seen_9 : decode cX10_seen 9 = .ok (.iconst 3, 1) := by decide +kernel
theorem dX10_seen_10 : decode cX10_seen 10 = .ok (.invokevirtual 26, 3) := by decide +kernel
theorem dX10_seen_13 : decode cX10_seen 13 = .ok (.if_icmp .ge 74, 3) := by decide +kernel
theorem dX10_seen_16 : decode cX10_seen 16 = .ok (.aload_n 0, 1) := by decide +kernel
theorem dX10_seen_17 : decode cX10_seen 17 = .ok (.iload_n 1, 1) := by decide +kernel
theorem dX10_seen_18 : decode cX10_seen 18 = .ok (.iconst 4, 1) := by decide +kernel
theorem dX10_seen_19 : decode cX10_seen 19 = .ok (.iconst 3, 1) := by decide +kernel
theorem dX10_seen_20 : decode cX10_seen 20 = .ok (.iload 4, 2) := by decide +kernel
theorem dX10_seen_22 : decode cX10_seen 22 = .ok (.imul, 1) := by decide +kernel
theorem dX10_seen_23 : decode cX10_seen 23 = .ok (.iadd, 1) := by decide +kernel
theorem dX10_seen_24 : decode cX10_seen 24 = .ok (.iconst 1, 1) := by decide +kernel
theorem dX10_seen_25 : decode cX10_seen 25 = .ok (.iadd, 1) := by decide +kernel
theorem dX10_seen_26 : decode cX10_seen 26 = .ok (.invokevirtual 26, 3) := by decide +kernel
theorem dX10_seen_29 : decode cX10_seen 29 = .ok (.istore 5, 2) := by decide +kernel
theorem dX10_seen_31 : decode cX10_seen 31 = .ok (.iload_n 2, 1) := by decide +kernel
theorem dX10_seen_32 : decode cX10_seen 32 = .ok (.aload_n 0, 1) := by decide +kernel
theorem dX10_seen_33 : decode cX10_seen 33 = .ok (.iload_n 1, 1) := by decide +kernel
theorem dX10_seen_34 : decode cX10_seen 34 = .ok (.iconst 4, 1) := by decide +kernel
theorem dX10_seen_35 : decode cX10_seen 35 = .ok (.iconst 3, 1) := by decide +kernel
theorem dX10_seen_36 : decode cX10_seen 36 = .ok (.iload 4, 2) := by decide +kernel
theorem dX10_seen_38 : decode cX10_seen 38 = .ok (.imul, 1) := by decide +kernel
theorem dX10_seen_39 : decode cX10_seen 39 = .ok (.iadd, 1) := by decide +kernel
theorem dX10_seen_40 : decode cX10_seen 40 = .ok (.invokevirtual 26, 3) := by decide +kernel
theorem dX10_seen_43 : decode cX10_seen 43 = .ok (.if_icmp .lt 19, 3) := by decide +kernel
theorem dX10_seen_46 : decode cX10_seen 46 = .ok (.iload 5, 2) := by decide +kernel
theorem dX10_seen_48 : decode cX10_seen 48 = .ok (.iconst (-1), 1) := by decide +kernel
theorem dX10_seen_49 : decode cX10_seen 49 = .ok (.if_icmp .eq 9, 3) := by decide +kernel
theorem dX10_seen_52 : decode cX10_seen 52 = .ok (.iload_n 2, 1) := by decide +kernel
theorem dX10_seen_53 : decode cX10_seen 53 = .ok (.iload 5, 2) := by decide +kernel
theorem dX10_seen_55 : decode cX10_seen 55 = .ok (.if_icmp .gt 7, 3) := by decide +kernel
theorem dX10_seen_58 : decode cX10_seen 58 = .ok (.iconst 1, 1) := by decide +kernel
theorem dX10_seen_59 : decode cX10_seen 59 = .ok (.goto 4, 3) := by decide +kernel
theorem dX10_seen_62 : decode cX10_seen 62 = .ok (.iconst 0, 1) := by decide +kernel
theorem dX10_seen_63 : decode cX10_seen 63 = .ok (.istore 6, 2) := by decide +kernel
theorem dX10_seen_65 : decode cX10_seen 65 = .ok (.iload_n 3, 1) := by decide +kernel
theorem dX10_seen_66 : decode cX10_seen 66 = .ok (.iload 6, 2) := by decide +kernel
theorem dX10_seen_68 : decode cX10_seen 68 = .ok (.ifCond .eq 10, 3) := by decide +kernel
theorem dX10_seen_71 : decode cX10_seen 71 = .ok (.iconst 1, 1) := by decide +kernel
theorem dX10_seen_72 : decode cX10_seen 72 = .ok (.iload 4, 2) := by decide +kernel
theorem dX10_seen_74 : decode cX10_seen 74 = .ok (.ishl, 1) := by decide +kernel
theorem dX10_seen_75 : decode cX10_seen 75 = .ok (.goto 4, 3) := by decide +kernel
theorem dX10_seen_78 : decode cX10_seen 78 = .ok (.iconst 0, 1) := by decide +kernel
theorem dX10_seen_79 : decode cX10_seen 79 = .ok (.ior, 1) := by decide +kernel
theorem dX10_seen_80 : decode cX10_seen 80 = .ok (.istore_n 3, 1) := by decide +kernel
theorem dX10_seen_81 : decode cX10_seen 81 = .ok (.iinc 4 1, 3) := by decide +kernel
theorem dX10_seen_84 : decode cX10_seen 84 = .ok (.goto (-79), 3) := by decide +kernel
theorem dX10_seen_87 : decode cX10_seen 87 = .ok (.iload_n 3, 1) := by decide +kernel
theorem dX10_seen_88 : decode cX10_seen 88 = .ok (.ireturn, 1) := by decide +kernel
theorem dX10_links_0 : decode cX10_links 0 = .ok (.iconst 0, 1) := by decide +kernel
theorem dX10_links_1 : decode cX10_links 1 = .ok (.istore_n 2, 1) := by decide +kernel
theorem dX10_links_2 : decode cX10_links 2 = .ok (.iconst 0, 1) := by decide +kernel
theorem dX10_links_3 : decode cX10_links 3 = .ok (.istore_n 3, 1) := by decide +kernel
theorem dX10_links_4 : decode cX10_links 4 = .ok (.iload_n 3, 1) := by decide +kernel
theorem dX10_links_5 : decode cX10_links 5 = .ok (.bipush 10, 2) := by decide +kernel
theorem dX10_links_7 : decode cX10_links 7 = .ok (.if_icmp .ge 31, 3) := by decide +kernel
theorem dX10_links_10 : decode cX10_links 10 = .ok (.iload_n 2, 1) := by decide +kernel
theorem dX10_links_11 : decode cX10_links 11 = .ok (.aload_n 0, 1) := by decide +kernel
theorem dX10_links_12 : decode cX10_links 12 = .ok (.iload_n 1, 1) := by decide +kernel
theorem dX10_links_13 : decode cX10_links 13 = .ok (.bipush 22, 2) := by decide +kernel
theorem dX10_links_15 : decode cX10_links 15 = .ok (.iload_n 3, 1) := by decide +kernel
theorem dX10_links_16 : decode cX10_links 16 = .ok (.iadd, 1) := by decide +kernel
theorem dX10_links_17 : decode cX10_links 17 = .ok (.invokevirtual 26, 3) := by decide +kernel
theorem dX10_links_20 : decode cX10_links 20 = .ok (.bipush (-6), 2) := by decide +kernel
theorem dX10_links_22 : decode cX10_links 22 = .ok (.if_icmp .ne 7, 3) := by decide +kernel
theorem dX10_links_25 : decode cX10_links 25 = .ok (.iconst 0, 1) := by decide +kernel
theorem dX10_links_26 : decode cX10_links 26 = .ok (.goto 4, 3) := by decide +kernel
theorem dX10_links_29 : decode cX10_links 29 = .ok (.iconst 1, 1) := by decide +kernel
theorem dX10_links_30 : decode cX10_links 30 = .ok (.iadd, 1) := by decide +kernel
theorem dX10_links_31 : decode cX10_links 31 = .ok (.istore_n 2, 1) := by decide +kernel
theorem dX10_links_32 : decode cX10_links 32 = .ok (.iinc 3 1, 3) := by decide +kernel
theorem dX10_links_35 : decode cX10_links 35 = .ok (.goto (-31), 3) := by decide +kernel
theorem dX10_links_38 : decode cX10_links 38 = .ok (.iload_n 2, 1) := by decide +kernel
theorem dX10_links_39 : decode cX10_links 39 = .ok (.ireturn, 1) := by decide +kernel
theorem dX10_placeOf_0 : decode cX10_placeOf 0 = .ok (.iconst 0, 1) := by decide +kernel
theorem dX10_placeOf_1 : decode cX10_placeOf 1 = .ok (.istore_n 2, 1) := by decide +kernel
theorem dX10_placeOf_2 : decode cX10_placeOf 2 = .ok (.aload_n 0, 1) := by decide +kernel
theorem dX10_placeOf_3 : decode cX10_placeOf 3 = .ok (.getfield 7, 3) := by decide +kernel
theorem dX10_placeOf_6 : decode cX10_placeOf 6 = .ok (.iconst 1, 1) := by decide +kernel
theorem dX10_placeOf_7 : decode cX10_placeOf 7 = .ok (.iload_n 2, 1) := by decide +kernel
theorem dX10_placeOf_8 : decode cX10_placeOf 8 = .ok (.iadd, 1) := by decide +kernel
theorem dX10_placeOf_9 : decode cX10_placeOf 9 = .ok (.iaload, 1) := by decide +kernel
theorem dX10_placeOf_10 : decode cX10_placeOf 10 = .ok (.iload_n 1, 1) := by decide +kernel
theorem dX10_placeOf_11 : decode cX10_placeOf 11 = .ok (.if_icmp .eq 9, 3) := by decide +kernel
theorem dX10_placeOf_14 : decode cX10_placeOf 14 = .ok (.iinc 2 1, 3) := by decide +kernel
theorem dX10_placeOf_17 : decode cX10_placeOf 17 = .ok (.goto (-15), 3) := by decide +kernel
theorem dX10_placeOf_20 : decode cX10_placeOf 20 = .ok (.iload_n 2, 1) := by decide +kernel
theorem dX10_placeOf_21 : decode cX10_placeOf 21 = .ok (.ireturn, 1) := by decide +kernel
theorem dX10_shownFrom_0 : decode cX10_shownFrom 0 = .ok (.iload_n 1, 1) := by decide +kernel
theorem dX10_shownFrom_1 : decode cX10_shownFrom 1 = .ok (.istore_n 2, 1) := by decide +kernel
theorem dX10_shownFrom_2 : decode cX10_shownFrom 2 = .ok (.iload_n 2, 1) := by decide +kernel
theorem dX10_shownFrom_3 : decode cX10_shownFrom 3 = .ok (.aload_n 0, 1) := by decide +kernel
theorem dX10_shownFrom_4 : decode cX10_shownFrom 4 = .ok (.getfield 7, 3) := by decide +kernel
theorem dX10_shownFrom_7 : decode cX10_shownFrom 7 = .ok (.iconst 0, 1) := by decide +kernel
theorem dX10_shownFrom_8 : decode cX10_shownFrom 8 = .ok (.iaload, 1) := by decide +kernel
theorem dX10_shownFrom_9 : decode cX10_shownFrom 9 = .ok (.if_icmp .ge 33, 3) := by decide +kernel
theorem dX10_shownFrom_12 : decode cX10_shownFrom 12 = .ok (.aload_n 0, 1) := by decide +kernel
theorem dX10_shownFrom_13 : decode cX10_shownFrom 13 = .ok (.aload_n 0, 1) := by decide +kernel
theorem dX10_shownFrom_14 : decode cX10_shownFrom 14 = .ok (.getfield 7, 3) := by decide +kernel
theorem dX10_shownFrom_17 : decode cX10_shownFrom 17 = .ok (.iconst 1, 1) := by decide +kernel
theorem dX10_shownFrom_18 : decode cX10_shownFrom 18 = .ok (.iload_n 2, 1) := by decide +kernel
theorem dX10_shownFrom_19 : decode cX10_shownFrom 19 = .ok (.iadd, 1) := by decide +kernel
theorem dX10_shownFrom_20 : decode cX10_shownFrom 20 = .ok (.iaload, 1) := by decide +kernel
theorem dX10_shownFrom_21 : decode cX10_shownFrom 21 = .ok (.invokevirtual 34, 3) := by decide +kernel
theorem dX10_shownFrom_24 : decode cX10_shownFrom 24 = .ok (.ifCond .eq 12, 3) := by decide +kernel
theorem dX10_shownFrom_27 : decode cX10_shownFrom 27 = .ok (.aload_n 0, 1) := by decide +kernel
theorem dX10_shownFrom_28 : decode cX10_shownFrom 28 = .ok (.getfield 7, 3) := by decide +kernel
theorem dX10_shownFrom_31 : decode cX10_shownFrom 31 = .ok (.iconst 1, 1) := by decide +kernel
theorem dX10_shownFrom_32 : decode cX10_shownFrom 32 = .ok (.iload_n 2, 1) := by decide +kernel
theorem dX10_shownFrom_33 : decode cX10_shownFrom 33 = .ok (.iadd, 1) := by decide +kernel
theorem dX10_shownFrom_34 : decode cX10_shownFrom 34 = .ok (.iaload, 1) := by decide +kernel
theorem dX10_shownFrom_35 : decode cX10_shownFrom 35 = .ok (.ireturn, 1) := by decide +kernel
theorem dX10_shownFrom_36 : decode cX10_shownFrom 36 = .ok (.iinc 2 1, 3) := by decide +kernel
theorem dX10_shownFrom_39 : decode cX10_shownFrom 39 = .ok (.goto (-37), 3) := by decide +kernel
theorem dX10_shownFrom_42 : decode cX10_shownFrom 42 = .ok (.bipush (-6), 2) := by decide +kernel
theorem dX10_shownFrom_44 : decode cX10_shownFrom 44 = .ok (.ireturn, 1) := by decide +kernel
theorem dX10_nextOf_0 : decode cX10_nextOf 0 = .ok (.aload_n 0, 1) := by decide +kernel
theorem dX10_nextOf_1 : decode cX10_nextOf 1 = .ok (.aload_n 0, 1) := by decide +kernel
theorem dX10_nextOf_2 : decode cX10_nextOf 2 = .ok (.iload_n 1, 1) := by decide +kernel
theorem dX10_nextOf_3 : decode cX10_nextOf 3 = .ok (.invokevirtual 37, 3) := by decide +kernel
theorem dX10_nextOf_6 : decode cX10_nextOf 6 = .ok (.iconst 1, 1) := by decide +kernel
theorem dX10_nextOf_7 : decode cX10_nextOf 7 = .ok (.iadd, 1) := by decide +kernel
theorem dX10_nextOf_8 : decode cX10_nextOf 8 = .ok (.invokevirtual 41, 3) := by decide +kernel
theorem dX10_nextOf_11 : decode cX10_nextOf 11 = .ok (.ireturn, 1) := by decide +kernel
theorem dX10_isOver_0 : decode cX10_isOver 0 = .ok (.aload_n 0, 1) := by decide +kernel
theorem dX10_isOver_1 : decode cX10_isOver 1 = .ok (.getfield 7, 3) := by decide +kernel
theorem dX10_isOver_4 : decode cX10_isOver 4 = .ok (.bipush 28, 2) := by decide +kernel
theorem dX10_isOver_6 : decode cX10_isOver 6 = .ok (.iaload, 1) := by decide +kernel
theorem dX10_isOver_7 : decode cX10_isOver 7 = .ok (.ifCond .le 24, 3) := by decide +kernel
theorem dX10_isOver_10 : decode cX10_isOver 10 = .ok (.aload_n 0, 1) := by decide +kernel
theorem dX10_isOver_11 : decode cX10_isOver 11 = .ok (.getfield 7, 3) := by decide +kernel
theorem dX10_isOver_14 : decode cX10_isOver 14 = .ok (.bipush 32, 2) := by decide +kernel
theorem dX10_isOver_16 : decode cX10_isOver 16 = .ok (.iaload, 1) := by decide +kernel
theorem dX10_isOver_17 : decode cX10_isOver 17 = .ok (.aload_n 0, 1) := by decide +kernel
theorem dX10_isOver_18 : decode cX10_isOver 18 = .ok (.getfield 7, 3) := by decide +kernel
theorem dX10_isOver_21 : decode cX10_isOver 21 = .ok (.bipush 28, 2) := by decide +kernel
theorem dX10_isOver_23 : decode cX10_isOver 23 = .ok (.iaload, 1) := by decide +kernel
theorem dX10_isOver_24 : decode cX10_isOver 24 = .ok (.if_icmp .lt 7, 3) := by decide +kernel
theorem dX10_isOver_27 : decode cX10_isOver 27 = .ok (.iconst 1, 1) := by decide +kernel
theorem dX10_isOver_28 : decode cX10_isOver 28 = .ok (.goto 4, 3) := by decide +kernel
theorem dX10_isOver_31 : decode cX10_isOver 31 = .ok (.iconst 0, 1) := by decide +kernel
theorem dX10_isOver_32 : decode cX10_isOver 32 = .ok (.ireturn, 1) := by decide +kernel
theorem dX10_isOn_0 : decode cX10_isOn 0 = .ok (.aload_n 0, 1) := by decide +kernel
theorem dX10_isOn_1 : decode cX10_isOn 1 = .ok (.getfield 7, 3) := by decide +kernel
theorem dX10_isOn_4 : decode cX10_isOn 4 = .ok (.bipush 29, 2) := by decide +kernel
theorem dX10_isOn_6 : decode cX10_isOn 6 = .ok (.iaload, 1) := by decide +kernel
theorem dX10_isOn_7 : decode cX10_isOn 7 = .ok (.iconst 1, 1) := by decide +kernel
theorem dX10_isOn_8 : decode cX10_isOn 8 = .ok (.if_icmp .ne 14, 3) := by decide +kernel
theorem dX10_isOn_11 : decode cX10_isOn 11 = .ok (.aload_n 0, 1) := by decide +kernel
theorem dX10_isOn_12 : decode cX10_isOn 12 = .ok (.invokevirtual 44, 3) := by decide +kernel
theorem dX10_isOn_15 : decode cX10_isOn 15 = .ok (.ifCond .ne 7, 3) := by decide +kernel
theorem dX10_isOn_18 : decode cX10_isOn 18 = .ok (.iconst 1, 1) := by decide +kernel
theorem dX10_isOn_19 : decode cX10_isOn 19 = .ok (.goto 4, 3) := by decide +kernel
theorem dX10_isOn_22 : decode cX10_isOn 22 = .ok (.iconst 0, 1) := by decide +kernel
theorem dX10_isOn_23 : decode cX10_isOn 23 = .ok (.ireturn, 1) := by decide +kernel
theorem dX10_canForward_0 : decode cX10_canForward 0 = .ok (.aload_n 0, 1) := by decide +kernel
theorem dX10_canForward_1 : decode cX10_canForward 1 = .ok (.getfield 7, 3) := by decide +kernel
theorem dX10_canForward_4 : decode cX10_canForward 4 = .ok (.bipush 31, 2) := by decide +kernel
theorem dX10_canForward_6 : decode cX10_canForward 6 = .ok (.iaload, 1) := by decide +kernel
theorem dX10_canForward_7 : decode cX10_canForward 7 = .ok (.aload_n 0, 1) := by decide +kernel
theorem dX10_canForward_8 : decode cX10_canForward 8 = .ok (.aload_n 0, 1) := by decide +kernel
theorem dX10_canForward_9 : decode cX10_canForward 9 = .ok (.getfield 7, 3) := by decide +kernel
theorem dX10_canForward_12 : decode cX10_canForward 12 = .ok (.bipush 30, 2) := by decide +kernel
theorem dX10_canForward_14 : decode cX10_canForward 14 = .ok (.iaload, 1) := by decide +kernel
theorem dX10_canForward_15 : decode cX10_canForward 15 = .ok (.invokevirtual 48, 3) := by decide +kernel
theorem dX10_canForward_18 : decode cX10_canForward 18 = .ok (.if_icmp .lt 19, 3) := by decide +kernel
theorem dX10_canForward_21 : decode cX10_canForward 21 = .ok (.aload_n 0, 1) := by decide +kernel
theorem dX10_canForward_22 : decode cX10_canForward 22 = .ok (.aload_n 0, 1) := by decide +kernel
theorem dX10_canForward_23 : decode cX10_canForward 23 = .ok (.getfield 7, 3) := by decide +kernel
theorem dX10_canForward_26 : decode cX10_canForward 26 = .ok (.bipush 30, 2) := by decide +kernel
theorem dX10_canForward_28 : decode cX10_canForward 28 = .ok (.iaload, 1) := by decide +kernel
theorem dX10_canForward_29 : decode cX10_canForward 29 = .ok (.invokevirtual 51, 3) := by decide +kernel
theorem dX10_canForward_32 : decode cX10_canForward 32 = .ok (.bipush (-6), 2) := by decide +kernel
theorem dX10_canForward_34 : decode cX10_canForward 34 = .ok (.if_icmp .eq 7, 3) := by decide +kernel
theorem dX10_canForward_37 : decode cX10_canForward 37 = .ok (.iconst 1, 1) := by decide +kernel
theorem dX10_canForward_38 : decode cX10_canForward 38 = .ok (.goto 4, 3) := by decide +kernel
theorem dX10_canForward_41 : decode cX10_canForward 41 = .ok (.iconst 0, 1) := by decide +kernel
theorem dX10_canForward_42 : decode cX10_canForward 42 = .ok (.ireturn, 1) := by decide +kernel
theorem dX10_comes_0 : decode cX10_comes 0 = .ok (.iconst 0, 1) := by decide +kernel
theorem dX10_comes_1 : decode cX10_comes 1 = .ok (.istore 4, 2) := by decide +kernel
theorem dX10_comes_3 : decode cX10_comes 3 = .ok (.iload 4, 2) := by decide +kernel
theorem dX10_comes_5 : decode cX10_comes 5 = .ok (.bipush 117, 2) := by decide +kernel
theorem dX10_comes_7 : decode cX10_comes 7 = .ok (.if_icmp .ge 43, 3) := by decide +kernel
theorem dX10_comes_10 : decode cX10_comes 10 = .ok (.aload_n 0, 1) := by decide +kernel
theorem dX10_comes_11 : decode cX10_comes 11 = .ok (.getfield 7, 3) := by decide +kernel
theorem dX10_comes_14 : decode cX10_comes 14 = .ok (.bipush 35, 2) := by decide +kernel
theorem dX10_comes_16 : decode cX10_comes 16 = .ok (.iaload, 1) := by decide +kernel
theorem dX10_comes_17 : decode cX10_comes 17 = .ok (.bipush 40, 2) := by decide +kernel
theorem dX10_comes_19 : decode cX10_comes 19 = .ok (.if_icmp .ne 31, 3) := by decide +kernel
theorem dX10_comes_22 : decode cX10_comes 22 = .ok (.aload_n 0, 1) := by decide +kernel
theorem dX10_comes_23 : decode cX10_comes 23 = .ok (.getfield 7, 3) := by decide +kernel
theorem dX10_comes_26 : decode cX10_comes 26 = .ok (.bipush 36, 2) := by decide +kernel
theorem dX10_comes_28 : decode cX10_comes 28 = .ok (.iload 4, 2) := by decide +kernel
theorem dX10_comes_30 : decode cX10_comes 30 = .ok (.iadd, 1) := by decide +kernel
theorem dX10_comes_31 : decode cX10_comes 31 = .ok (.aload_n 0, 1) := by decide +kernel
theorem dX10_comes_32 : decode cX10_comes 32 = .ok (.getfield 7, 3) := by decide +kernel
theorem dX10_comes_35 : decode cX10_comes 35 = .ok (.bipush 36, 2) := by decide +kernel
theorem dX10_comes_37 : decode cX10_comes 37 = .ok (.iload 4, 2) := by decide +kernel
theorem dX10_comes_39 : decode cX10_comes 39 = .ok (.iadd, 1) := by decide +kernel
theorem dX10_comes_40 : decode cX10_comes 40 = .ok (.iconst 3, 1) := by decide +kernel
theorem dX10_comes_41 : decode cX10_comes 41 = .ok (.iadd, 1) := by decide +kernel
theorem dX10_comes_42 : decode cX10_comes 42 = .ok (.iaload, 1) := by decide +kernel
theorem dX10_comes_43 : decode cX10_comes 43 = .ok (.iastore, 1) := by decide +kernel
theorem dX10_comes_44 : decode cX10_comes 44 = .ok (.iinc 4 1, 3) := by decide +kernel
theorem dX10_comes_47 : decode cX10_comes 47 = .ok (.goto (-44), 3) := by decide +kernel
theorem dX10_comes_50 : decode cX10_comes 50 = .ok (.aload_n 0, 1) := by decide +kernel
theorem dX10_comes_51 : decode cX10_comes 51 = .ok (.getfield 7, 3) := by decide +kernel
theorem dX10_comes_54 : decode cX10_comes 54 = .ok (.bipush 35, 2) := by decide +kernel
theorem dX10_comes_56 : decode cX10_comes 56 = .ok (.dup2, 1) := by decide +kernel
theorem dX10_comes_57 : decode cX10_comes 57 = .ok (.iaload, 1) := by decide +kernel
theorem dX10_comes_58 : decode cX10_comes 58 = .ok (.aload_n 0, 1) := by decide +kernel
theorem dX10_comes_59 : decode cX10_comes 59 = .ok (.getfield 7, 3) := by decide +kernel
theorem dX10_comes_62 : decode cX10_comes 62 = .ok (.bipush 35, 2) := by decide +kernel
theorem dX10_comes_64 : decode cX10_comes 64 = .ok (.iaload, 1) := by decide +kernel
theorem dX10_comes_65 : decode cX10_comes 65 = .ok (.bipush 40, 2) := by decide +kernel
theorem dX10_comes_67 : decode cX10_comes 67 = .ok (.if_icmp .ne 7, 3) := by decide +kernel
theorem dX10_comes_70 : decode cX10_comes 70 = .ok (.iconst 1, 1) := by decide +kernel
theorem dX10_comes_71 : decode cX10_comes 71 = .ok (.goto 4, 3) := by decide +kernel
theorem dX10_comes_74 : decode cX10_comes 74 = .ok (.iconst 0, 1) := by decide +kernel
theorem dX10_comes_75 : decode cX10_comes 75 = .ok (.isub, 1) := by decide +kernel
theorem dX10_comes_76 : decode cX10_comes 76 = .ok (.iastore, 1) := by decide +kernel
theorem dX10_comes_77 : decode cX10_comes 77 = .ok (.bipush 36, 2) := by decide +kernel
theorem dX10_comes_79 : decode cX10_comes 79 = .ok (.iconst 3, 1) := by decide +kernel
theorem dX10_comes_80 : decode cX10_comes 80 = .ok (.aload_n 0, 1) := by decide +kernel
theorem dX10_comes_81 : decode cX10_comes 81 = .ok (.getfield 7, 3) := by decide +kernel
theorem dX10_comes_84 : decode cX10_comes 84 = .ok (.bipush 35, 2) := by decide +kernel
theorem dX10_comes_86 : decode cX10_comes 86 = .ok (.iaload, 1) := by decide +kernel
theorem dX10_comes_87 : decode cX10_comes 87 = .ok (.imul, 1) := by decide +kernel
theorem dX10_comes_88 : decode cX10_comes 88 = .ok (.iadd, 1) := by decide +kernel
theorem dX10_comes_89 : decode cX10_comes 89 = .ok (.istore 4, 2) := by decide +kernel
theorem dX10_comes_91 : decode cX10_comes 91 = .ok (.aload_n 0, 1) := by decide +kernel
theorem dX10_comes_92 : decode cX10_comes 92 = .ok (.getfield 7, 3) := by decide +kernel
theorem dX10_comes_95 : decode cX10_comes 95 = .ok (.iload 4, 2) := by decide +kernel
theorem dX10_comes_97 : decode cX10_comes 97 = .ok (.aload_n 0, 1) := by decide +kernel
theorem dX10_comes_98 : decode cX10_comes 98 = .ok (.getfield 7, 3) := by decide +kernel
theorem dX10_comes_101 : decode cX10_comes 101 = .ok (.bipush 30, 2) := by decide +kernel
theorem dX10_comes_103 : decode cX10_comes 103 = .ok (.iaload, 1) := by decide +kernel
theorem dX10_comes_104 : decode cX10_comes 104 = .ok (.iastore, 1) := by decide +kernel
theorem dX10_comes_105 : decode cX10_comes 105 = .ok (.aload_n 0, 1) := by decide +kernel
theorem dX10_comes_106 : decode cX10_comes 106 = .ok (.getfield 7, 3) := by decide +kernel
theorem dX10_comes_109 : decode cX10_comes 109 = .ok (.iload 4, 2) := by decide +kernel
theorem dX10_comes_111 : decode cX10_comes 111 = .ok (.iconst 1, 1) := by decide +kernel
theorem dX10_comes_112 : decode cX10_comes 112 = .ok (.iadd, 1) := by decide +kernel
theorem dX10_comes_113 : decode cX10_comes 113 = .ok (.aload_n 0, 1) := by decide +kernel
theorem dX10_comes_114 : decode cX10_comes 114 = .ok (.getfield 7, 3) := by decide +kernel
theorem dX10_comes_117 : decode cX10_comes 117 = .ok (.bipush 31, 2) := by decide +kernel
theorem dX10_comes_119 : decode cX10_comes 119 = .ok (.iaload, 1) := by decide +kernel
theorem dX10_comes_120 : decode cX10_comes 120 = .ok (.iastore, 1) := by decide +kernel
theorem dX10_comes_121 : decode cX10_comes 121 = .ok (.aload_n 0, 1) := by decide +kernel
theorem dX10_comes_122 : decode cX10_comes 122 = .ok (.getfield 7, 3) := by decide +kernel
theorem dX10_comes_125 : decode cX10_comes 125 = .ok (.iload 4, 2) := by decide +kernel
theorem dX10_comes_127 : decode cX10_comes 127 = .ok (.iconst 2, 1) := by decide +kernel
theorem dX10_comes_128 : decode cX10_comes 128 = .ok (.iadd, 1) := by decide +kernel
theorem dX10_comes_129 : decode cX10_comes 129 = .ok (.aload_n 0, 1) := by decide +kernel
theorem dX10_comes_130 : decode cX10_comes 130 = .ok (.getfield 7, 3) := by decide +kernel
theorem dX10_comes_133 : decode cX10_comes 133 = .ok (.bipush 34, 2) := by decide +kernel
theorem dX10_comes_135 : decode cX10_comes 135 = .ok (.iaload, 1) := by decide +kernel
theorem dX10_comes_136 : decode cX10_comes 136 = .ok (.iastore, 1) := by decide +kernel
theorem dX10_comes_137 : decode cX10_comes 137 = .ok (.aload_n 0, 1) := by decide +kernel
theorem dX10_comes_138 : decode cX10_comes 138 = .ok (.getfield 7, 3) := by decide +kernel
theorem dX10_comes_141 : decode cX10_comes 141 = .ok (.bipush 35, 2) := by decide +kernel
theorem dX10_comes_143 : decode cX10_comes 143 = .ok (.dup2, 1) := by decide +kernel
theorem dX10_comes_144 : decode cX10_comes 144 = .ok (.iaload, 1) := by decide +kernel
theorem dX10_comes_145 : decode cX10_comes 145 = .ok (.iconst 1, 1) := by decide +kernel
theorem dX10_comes_146 : decode cX10_comes 146 = .ok (.iadd, 1) := by decide +kernel
theorem dX10_comes_147 : decode cX10_comes 147 = .ok (.iastore, 1) := by decide +kernel
theorem dX10_comes_148 : decode cX10_comes 148 = .ok (.aload_n 0, 1) := by decide +kernel
theorem dX10_comes_149 : decode cX10_comes 149 = .ok (.getfield 7, 3) := by decide +kernel
theorem dX10_comes_152 : decode cX10_comes 152 = .ok (.bipush 30, 2) := by decide +kernel
theorem dX10_comes_154 : decode cX10_comes 154 = .ok (.iload_n 1, 1) := by decide +kernel
theorem dX10_comes_155 : decode cX10_comes 155 = .ok (.iastore, 1) := by decide +kernel
theorem dX10_comes_156 : decode cX10_comes 156 = .ok (.aload_n 0, 1) := by decide +kernel
theorem dX10_comes_157 : decode cX10_comes 157 = .ok (.getfield 7, 3) := by decide +kernel
theorem dX10_comes_160 : decode cX10_comes 160 = .ok (.bipush 31, 2) := by decide +kernel
theorem dX10_comes_162 : decode cX10_comes 162 = .ok (.iload_n 2, 1) := by decide +kernel
theorem dX10_comes_163 : decode cX10_comes 163 = .ok (.iastore, 1) := by decide +kernel
theorem dX10_comes_164 : decode cX10_comes 164 = .ok (.aload_n 0, 1) := by decide +kernel
theorem dX10_comes_165 : decode cX10_comes 165 = .ok (.getfield 7, 3) := by decide +kernel
theorem dX10_comes_168 : decode cX10_comes 168 = .ok (.bipush 34, 2) := by decide +kernel
theorem dX10_comes_170 : decode cX10_comes 170 = .ok (.iload_n 3, 1) := by decide +kernel
theorem dX10_comes_171 : decode cX10_comes 171 = .ok (.iastore, 1) := by decide +kernel
theorem dX10_comes_172 : decode cX10_comes 172 = .ok (.aload_n 0, 1) := by decide +kernel
theorem dX10_comes_173 : decode cX10_comes 173 = .ok (.getfield 7, 3) := by decide +kernel
theorem dX10_comes_176 : decode cX10_comes 176 = .ok (.bipush 33, 2) := by decide +kernel
theorem dX10_comes_178 : decode cX10_comes 178 = .ok (.iconst 0, 1) := by decide +kernel
theorem dX10_comes_179 : decode cX10_comes 179 = .ok (.iastore, 1) := by decide +kernel
theorem dX10_comes_180 : decode cX10_comes 180 = .ok (.return_, 1) := by decide +kernel
theorem dX10_forwards_0 : decode cX10_forwards 0 = .ok (.aload_n 0, 1) := by decide +kernel
theorem dX10_forwards_1 : decode cX10_forwards 1 = .ok (.getfield 7, 3) := by decide +kernel
theorem dX10_forwards_4 : decode cX10_forwards 4 = .ok (.bipush 31, 2) := by decide +kernel
theorem dX10_forwards_6 : decode cX10_forwards 6 = .ok (.iaload, 1) := by decide +kernel
theorem dX10_forwards_7 : decode cX10_forwards 7 = .ok (.aload_n 0, 1) := by decide +kernel
theorem dX10_forwards_8 : decode cX10_forwards 8 = .ok (.aload_n 0, 1) := by decide +kernel
theorem dX10_forwards_9 : decode cX10_forwards 9 = .ok (.getfield 7, 3) := by decide +kernel
theorem dX10_forwards_12 : decode cX10_forwards 12 = .ok (.bipush 30, 2) := by decide +kernel
theorem dX10_forwards_14 : decode cX10_forwards 14 = .ok (.iaload, 1) := by decide +kernel
theorem dX10_forwards_15 : decode cX10_forwards 15 = .ok (.invokevirtual 48, 3) := by decide +kernel
theorem dX10_forwards_18 : decode cX10_forwards 18 = .ok (.if_icmp .ge 33, 3) := by decide +kernel
theorem dX10_forwards_21 : decode cX10_forwards 21 = .ok (.aload_n 0, 1) := by decide +kernel
theorem dX10_forwards_22 : decode cX10_forwards 22 = .ok (.aload_n 0, 1) := by decide +kernel
theorem dX10_forwards_23 : decode cX10_forwards 23 = .ok (.getfield 7, 3) := by decide +kernel
theorem dX10_forwards_26 : decode cX10_forwards 26 = .ok (.bipush 30, 2) := by decide +kernel
theorem dX10_forwards_28 : decode cX10_forwards 28 = .ok (.iaload, 1) := by decide +kernel
theorem dX10_forwards_29 : decode cX10_forwards 29 = .ok (.aload_n 0, 1) := by decide +kernel
theorem dX10_forwards_30 : decode cX10_forwards 30 = .ok (.getfield 7, 3) := by decide +kernel
theorem dX10_forwards_33 : decode cX10_forwards 33 = .ok (.bipush 31, 2) := by decide +kernel
theorem dX10_forwards_35 : decode cX10_forwards 35 = .ok (.iaload, 1) := by decide +kernel
theorem dX10_forwards_36 : decode cX10_forwards 36 = .ok (.iconst 1, 1) := by decide +kernel
theorem dX10_forwards_37 : decode cX10_forwards 37 = .ok (.iadd, 1) := by decide +kernel
theorem dX10_forwards_38 : decode cX10_forwards 38 = .ok (.aload_n 0, 1) := by decide +kernel
theorem dX10_forwards_39 : decode cX10_forwards 39 = .ok (.getfield 7, 3) := by decide +kernel
theorem dX10_forwards_42 : decode cX10_forwards 42 = .ok (.bipush 34, 2) := by decide +kernel
theorem dX10_forwards_44 : decode cX10_forwards 44 = .ok (.iaload, 1) := by decide +kernel
theorem dX10_forwards_45 : decode cX10_forwards 45 = .ok (.invokevirtual 54, 3) := by decide +kernel
theorem dX10_forwards_48 : decode cX10_forwards 48 = .ok (.goto 20, 3) := by decide +kernel
theorem dX10_forwards_51 : decode cX10_forwards 51 = .ok (.aload_n 0, 1) := by decide +kernel
theorem dX10_forwards_52 : decode cX10_forwards 52 = .ok (.aload_n 0, 1) := by decide +kernel
theorem dX10_forwards_53 : decode cX10_forwards 53 = .ok (.aload_n 0, 1) := by decide +kernel
theorem dX10_forwards_54 : decode cX10_forwards 54 = .ok (.getfield 7, 3) := by decide +kernel
theorem dX10_forwards_57 : decode cX10_forwards 57 = .ok (.bipush 30, 2) := by decide +kernel
theorem dX10_forwards_59 : decode cX10_forwards 59 = .ok (.iaload, 1) := by decide +kernel
theorem dX10_forwards_60 : decode cX10_forwards 60 = .ok (.invokevirtual 51, 3) := by decide +kernel
theorem dX10_forwards_63 : decode cX10_forwards 63 = .ok (.iconst 0, 1) := by decide +kernel
theorem dX10_forwards_64 : decode cX10_forwards 64 = .ok (.iconst 0, 1) := by decide +kernel
theorem dX10_forwards_65 : decode cX10_forwards 65 = .ok (.invokevirtual 54, 3) := by decide +kernel
theorem dX10_forwards_68 : decode cX10_forwards 68 = .ok (.aload_n 0, 1) := by decide +kernel
theorem dX10_forwards_69 : decode cX10_forwards 69 = .ok (.getfield 7, 3) := by decide +kernel
theorem dX10_forwards_72 : decode cX10_forwards 72 = .ok (.bipush 31, 2) := by decide +kernel
theorem dX10_forwards_74 : decode cX10_forwards 74 = .ok (.iaload, 1) := by decide +kernel
theorem dX10_forwards_75 : decode cX10_forwards 75 = .ok (.ireturn, 1) := by decide +kernel
theorem dX10_backPlace_0 : decode cX10_backPlace 0 = .ok (.aload_n 0, 1) := by decide +kernel
theorem dX10_backPlace_1 : decode cX10_backPlace 1 = .ok (.getfield 7, 3) := by decide +kernel
theorem dX10_backPlace_4 : decode cX10_backPlace 4 = .ok (.bipush 35, 2) := by decide +kernel
theorem dX10_backPlace_6 : decode cX10_backPlace 6 = .ok (.iaload, 1) := by decide +kernel
theorem dX10_backPlace_7 : decode cX10_backPlace 7 = .ok (.iconst 1, 1) := by decide +kernel
theorem dX10_backPlace_8 : decode cX10_backPlace 8 = .ok (.isub, 1) := by decide +kernel
theorem dX10_backPlace_9 : decode cX10_backPlace 9 = .ok (.istore_n 1, 1) := by decide +kernel
theorem dX10_backPlace_10 : decode cX10_backPlace 10 = .ok (.iload_n 1, 1) := by decide +kernel
theorem dX10_backPlace_11 : decode cX10_backPlace 11 = .ok (.ifCond .lt 56, 3) := by decide +kernel
theorem dX10_backPlace_14 : decode cX10_backPlace 14 = .ok (.aload_n 0, 1) := by decide +kernel
theorem dX10_backPlace_15 : decode cX10_backPlace 15 = .ok (.getfield 7, 3) := by decide +kernel
theorem dX10_backPlace_18 : decode cX10_backPlace 18 = .ok (.bipush 36, 2) := by decide +kernel
theorem dX10_backPlace_20 : decode cX10_backPlace 20 = .ok (.iconst 3, 1) := by decide +kernel
theorem dX10_backPlace_21 : decode cX10_backPlace 21 = .ok (.iload_n 1, 1) := by decide +kernel
theorem dX10_backPlace_22 : decode cX10_backPlace 22 = .ok (.imul, 1) := by decide +kernel
theorem dX10_backPlace_23 : decode cX10_backPlace 23 = .ok (.iadd, 1) := by decide +kernel
theorem dX10_backPlace_24 : decode cX10_backPlace 24 = .ok (.iaload, 1) := by decide +kernel
theorem dX10_backPlace_25 : decode cX10_backPlace 25 = .ok (.istore_n 2, 1) := by decide +kernel
theorem dX10_backPlace_26 : decode cX10_backPlace 26 = .ok (.aload_n 0, 1) := by decide +kernel
theorem dX10_backPlace_27 : decode cX10_backPlace 27 = .ok (.iload_n 2, 1) := by decide +kernel
theorem dX10_backPlace_28 : decode cX10_backPlace 28 = .ok (.invokevirtual 30, 3) := by decide +kernel
theorem dX10_backPlace_31 : decode cX10_backPlace 31 = .ok (.ifCond .eq 30, 3) := by decide +kernel
theorem dX10_backPlace_34 : decode cX10_backPlace 34 = .ok (.aload_n 0, 1) := by decide +kernel
theorem dX10_backPlace_35 : decode cX10_backPlace 35 = .ok (.iload_n 2, 1) := by decide +kernel
theorem dX10_backPlace_36 : decode cX10_backPlace 36 = .ok (.invokevirtual 34, 3) := by decide +kernel
theorem dX10_backPlace_39 : decode cX10_backPlace 39 = .ok (.ifCond .ne 20, 3) := by decide +kernel
theorem dX10_backPlace_42 : decode cX10_backPlace 42 = .ok (.aload_n 0, 1) := by decide +kernel
theorem dX10_backPlace_43 : decode cX10_backPlace 43 = .ok (.getfield 7, 3) := by decide +kernel
theorem dX10_backPlace_46 : decode cX10_backPlace 46 = .ok (.bipush 36, 2) := by decide +kernel
theorem dX10_backPlace_48 : decode cX10_backPlace 48 = .ok (.iconst 3, 1) := by decide +kernel
theorem dX10_backPlace_49 : decode cX10_backPlace 49 = .ok (.iload_n 1, 1) := by decide +kernel
theorem dX10_backPlace_50 : decode cX10_backPlace 50 = .ok (.imul, 1) := by decide +kernel
theorem dX10_backPlace_51 : decode cX10_backPlace 51 = .ok (.iadd, 1) := by decide +kernel
theorem dX10_backPlace_52 : decode cX10_backPlace 52 = .ok (.iconst 2, 1) := by decide +kernel
theorem dX10_backPlace_53 : decode cX10_backPlace 53 = .ok (.iadd, 1) := by decide +kernel
theorem dX10_backPlace_54 : decode cX10_backPlace 54 = .ok (.iaload, 1) := by decide +kernel
theorem dX10_backPlace_55 : decode cX10_backPlace 55 = .ok (.iconst 1, 1) := by decide +kernel
theorem dX10_backPlace_56 : decode cX10_backPlace 56 = .ok (.if_icmp .ne 5, 3) := by decide +kernel
theorem dX10_backPlace_59 : decode cX10_backPlace 59 = .ok (.iload_n 1, 1) := by decide +kernel
theorem dX10_backPlace_60 : decode cX10_backPlace 60 = .ok (.ireturn, 1) := by decide +kernel
theorem dX10_backPlace_61 : decode cX10_backPlace 61 = .ok (.iinc 1 (-1), 3) := by decide +kernel
theorem dX10_backPlace_64 : decode cX10_backPlace 64 = .ok (.goto (-54), 3) := by decide +kernel
theorem dX10_backPlace_67 : decode cX10_backPlace 67 = .ok (.bipush (-6), 2) := by decide +kernel
theorem dX10_backPlace_69 : decode cX10_backPlace 69 = .ok (.ireturn, 1) := by decide +kernel
theorem dX10_backs_0 : decode cX10_backs 0 = .ok (.aload_n 0, 1) := by decide +kernel
theorem dX10_backs_1 : decode cX10_backs 1 = .ok (.invokevirtual 58, 3) := by decide +kernel
theorem dX10_backs_4 : decode cX10_backs 4 = .ok (.istore_n 1, 1) := by decide +kernel
theorem dX10_backs_5 : decode cX10_backs 5 = .ok (.bipush 36, 2) := by decide +kernel
theorem dX10_backs_7 : decode cX10_backs 7 = .ok (.iconst 3, 1) := by decide +kernel
theorem dX10_backs_8 : decode cX10_backs 8 = .ok (.iload_n 1, 1) := by decide +kernel
theorem dX10_backs_9 : decode cX10_backs 9 = .ok (.imul, 1) := by decide +kernel
theorem dX10_backs_10 : decode cX10_backs 10 = .ok (.iadd, 1) := by decide +kernel
theorem dX10_backs_11 : decode cX10_backs 11 = .ok (.istore_n 2, 1) := by decide +kernel
theorem dX10_backs_12 : decode cX10_backs 12 = .ok (.aload_n 0, 1) := by decide +kernel
theorem dX10_backs_13 : decode cX10_backs 13 = .ok (.getfield 7, 3) := by decide +kernel
theorem dX10_backs_16 : decode cX10_backs 16 = .ok (.bipush 35, 2) := by decide +kernel
theorem dX10_backs_18 : decode cX10_backs 18 = .ok (.iload_n 1, 1) := by decide +kernel
theorem dX10_backs_19 : decode cX10_backs 19 = .ok (.iastore, 1) := by decide +kernel
theorem dX10_backs_20 : decode cX10_backs 20 = .ok (.aload_n 0, 1) := by decide +kernel
theorem dX10_backs_21 : decode cX10_backs 21 = .ok (.getfield 7, 3) := by decide +kernel
theorem dX10_backs_24 : decode cX10_backs 24 = .ok (.bipush 30, 2) := by decide +kernel
theorem dX10_backs_26 : decode cX10_backs 26 = .ok (.aload_n 0, 1) := by decide +kernel
theorem dX10_backs_27 : decode cX10_backs 27 = .ok (.getfield 7, 3) := by decide +kernel
theorem dX10_backs_30 : decode cX10_backs 30 = .ok (.iload_n 2, 1) := by decide +kernel
theorem dX10_backs_31 : decode cX10_backs 31 = .ok (.iaload, 1) := by decide +kernel
theorem dX10_backs_32 : decode cX10_backs 32 = .ok (.iastore, 1) := by decide +kernel
theorem dX10_backs_33 : decode cX10_backs 33 = .ok (.aload_n 0, 1) := by decide +kernel
theorem dX10_backs_34 : decode cX10_backs 34 = .ok (.getfield 7, 3) := by decide +kernel
theorem dX10_backs_37 : decode cX10_backs 37 = .ok (.bipush 31, 2) := by decide +kernel
theorem dX10_backs_39 : decode cX10_backs 39 = .ok (.aload_n 0, 1) := by decide +kernel
theorem dX10_backs_40 : decode cX10_backs 40 = .ok (.getfield 7, 3) := by decide +kernel
theorem dX10_backs_43 : decode cX10_backs 43 = .ok (.iload_n 2, 1) := by decide +kernel
theorem dX10_backs_44 : decode cX10_backs 44 = .ok (.iconst 1, 1) := by decide +kernel
theorem dX10_backs_45 : decode cX10_backs 45 = .ok (.iadd, 1) := by decide +kernel
theorem dX10_backs_46 : decode cX10_backs 46 = .ok (.iaload, 1) := by decide +kernel
theorem dX10_backs_47 : decode cX10_backs 47 = .ok (.aload_n 0, 1) := by decide +kernel
theorem dX10_backs_48 : decode cX10_backs 48 = .ok (.aload_n 0, 1) := by decide +kernel
theorem dX10_backs_49 : decode cX10_backs 49 = .ok (.getfield 7, 3) := by decide +kernel
theorem dX10_backs_52 : decode cX10_backs 52 = .ok (.iload_n 2, 1) := by decide +kernel
theorem dX10_backs_53 : decode cX10_backs 53 = .ok (.iaload, 1) := by decide +kernel
theorem dX10_backs_54 : decode cX10_backs 54 = .ok (.invokevirtual 48, 3) := by decide +kernel
theorem dX10_backs_57 : decode cX10_backs 57 = .ok (.if_icmp .ge 14, 3) := by decide +kernel
theorem dX10_backs_60 : decode cX10_backs 60 = .ok (.aload_n 0, 1) := by decide +kernel
theorem dX10_backs_61 : decode cX10_backs 61 = .ok (.getfield 7, 3) := by decide +kernel
theorem dX10_backs_64 : decode cX10_backs 64 = .ok (.iload_n 2, 1) := by decide +kernel
theorem dX10_backs_65 : decode cX10_backs 65 = .ok (.iconst 1, 1) := by decide +kernel
theorem dX10_backs_66 : decode cX10_backs 66 = .ok (.iadd, 1) := by decide +kernel
theorem dX10_backs_67 : decode cX10_backs 67 = .ok (.iaload, 1) := by decide +kernel
theorem dX10_backs_68 : decode cX10_backs 68 = .ok (.goto 13, 3) := by decide +kernel
theorem dX10_backs_71 : decode cX10_backs 71 = .ok (.aload_n 0, 1) := by decide +kernel
theorem dX10_backs_72 : decode cX10_backs 72 = .ok (.aload_n 0, 1) := by decide +kernel
theorem dX10_backs_73 : decode cX10_backs 73 = .ok (.getfield 7, 3) := by decide +kernel
theorem dX10_backs_76 : decode cX10_backs 76 = .ok (.iload_n 2, 1) := by decide +kernel
theorem dX10_backs_77 : decode cX10_backs 77 = .ok (.iaload, 1) := by decide +kernel
theorem dX10_backs_78 : decode cX10_backs 78 = .ok (.invokevirtual 48, 3) := by decide +kernel
theorem dX10_backs_81 : decode cX10_backs 81 = .ok (.iastore, 1) := by decide +kernel
theorem dX10_backs_82 : decode cX10_backs 82 = .ok (.aload_n 0, 1) := by decide +kernel
theorem dX10_backs_83 : decode cX10_backs 83 = .ok (.getfield 7, 3) := by decide +kernel
theorem dX10_backs_86 : decode cX10_backs 86 = .ok (.bipush 34, 2) := by decide +kernel
theorem dX10_backs_88 : decode cX10_backs 88 = .ok (.aload_n 0, 1) := by decide +kernel
theorem dX10_backs_89 : decode cX10_backs 89 = .ok (.getfield 7, 3) := by decide +kernel
theorem dX10_backs_92 : decode cX10_backs 92 = .ok (.iload_n 2, 1) := by decide +kernel
theorem dX10_backs_93 : decode cX10_backs 93 = .ok (.iconst 2, 1) := by decide +kernel
theorem dX10_backs_94 : decode cX10_backs 94 = .ok (.iadd, 1) := by decide +kernel
theorem dX10_backs_95 : decode cX10_backs 95 = .ok (.iaload, 1) := by decide +kernel
theorem dX10_backs_96 : decode cX10_backs 96 = .ok (.iastore, 1) := by decide +kernel
theorem dX10_backs_97 : decode cX10_backs 97 = .ok (.aload_n 0, 1) := by decide +kernel
theorem dX10_backs_98 : decode cX10_backs 98 = .ok (.getfield 7, 3) := by decide +kernel
theorem dX10_backs_101 : decode cX10_backs 101 = .ok (.bipush 33, 2) := by decide +kernel
theorem dX10_backs_103 : decode cX10_backs 103 = .ok (.iconst 0, 1) := by decide +kernel
theorem dX10_backs_104 : decode cX10_backs 104 = .ok (.iastore, 1) := by decide +kernel
theorem dX10_backs_105 : decode cX10_backs 105 = .ok (.aload_n 0, 1) := by decide +kernel
theorem dX10_backs_106 : decode cX10_backs 106 = .ok (.getfield 7, 3) := by decide +kernel
theorem dX10_backs_109 : decode cX10_backs 109 = .ok (.bipush 31, 2) := by decide +kernel
theorem dX10_backs_111 : decode cX10_backs 111 = .ok (.iaload, 1) := by decide +kernel
theorem dX10_backs_112 : decode cX10_backs 112 = .ok (.ireturn, 1) := by decide +kernel
theorem dX10_canPress_0 : decode cX10_canPress 0 = .ok (.aload_n 0, 1) := by decide +kernel
theorem dX10_canPress_1 : decode cX10_canPress 1 = .ok (.aload_n 0, 1) := by decide +kernel
theorem dX10_canPress_2 : decode cX10_canPress 2 = .ok (.getfield 7, 3) := by decide +kernel
theorem dX10_canPress_5 : decode cX10_canPress 5 = .ok (.bipush 30, 2) := by decide +kernel
theorem dX10_canPress_7 : decode cX10_canPress 7 = .ok (.iaload, 1) := by decide +kernel
theorem dX10_canPress_8 : decode cX10_canPress 8 = .ok (.bipush 22, 2) := by decide +kernel
theorem dX10_canPress_10 : decode cX10_canPress 10 = .ok (.iload_n 1, 1) := by decide +kernel
theorem dX10_canPress_11 : decode cX10_canPress 11 = .ok (.iadd, 1) := by decide +kernel
theorem dX10_canPress_12 : decode cX10_canPress 12 = .ok (.invokevirtual 26, 3) := by decide +kernel
theorem dX10_canPress_15 : decode cX10_canPress 15 = .ok (.bipush (-6), 2) := by decide +kernel
theorem dX10_canPress_17 : decode cX10_canPress 17 = .ok (.if_icmp .eq 7, 3) := by decide +kernel
theorem dX10_canPress_20 : decode cX10_canPress 20 = .ok (.iconst 1, 1) := by decide +kernel
theorem dX10_canPress_21 : decode cX10_canPress 21 = .ok (.goto 4, 3) := by decide +kernel
theorem dX10_canPress_24 : decode cX10_canPress 24 = .ok (.iconst 0, 1) := by decide +kernel
theorem dX10_canPress_25 : decode cX10_canPress 25 = .ok (.ireturn, 1) := by decide +kernel
theorem dX10_presses_0 : decode cX10_presses 0 = .ok (.aload_n 0, 1) := by decide +kernel
theorem dX10_presses_1 : decode cX10_presses 1 = .ok (.aload_n 0, 1) := by decide +kernel
theorem dX10_presses_2 : decode cX10_presses 2 = .ok (.aload_n 0, 1) := by decide +kernel
theorem dX10_presses_3 : decode cX10_presses 3 = .ok (.getfield 7, 3) := by decide +kernel
theorem dX10_presses_6 : decode cX10_presses 6 = .ok (.bipush 30, 2) := by decide +kernel
theorem dX10_presses_8 : decode cX10_presses 8 = .ok (.iaload, 1) := by decide +kernel
theorem dX10_presses_9 : decode cX10_presses 9 = .ok (.bipush 22, 2) := by decide +kernel
theorem dX10_presses_11 : decode cX10_presses 11 = .ok (.iload_n 1, 1) := by decide +kernel
theorem dX10_presses_12 : decode cX10_presses 12 = .ok (.iadd, 1) := by decide +kernel
theorem dX10_presses_13 : decode cX10_presses 13 = .ok (.invokevirtual 26, 3) := by decide +kernel
theorem dX10_presses_16 : decode cX10_presses 16 = .ok (.iconst 0, 1) := by decide +kernel
theorem dX10_presses_17 : decode cX10_presses 17 = .ok (.iconst 1, 1) := by decide +kernel
theorem dX10_presses_18 : decode cX10_presses 18 = .ok (.invokevirtual 54, 3) := by decide +kernel
theorem dX10_presses_21 : decode cX10_presses 21 = .ok (.aload_n 0, 1) := by decide +kernel
theorem dX10_presses_22 : decode cX10_presses 22 = .ok (.getfield 7, 3) := by decide +kernel
theorem dX10_presses_25 : decode cX10_presses 25 = .ok (.bipush 30, 2) := by decide +kernel
theorem dX10_presses_27 : decode cX10_presses 27 = .ok (.iaload, 1) := by decide +kernel
theorem dX10_presses_28 : decode cX10_presses 28 = .ok (.ireturn, 1) := by decide +kernel
theorem dX10_ticks_0 : decode cX10_ticks 0 = .ok (.iconst 0, 1) := by decide +kernel
theorem dX10_ticks_1 : decode cX10_ticks 1 = .ok (.istore_n 2, 1) := by decide +kernel
theorem dX10_ticks_2 : decode cX10_ticks 2 = .ok (.iconst 0, 1) := by decide +kernel
theorem dX10_ticks_3 : decode cX10_ticks 3 = .ok (.istore_n 3, 1) := by decide +kernel
theorem dX10_ticks_4 : decode cX10_ticks 4 = .ok (.iload_n 3, 1) := by decide +kernel
theorem dX10_ticks_5 : decode cX10_ticks 5 = .ok (.iload_n 1, 1) := by decide +kernel
theorem dX10_ticks_6 : decode cX10_ticks 6 = .ok (.if_icmp .ge 91, 3) := by decide +kernel
theorem dX10_ticks_9 : decode cX10_ticks 9 = .ok (.aload_n 0, 1) := by decide +kernel
theorem dX10_ticks_10 : decode cX10_ticks 10 = .ok (.invokevirtual 44, 3) := by decide +kernel
theorem dX10_ticks_13 : decode cX10_ticks 13 = .ok (.ifCond .ne 84, 3) := by decide +kernel
theorem dX10_ticks_16 : decode cX10_ticks 16 = .ok (.aload_n 0, 1) := by decide +kernel
theorem dX10_ticks_17 : decode cX10_ticks 17 = .ok (.getfield 7, 3) := by decide +kernel
theorem dX10_ticks_20 : decode cX10_ticks 20 = .ok (.bipush 32, 2) := by decide +kernel
theorem dX10_ticks_22 : decode cX10_ticks 22 = .ok (.dup2, 1) := by decide +kernel
theorem dX10_ticks_23 : decode cX10_ticks 23 = .ok (.iaload, 1) := by decide +kernel
theorem dX10_ticks_24 : decode cX10_ticks 24 = .ok (.iconst 1, 1) := by decide +kernel
theorem dX10_ticks_25 : decode cX10_ticks 25 = .ok (.iadd, 1) := by decide +kernel
theorem dX10_ticks_26 : decode cX10_ticks 26 = .ok (.iastore, 1) := by decide +kernel
theorem dX10_ticks_27 : decode cX10_ticks 27 = .ok (.aload_n 0, 1) := by decide +kernel
theorem dX10_ticks_28 : decode cX10_ticks 28 = .ok (.getfield 7, 3) := by decide +kernel
theorem dX10_ticks_31 : decode cX10_ticks 31 = .ok (.bipush 33, 2) := by decide +kernel
theorem dX10_ticks_33 : decode cX10_ticks 33 = .ok (.dup2, 1) := by decide +kernel
theorem dX10_ticks_34 : decode cX10_ticks 34 = .ok (.iaload, 1) := by decide +kernel
theorem dX10_ticks_35 : decode cX10_ticks 35 = .ok (.iconst 1, 1) := by decide +kernel
theorem dX10_ticks_36 : decode cX10_ticks 36 = .ok (.iadd, 1) := by decide +kernel
theorem dX10_ticks_37 : decode cX10_ticks 37 = .ok (.iastore, 1) := by decide +kernel
theorem dX10_ticks_38 : decode cX10_ticks 38 = .ok (.aload_n 0, 1) := by decide +kernel
theorem dX10_ticks_39 : decode cX10_ticks 39 = .ok (.aload_n 0, 1) := by decide +kernel
theorem dX10_ticks_40 : decode cX10_ticks 40 = .ok (.getfield 7, 3) := by decide +kernel
theorem dX10_ticks_43 : decode cX10_ticks 43 = .ok (.bipush 30, 2) := by decide +kernel
theorem dX10_ticks_45 : decode cX10_ticks 45 = .ok (.iaload, 1) := by decide +kernel
theorem dX10_ticks_46 : decode cX10_ticks 46 = .ok (.iconst 2, 1) := by decide +kernel
theorem dX10_ticks_47 : decode cX10_ticks 47 = .ok (.invokevirtual 26, 3) := by decide +kernel
theorem dX10_ticks_50 : decode cX10_ticks 50 = .ok (.istore 4, 2) := by decide +kernel
theorem dX10_ticks_52 : decode cX10_ticks 52 = .ok (.aload_n 0, 1) := by decide +kernel
theorem dX10_ticks_53 : decode cX10_ticks 53 = .ok (.invokevirtual 44, 3) := by decide +kernel
theorem dX10_ticks_56 : decode cX10_ticks 56 = .ok (.ifCond .ne 35, 3) := by decide +kernel
theorem dX10_ticks_59 : decode cX10_ticks 59 = .ok (.iload 4, 2) := by decide +kernel
theorem dX10_ticks_61 : decode cX10_ticks 61 = .ok (.ifCond .le 30, 3) := by decide +kernel
theorem dX10_ticks_64 : decode cX10_ticks 64 = .ok (.aload_n 0, 1) := by decide +kernel
theorem dX10_ticks_65 : decode cX10_ticks 65 = .ok (.getfield 7, 3) := by decide +kernel
theorem dX10_ticks_68 : decode cX10_ticks 68 = .ok (.bipush 33, 2) := by decide +kernel
theorem dX10_ticks_70 : decode cX10_ticks 70 = .ok (.iaload, 1) := by decide +kernel
theorem dX10_ticks_71 : decode cX10_ticks 71 = .ok (.iload 4, 2) := by decide +kernel
theorem dX10_ticks_73 : decode cX10_ticks 73 = .ok (.if_icmp .lt 18, 3) := by decide +kernel
theorem dX10_ticks_76 : decode cX10_ticks 76 = .ok (.aload_n 0, 1) := by decide +kernel
theorem dX10_ticks_77 : decode cX10_ticks 77 = .ok (.invokevirtual 62, 3) := by decide +kernel
theorem dX10_ticks_80 : decode cX10_ticks 80 = .ok (.ifCond .eq 11, 3) := by decide +kernel
theorem dX10_ticks_83 : decode cX10_ticks 83 = .ok (.aload_n 0, 1) := by decide +kernel
theorem dX10_ticks_84 : decode cX10_ticks 84 = .ok (.invokevirtual 65, 3) := by decide +kernel
theorem dX10_ticks_87 : decode cX10_ticks 87 = .ok (.pop, 1) := by decide +kernel
theorem dX10_ticks_88 : decode cX10_ticks 88 = .ok (.iinc 2 1, 3) := by decide +kernel
theorem dX10_ticks_91 : decode cX10_ticks 91 = .ok (.iinc 3 1, 3) := by decide +kernel
theorem dX10_ticks_94 : decode cX10_ticks 94 = .ok (.goto (-90), 3) := by decide +kernel
theorem dX10_ticks_97 : decode cX10_ticks 97 = .ok (.iload_n 2, 1) := by decide +kernel
theorem dX10_ticks_98 : decode cX10_ticks 98 = .ok (.ireturn, 1) := by decide +kernel
theorem dX10_copies_0 : decode cX10_copies 0 = .ok (.iconst 0, 1) := by decide +kernel
theorem dX10_copies_1 : decode cX10_copies 1 = .ok (.istore_n 3, 1) := by decide +kernel
theorem dX10_copies_2 : decode cX10_copies 2 = .ok (.iload_n 3, 1) := by decide +kernel
theorem dX10_copies_3 : decode cX10_copies 3 = .ok (.sipush 476, 3) := by decide +kernel
theorem dX10_copies_6 : decode cX10_copies 6 = .ok (.if_icmp .ge 33, 3) := by decide +kernel
theorem dX10_copies_9 : decode cX10_copies 9 = .ok (.aload_n 0, 1) := by decide +kernel
theorem dX10_copies_10 : decode cX10_copies 10 = .ok (.getfield 7, 3) := by decide +kernel
theorem dX10_copies_13 : decode cX10_copies 13 = .ok (.sipush 476, 3) := by decide +kernel
theorem dX10_copies_16 : decode cX10_copies 16 = .ok (.iload_n 2, 1) := by decide +kernel
theorem dX10_copies_17 : decode cX10_copies 17 = .ok (.imul, 1) := by decide +kernel
theorem dX10_copies_18 : decode cX10_copies 18 = .ok (.iload_n 3, 1) := by decide +kernel
theorem dX10_copies_19 : decode cX10_copies 19 = .ok (.iadd, 1) := by decide +kernel
theorem dX10_copies_20 : decode cX10_copies 20 = .ok (.aload_n 0, 1) := by decide +kernel
theorem dX10_copies_21 : decode cX10_copies 21 = .ok (.getfield 7, 3) := by decide +kernel
theorem dX10_copies_24 : decode cX10_copies 24 = .ok (.sipush 476, 3) := by decide +kernel
theorem dX10_copies_27 : decode cX10_copies 27 = .ok (.iload_n 1, 1) := by decide +kernel
theorem dX10_copies_28 : decode cX10_copies 28 = .ok (.imul, 1) := by decide +kernel
theorem dX10_copies_29 : decode cX10_copies 29 = .ok (.iload_n 3, 1) := by decide +kernel
theorem dX10_copies_30 : decode cX10_copies 30 = .ok (.iadd, 1) := by decide +kernel
theorem dX10_copies_31 : decode cX10_copies 31 = .ok (.iaload, 1) := by decide +kernel
theorem dX10_copies_32 : decode cX10_copies 32 = .ok (.iastore, 1) := by decide +kernel
theorem dX10_copies_33 : decode cX10_copies 33 = .ok (.iinc 3 1, 3) := by decide +kernel
theorem dX10_copies_36 : decode cX10_copies 36 = .ok (.goto (-34), 3) := by decide +kernel
theorem dX10_copies_39 : decode cX10_copies 39 = .ok (.return_, 1) := by decide +kernel
theorem dX10_save_0 : decode cX10_save 0 = .ok (.iconst 1, 1) := by decide +kernel
theorem dX10_save_1 : decode cX10_save 1 = .ok (.istore_n 1, 1) := by decide +kernel
theorem dX10_save_2 : decode cX10_save 2 = .ok (.iload_n 1, 1) := by decide +kernel
theorem dX10_save_3 : decode cX10_save 3 = .ok (.iconst 4, 1) := by decide +kernel
theorem dX10_save_4 : decode cX10_save 4 = .ok (.if_icmp .ge 25, 3) := by decide +kernel
theorem dX10_save_7 : decode cX10_save 7 = .ok (.aload_n 0, 1) := by decide +kernel
theorem dX10_save_8 : decode cX10_save 8 = .ok (.getfield 68, 3) := by decide +kernel
theorem dX10_save_11 : decode cX10_save 11 = .ok (.iconst 4, 1) := by decide +kernel
theorem dX10_save_12 : decode cX10_save 12 = .ok (.if_icmp .ne 17, 3) := by decide +kernel
theorem dX10_save_15 : decode cX10_save 15 = .ok (.aload_n 0, 1) := by decide +kernel
theorem dX10_save_16 : decode cX10_save 16 = .ok (.iload_n 1, 1) := by decide +kernel
theorem dX10_save_17 : decode cX10_save 17 = .ok (.iconst 1, 1) := by decide +kernel
theorem dX10_save_18 : decode cX10_save 18 = .ok (.iadd, 1) := by decide +kernel
theorem dX10_save_19 : decode cX10_save 19 = .ok (.iload_n 1, 1) := by decide +kernel
theorem dX10_save_20 : decode cX10_save 20 = .ok (.invokevirtual 72, 3) := by decide +kernel
theorem dX10_save_23 : decode cX10_save 23 = .ok (.iinc 1 1, 3) := by decide +kernel
theorem dX10_save_26 : decode cX10_save 26 = .ok (.goto (-24), 3) := by decide +kernel
theorem dX10_save_29 : decode cX10_save 29 = .ok (.aload_n 0, 1) := by decide +kernel
theorem dX10_save_30 : decode cX10_save 30 = .ok (.dup, 1) := by decide +kernel
theorem dX10_save_31 : decode cX10_save 31 = .ok (.getfield 68, 3) := by decide +kernel
theorem dX10_save_34 : decode cX10_save 34 = .ok (.aload_n 0, 1) := by decide +kernel
theorem dX10_save_35 : decode cX10_save 35 = .ok (.getfield 68, 3) := by decide +kernel
theorem dX10_save_38 : decode cX10_save 38 = .ok (.iconst 4, 1) := by decide +kernel
theorem dX10_save_39 : decode cX10_save 39 = .ok (.if_icmp .ge 7, 3) := by decide +kernel
theorem dX10_save_42 : decode cX10_save 42 = .ok (.iconst 1, 1) := by decide +kernel
theorem dX10_save_43 : decode cX10_save 43 = .ok (.goto 4, 3) := by decide +kernel
theorem dX10_save_46 : decode cX10_save 46 = .ok (.iconst 0, 1) := by decide +kernel
theorem dX10_save_47 : decode cX10_save 47 = .ok (.iadd, 1) := by decide +kernel
theorem dX10_save_48 : decode cX10_save 48 = .ok (.putfield 68, 3) := by decide +kernel
theorem dX10_save_51 : decode cX10_save 51 = .ok (.aload_n 0, 1) := by decide +kernel
theorem dX10_save_52 : decode cX10_save 52 = .ok (.iconst 0, 1) := by decide +kernel
theorem dX10_save_53 : decode cX10_save 53 = .ok (.aload_n 0, 1) := by decide +kernel
theorem dX10_save_54 : decode cX10_save 54 = .ok (.getfield 68, 3) := by decide +kernel
theorem dX10_save_57 : decode cX10_save 57 = .ok (.invokevirtual 72, 3) := by decide +kernel
theorem dX10_save_60 : decode cX10_save 60 = .ok (.return_, 1) := by decide +kernel
theorem dX10_addSlide_0 : decode cX10_addSlide 0 = .ok (.aload_n 0, 1) := by decide +kernel
theorem dX10_addSlide_1 : decode cX10_addSlide 1 = .ok (.getfield 7, 3) := by decide +kernel
theorem dX10_addSlide_4 : decode cX10_addSlide 4 = .ok (.iconst 0, 1) := by decide +kernel
theorem dX10_addSlide_5 : decode cX10_addSlide 5 = .ok (.iaload, 1) := by decide +kernel
theorem dX10_addSlide_6 : decode cX10_addSlide 6 = .ok (.bipush 10, 2) := by decide +kernel
theorem dX10_addSlide_8 : decode cX10_addSlide 8 = .ok (.if_icmp .ne 6, 3) := by decide +kernel
theorem dX10_addSlide_11 : decode cX10_addSlide 11 = .ok (.bipush (-4), 2) := by decide +kernel
theorem dX10_addSlide_13 : decode cX10_addSlide 13 = .ok (.ireturn, 1) := by decide +kernel
theorem dX10_addSlide_14 : decode cX10_addSlide 14 = .ok (.aload_n 0, 1) := by decide +kernel
theorem dX10_addSlide_15 : decode cX10_addSlide 15 = .ok (.invokevirtual 76, 3) := by decide +kernel
theorem dX10_addSlide_18 : decode cX10_addSlide 18 = .ok (.iconst 0, 1) := by decide +kernel
theorem dX10_addSlide_19 : decode cX10_addSlide 19 = .ok (.istore_n 1, 1) := by decide +kernel
theorem dX10_addSlide_20 : decode cX10_addSlide 20 = .ok (.aload_n 0, 1) := by decide +kernel
theorem dX10_addSlide_21 : decode cX10_addSlide 21 = .ok (.iload_n 1, 1) := by decide +kernel
theorem dX10_addSlide_22 : decode cX10_addSlide 22 = .ok (.iconst 0, 1) := by decide +kernel
theorem dX10_addSlide_23 : decode cX10_addSlide 23 = .ok (.invokevirtual 26, 3) := by decide +kernel
theorem dX10_addSlide_26 : decode cX10_addSlide 26 = .ok (.iconst 1, 1) := by decide +kernel
theorem dX10_addSlide_27 : decode cX10_addSlide 27 = .ok (.if_icmp .ne 9, 3) := by decide +kernel
theorem dX10_addSlide_30 : decode cX10_addSlide 30 = .ok (.iinc 1 1, 3) := by decide +kernel
theorem dX10_addSlide_33 : decode cX10_addSlide 33 = .ok (.goto (-13), 3) := by decide +kernel
theorem dX10_addSlide_36 : decode cX10_addSlide 36 = .ok (.iconst 0, 1) := by decide +kernel
theorem dX10_addSlide_37 : decode cX10_addSlide 37 = .ok (.istore_n 2, 1) := by decide +kernel
theorem dX10_addSlide_38 : decode cX10_addSlide 38 = .ok (.iload_n 2, 1) := by decide +kernel
theorem dX10_addSlide_39 : decode cX10_addSlide 39 = .ok (.bipush 32, 2) := by decide +kernel
theorem dX10_addSlide_41 : decode cX10_addSlide 41 = .ok (.if_icmp .ge 27, 3) := by decide +kernel
theorem dX10_addSlide_44 : decode cX10_addSlide 44 = .ok (.aload_n 0, 1) := by decide +kernel
theorem dX10_addSlide_45 : decode cX10_addSlide 45 = .ok (.iload_n 1, 1) := by decide +kernel
theorem dX10_addSlide_46 : decode cX10_addSlide 46 = .ok (.iload_n 2, 1) := by decide +kernel
theorem dX10_addSlide_47 : decode cX10_addSlide 47 = .ok (.iload_n 2, 1) := by decide +kernel
theorem dX10_addSlide_48 : decode cX10_addSlide 48 = .ok (.bipush 22, 2) := by decide +kernel
theorem dX10_addSlide_50 : decode cX10_addSlide 50 = .ok (.if_icmp .lt 8, 3) := by decide +kernel
theorem dX10_addSlide_53 : decode cX10_addSlide 53 = .ok (.bipush (-6), 2) := by decide +kernel
theorem dX10_addSlide_55 : decode cX10_addSlide 55 = .ok (.goto 4, 3) := by decide +kernel
theorem dX10_addSlide_58 : decode cX10_addSlide 58 = .ok (.iconst 0, 1) := by decide +kernel
theorem dX10_addSlide_59 : decode cX10_addSlide 59 = .ok (.invokevirtual 79, 3) := by decide +kernel
theorem dX10_addSlide_62 : decode cX10_addSlide 62 = .ok (.iinc 2 1, 3) := by decide +kernel
theorem dX10_addSlide_65 : decode cX10_addSlide 65 = .ok (.goto (-27), 3) := by decide +kernel
theorem dX10_addSlide_68 : decode cX10_addSlide 68 = .ok (.aload_n 0, 1) := by decide +kernel
theorem dX10_addSlide_69 : decode cX10_addSlide 69 = .ok (.iload_n 1, 1) := by decide +kernel
theorem dX10_addSlide_70 : decode cX10_addSlide 70 = .ok (.iconst 0, 1) := by decide +kernel
theorem dX10_addSlide_71 : decode cX10_addSlide 71 = .ok (.iconst 1, 1) := by decide +kernel
theorem dX10_addSlide_72 : decode cX10_addSlide 72 = .ok (.invokevirtual 79, 3) := by decide +kernel
theorem dX10_addSlide_75 : decode cX10_addSlide 75 = .ok (.aload_n 0, 1) := by decide +kernel
theorem dX10_addSlide_76 : decode cX10_addSlide 76 = .ok (.getfield 7, 3) := by decide +kernel
theorem dX10_addSlide_79 : decode cX10_addSlide 79 = .ok (.iconst 1, 1) := by decide +kernel
theorem dX10_addSlide_80 : decode cX10_addSlide 80 = .ok (.aload_n 0, 1) := by decide +kernel
theorem dX10_addSlide_81 : decode cX10_addSlide 81 = .ok (.getfield 7, 3) := by decide +kernel
theorem dX10_addSlide_84 : decode cX10_addSlide 84 = .ok (.iconst 0, 1) := by decide +kernel
theorem dX10_addSlide_85 : decode cX10_addSlide 85 = .ok (.iaload, 1) := by decide +kernel
theorem dX10_addSlide_86 : decode cX10_addSlide 86 = .ok (.iadd, 1) := by decide +kernel
theorem dX10_addSlide_87 : decode cX10_addSlide 87 = .ok (.iload_n 1, 1) := by decide +kernel
theorem dX10_addSlide_88 : decode cX10_addSlide 88 = .ok (.iastore, 1) := by decide +kernel
theorem dX10_addSlide_89 : decode cX10_addSlide 89 = .ok (.aload_n 0, 1) := by decide +kernel
theorem dX10_addSlide_90 : decode cX10_addSlide 90 = .ok (.getfield 7, 3) := by decide +kernel
theorem dX10_addSlide_93 : decode cX10_addSlide 93 = .ok (.iconst 0, 1) := by decide +kernel
theorem dX10_addSlide_94 : decode cX10_addSlide 94 = .ok (.dup2, 1) := by decide +kernel
theorem dX10_addSlide_95 : decode cX10_addSlide 95 = .ok (.iaload, 1) := by decide +kernel
theorem dX10_addSlide_96 : decode cX10_addSlide 96 = .ok (.iconst 1, 1) := by decide +kernel
theorem dX10_addSlide_97 : decode cX10_addSlide 97 = .ok (.iadd, 1) := by decide +kernel
theorem dX10_addSlide_98 : decode cX10_addSlide 98 = .ok (.iastore, 1) := by decide +kernel
theorem dX10_addSlide_99 : decode cX10_addSlide 99 = .ok (.iload_n 1, 1) := by decide +kernel
theorem dX10_addSlide_100 : decode cX10_addSlide 100 = .ok (.ireturn, 1) := by decide +kernel
theorem dX10_takesOut_0 : decode cX10_takesOut 0 = .ok (.aload_n 0, 1) := by decide +kernel
theorem dX10_takesOut_1 : decode cX10_takesOut 1 = .ok (.iload_n 1, 1) := by decide +kernel
theorem dX10_takesOut_2 : decode cX10_takesOut 2 = .ok (.invokevirtual 37, 3) := by decide +kernel
theorem dX10_takesOut_5 : decode cX10_takesOut 5 = .ok (.istore_n 2, 1) := by decide +kernel
theorem dX10_takesOut_6 : decode cX10_takesOut 6 = .ok (.aload_n 0, 1) := by decide +kernel
theorem dX10_takesOut_7 : decode cX10_takesOut 7 = .ok (.getfield 7, 3) := by decide +kernel
theorem dX10_takesOut_10 : decode cX10_takesOut 10 = .ok (.iconst 0, 1) := by decide +kernel
theorem dX10_takesOut_11 : decode cX10_takesOut 11 = .ok (.dup2, 1) := by decide +kernel
theorem dX10_takesOut_12 : decode cX10_takesOut 12 = .ok (.iaload, 1) := by decide +kernel
theorem dX10_takesOut_13 : decode cX10_takesOut 13 = .ok (.iconst 1, 1) := by decide +kernel
theorem dX10_takesOut_14 : decode cX10_takesOut 14 = .ok (.isub, 1) := by decide +kernel
theorem dX10_takesOut_15 : decode cX10_takesOut 15 = .ok (.iastore, 1) := by decide +kernel
theorem dX10_takesOut_16 : decode cX10_takesOut 16 = .ok (.iload_n 2, 1) := by decide +kernel
theorem dX10_takesOut_17 : decode cX10_takesOut 17 = .ok (.istore_n 3, 1) := by decide +kernel
theorem dX10_takesOut_18 : decode cX10_takesOut 18 = .ok (.iload_n 3, 1) := by decide +kernel
theorem dX10_takesOut_19 : decode cX10_takesOut 19 = .ok (.aload_n 0, 1) := by decide +kernel
theorem dX10_takesOut_20 : decode cX10_takesOut 20 = .ok (.getfield 7, 3) := by decide +kernel
theorem dX10_takesOut_23 : decode cX10_takesOut 23 = .ok (.iconst 0, 1) := by decide +kernel
theorem dX10_takesOut_24 : decode cX10_takesOut 24 = .ok (.iaload, 1) := by decide +kernel
theorem dX10_takesOut_25 : decode cX10_takesOut 25 = .ok (.if_icmp .ge 27, 3) := by decide +kernel
theorem dX10_takesOut_28 : decode cX10_takesOut 28 = .ok (.aload_n 0, 1) := by decide +kernel
theorem dX10_takesOut_29 : decode cX10_takesOut 29 = .ok (.getfield 7, 3) := by decide +kernel
theorem dX10_takesOut_32 : decode cX10_takesOut 32 = .ok (.iconst 1, 1) := by decide +kernel
theorem dX10_takesOut_33 : decode cX10_takesOut 33 = .ok (.iload_n 3, 1) := by decide +kernel
theorem dX10_takesOut_34 : decode cX10_takesOut 34 = .ok (.iadd, 1) := by decide +kernel
theorem dX10_takesOut_35 : decode cX10_takesOut 35 = .ok (.aload_n 0, 1) := by decide +kernel
theorem dX10_takesOut_36 : decode cX10_takesOut 36 = .ok (.getfield 7, 3) := by decide +kernel
theorem dX10_takesOut_39 : decode cX10_takesOut 39 = .ok (.iconst 1, 1) := by decide +kernel
theorem dX10_takesOut_40 : decode cX10_takesOut 40 = .ok (.iload_n 3, 1) := by decide +kernel
theorem dX10_takesOut_41 : decode cX10_takesOut 41 = .ok (.iadd, 1) := by decide +kernel
theorem dX10_takesOut_42 : decode cX10_takesOut 42 = .ok (.iconst 1, 1) := by decide +kernel
theorem dX10_takesOut_43 : decode cX10_takesOut 43 = .ok (.iadd, 1) := by decide +kernel
theorem dX10_takesOut_44 : decode cX10_takesOut 44 = .ok (.iaload, 1) := by decide +kernel
theorem dX10_takesOut_45 : decode cX10_takesOut 45 = .ok (.iastore, 1) := by decide +kernel
theorem dX10_takesOut_46 : decode cX10_takesOut 46 = .ok (.iinc 3 1, 3) := by decide +kernel
theorem dX10_takesOut_49 : decode cX10_takesOut 49 = .ok (.goto (-31), 3) := by decide +kernel
theorem dX10_takesOut_52 : decode cX10_takesOut 52 = .ok (.iload_n 2, 1) := by decide +kernel
theorem dX10_takesOut_53 : decode cX10_takesOut 53 = .ok (.ireturn, 1) := by decide +kernel
theorem dX10_removeSlide_0 : decode cX10_removeSlide 0 = .ok (.aload_n 0, 1) := by decide +kernel
theorem dX10_removeSlide_1 : decode cX10_removeSlide 1 = .ok (.iload_n 1, 1) := by decide +kernel
theorem dX10_removeSlide_2 : decode cX10_removeSlide 2 = .ok (.invokevirtual 30, 3) := by decide +kernel
theorem dX10_removeSlide_5 : decode cX10_removeSlide 5 = .ok (.ifCond .ne 5, 3) := by decide +kernel
theorem dX10_removeSlide_8 : decode cX10_removeSlide 8 = .ok (.iconst (-1), 1) := by decide +kernel
theorem dX10_removeSlide_9 : decode cX10_removeSlide 9 = .ok (.ireturn, 1) := by decide +kernel
theorem dX10_removeSlide_10 : decode cX10_removeSlide 10 = .ok (.aload_n 0, 1) := by decide +kernel
theorem dX10_removeSlide_11 : decode cX10_removeSlide 11 = .ok (.getfield 7, 3) := by decide +kernel
theorem dX10_removeSlide_14 : decode cX10_removeSlide 14 = .ok (.bipush 29, 2) := by decide +kernel
theorem dX10_removeSlide_16 : decode cX10_removeSlide 16 = .ok (.iaload, 1) := by decide +kernel
theorem dX10_removeSlide_17 : decode cX10_removeSlide 17 = .ok (.iconst 1, 1) := by decide +kernel
theorem dX10_removeSlide_18 : decode cX10_removeSlide 18 = .ok (.if_icmp .ne 17, 3) := by decide +kernel
theorem dX10_removeSlide_21 : decode cX10_removeSlide 21 = .ok (.aload_n 0, 1) := by decide +kernel
theorem dX10_removeSlide_22 : decode cX10_removeSlide 22 = .ok (.getfield 7, 3) := by decide +kernel
theorem dX10_removeSlide_25 : decode cX10_removeSlide 25 = .ok (.bipush 30, 2) := by decide +kernel
theorem dX10_removeSlide_27 : decode cX10_removeSlide 27 = .ok (.iaload, 1) := by decide +kernel
theorem dX10_removeSlide_28 : decode cX10_removeSlide 28 = .ok (.iload_n 1, 1) := by decide +kernel
theorem dX10_removeSlide_29 : decode cX10_removeSlide 29 = .ok (.if_icmp .ne 6, 3) := by decide +kernel
theorem dX10_removeSlide_32 : decode cX10_removeSlide 32 = .ok (.bipush (-5), 2) := by decide +kernel
theorem dX10_removeSlide_34 : decode cX10_removeSlide 34 = .ok (.ireturn, 1) := by decide +kernel
theorem dX10_removeSlide_35 : decode cX10_removeSlide 35 = .ok (.aload_n 0, 1) := by decide +kernel
theorem dX10_removeSlide_36 : decode cX10_removeSlide 36 = .ok (.invokevirtual 76, 3) := by decide +kernel
theorem dX10_removeSlide_39 : decode cX10_removeSlide 39 = .ok (.aload_n 0, 1) := by decide +kernel
theorem dX10_removeSlide_40 : decode cX10_removeSlide 40 = .ok (.iload_n 1, 1) := by decide +kernel
theorem dX10_removeSlide_41 : decode cX10_removeSlide 41 = .ok (.invokevirtual 82, 3) := by decide +kernel
theorem dX10_removeSlide_44 : decode cX10_removeSlide 44 = .ok (.pop, 1) := by decide +kernel
theorem dX10_removeSlide_45 : decode cX10_removeSlide 45 = .ok (.aload_n 0, 1) := by decide +kernel
theorem dX10_removeSlide_46 : decode cX10_removeSlide 46 = .ok (.iload_n 1, 1) := by decide +kernel
theorem dX10_removeSlide_47 : decode cX10_removeSlide 47 = .ok (.iconst 0, 1) := by decide +kernel
theorem dX10_removeSlide_48 : decode cX10_removeSlide 48 = .ok (.iconst 0, 1) := by decide +kernel
theorem dX10_removeSlide_49 : decode cX10_removeSlide 49 = .ok (.invokevirtual 79, 3) := by decide +kernel
theorem dX10_removeSlide_52 : decode cX10_removeSlide 52 = .ok (.iconst 0, 1) := by decide +kernel
theorem dX10_removeSlide_53 : decode cX10_removeSlide 53 = .ok (.istore_n 2, 1) := by decide +kernel
theorem dX10_removeSlide_54 : decode cX10_removeSlide 54 = .ok (.iload_n 2, 1) := by decide +kernel
theorem dX10_removeSlide_55 : decode cX10_removeSlide 55 = .ok (.bipush 100, 2) := by decide +kernel
theorem dX10_removeSlide_57 : decode cX10_removeSlide 57 = .ok (.if_icmp .ge 45, 3) := by decide +kernel
theorem dX10_removeSlide_60 : decode cX10_removeSlide 60 = .ok (.aload_n 0, 1) := by decide +kernel
theorem dX10_removeSlide_61 : decode cX10_removeSlide 61 = .ok (.iload_n 2, 1) := by decide +kernel
theorem dX10_removeSlide_62 : decode cX10_removeSlide 62 = .ok (.bipush 10, 2) := by decide +kernel
theorem dX10_removeSlide_64 : decode cX10_removeSlide 64 = .ok (.idiv, 1) := by decide +kernel
theorem dX10_removeSlide_65 : decode cX10_removeSlide 65 = .ok (.bipush 22, 2) := by decide +kernel
theorem dX10_removeSlide_67 : decode cX10_removeSlide 67 = .ok (.iload_n 2, 1) := by decide +kernel
theorem dX10_removeSlide_68 : decode cX10_removeSlide 68 = .ok (.bipush 10, 2) := by decide +kernel
theorem dX10_removeSlide_70 : decode cX10_removeSlide 70 = .ok (.irem, 1) := by decide +kernel
theorem dX10_removeSlide_71 : decode cX10_removeSlide 71 = .ok (.iadd, 1) := by decide +kernel
theorem dX10_removeSlide_72 : decode cX10_removeSlide 72 = .ok (.invokevirtual 26, 3) := by decide +kernel
theorem dX10_removeSlide_75 : decode cX10_removeSlide 75 = .ok (.iload_n 1, 1) := by decide +kernel
theorem dX10_removeSlide_76 : decode cX10_removeSlide 76 = .ok (.if_icmp .ne 20, 3) := by decide +kernel
theorem dX10_removeSlide_79 : decode cX10_removeSlide 79 = .ok (.aload_n 0, 1) := by decide +kernel
theorem dX10_removeSlide_80 : decode cX10_removeSlide 80 = .ok (.iload_n 2, 1) := by decide +kernel
theorem dX10_removeSlide_81 : decode cX10_removeSlide 81 = .ok (.bipush 10, 2) := by decide +kernel
theorem dX10_removeSlide_83 : decode cX10_removeSlide 83 = .ok (.idiv, 1) := by decide +kernel
theorem dX10_removeSlide_84 : decode cX10_removeSlide 84 = .ok (.bipush 22, 2) := by decide +kernel
theorem dX10_removeSlide_86 : decode cX10_removeSlide 86 = .ok (.iload_n 2, 1) := by decide +kernel
theorem dX10_removeSlide_87 : decode cX10_removeSlide 87 = .ok (.bipush 10, 2) := by decide +kernel
theorem dX10_removeSlide_89 : decode cX10_removeSlide 89 = .ok (.irem, 1) := by decide +kernel
theorem dX10_removeSlide_90 : decode cX10_removeSlide 90 = .ok (.iadd, 1) := by decide +kernel
theorem dX10_removeSlide_91 : decode cX10_removeSlide 91 = .ok (.bipush (-6), 2) := by decide +kernel
theorem dX10_removeSlide_93 : decode cX10_removeSlide 93 = .ok (.invokevirtual 79, 3) := by decide +kernel
theorem dX10_removeSlide_96 : decode cX10_removeSlide 96 = .ok (.iinc 2 1, 3) := by decide +kernel
theorem dX10_removeSlide_99 : decode cX10_removeSlide 99 = .ok (.goto (-45), 3) := by decide +kernel
theorem dX10_removeSlide_102 : decode cX10_removeSlide 102 = .ok (.aload_n 0, 1) := by decide +kernel
theorem dX10_removeSlide_103 : decode cX10_removeSlide 103 = .ok (.getfield 7, 3) := by decide +kernel
theorem dX10_removeSlide_106 : decode cX10_removeSlide 106 = .ok (.iconst 0, 1) := by decide +kernel
theorem dX10_removeSlide_107 : decode cX10_removeSlide 107 = .ok (.iaload, 1) := by decide +kernel
theorem dX10_removeSlide_108 : decode cX10_removeSlide 108 = .ok (.ireturn, 1) := by decide +kernel
theorem dX10_moveSlide_0 : decode cX10_moveSlide 0 = .ok (.aload_n 0, 1) := by decide +kernel
theorem dX10_moveSlide_1 : decode cX10_moveSlide 1 = .ok (.iload_n 1, 1) := by decide +kernel
theorem dX10_moveSlide_2 : decode cX10_moveSlide 2 = .ok (.invokevirtual 30, 3) := by decide +kernel
theorem dX10_moveSlide_5 : decode cX10_moveSlide 5 = .ok (.ifCond .ne 5, 3) := by decide +kernel
theorem dX10_moveSlide_8 : decode cX10_moveSlide 8 = .ok (.iconst (-1), 1) := by decide +kernel
theorem dX10_moveSlide_9 : decode cX10_moveSlide 9 = .ok (.ireturn, 1) := by decide +kernel
theorem dX10_moveSlide_10 : decode cX10_moveSlide 10 = .ok (.iload_n 2, 1) := by decide +kernel
theorem dX10_moveSlide_11 : decode cX10_moveSlide 11 = .ok (.iconst 0, 1) := by decide +kernel
theorem dX10_moveSlide_12 : decode cX10_moveSlide 12 = .ok (.aload_n 0, 1) := by decide +kernel
theorem dX10_moveSlide_13 : decode cX10_moveSlide 13 = .ok (.getfield 7, 3) := by decide +kernel
theorem dX10_moveSlide_16 : decode cX10_moveSlide 16 = .ok (.iconst 0, 1) := by decide +kernel
theorem dX10_moveSlide_17 : decode cX10_moveSlide 17 = .ok (.iaload, 1) := by decide +kernel
theorem dX10_moveSlide_18 : decode cX10_moveSlide 18 = .ok (.iconst 1, 1) := by decide +kernel
theorem dX10_moveSlide_19 : decode cX10_moveSlide 19 = .ok (.isub, 1) := by decide +kernel
theorem dX10_moveSlide_20 : decode cX10_moveSlide 20 = .ok (.invokestatic 22, 3) := by decide +kernel
theorem dX10_moveSlide_23 : decode cX10_moveSlide 23 = .ok (.ifCond .ne 6, 3) := by decide +kernel
theorem dX10_moveSlide_26 : decode cX10_moveSlide 26 = .ok (.bipush (-2), 2) := by decide +kernel
theorem dX10_moveSlide_28 : decode cX10_moveSlide 28 = .ok (.ireturn, 1) := by decide +kernel
theorem dX10_moveSlide_29 : decode cX10_moveSlide 29 = .ok (.aload_n 0, 1) := by decide +kernel
theorem dX10_moveSlide_30 : decode cX10_moveSlide 30 = .ok (.invokevirtual 76, 3) := by decide +kernel
theorem dX10_moveSlide_33 : decode cX10_moveSlide 33 = .ok (.aload_n 0, 1) := by decide +kernel
theorem dX10_moveSlide_34 : decode cX10_moveSlide 34 = .ok (.iload_n 1, 1) := by decide +kernel
theorem dX10_moveSlide_35 : decode cX10_moveSlide 35 = .ok (.invokevirtual 82, 3) := by decide +kernel
theorem dX10_moveSlide_38 : decode cX10_moveSlide 38 = .ok (.istore_n 3, 1) := by decide +kernel
theorem dX10_moveSlide_39 : decode cX10_moveSlide 39 = .ok (.aload_n 0, 1) := by decide +kernel
theorem dX10_moveSlide_40 : decode cX10_moveSlide 40 = .ok (.getfield 7, 3) := by decide +kernel
theorem dX10_moveSlide_43 : decode cX10_moveSlide 43 = .ok (.iconst 0, 1) := by decide +kernel
theorem dX10_moveSlide_44 : decode cX10_moveSlide 44 = .ok (.iaload, 1) := by decide +kernel
theorem dX10_moveSlide_45 : decode cX10_moveSlide 45 = .ok (.istore 4, 2) := by decide +kernel
theorem dX10_moveSlide_47 : decode cX10_moveSlide 47 = .ok (.iload 4, 2) := by decide +kernel
theorem dX10_moveSlide_49 : decode cX10_moveSlide 49 = .ok (.iload_n 2, 1) := by decide +kernel
theorem dX10_moveSlide_50 : decode cX10_moveSlide 50 = .ok (.if_icmp .le 29, 3) := by decide +kernel
theorem dX10_moveSlide_53 : decode cX10_moveSlide 53 = .ok (.aload_n 0, 1) := by decide +kernel
theorem dX10_moveSlide_54 : decode cX10_moveSlide 54 = .ok (.getfield 7, 3) := by decide +kernel
theorem dX10_moveSlide_57 : decode cX10_moveSlide 57 = .ok (.iconst 1, 1) := by decide +kernel
theorem dX10_moveSlide_58 : decode cX10_moveSlide 58 = .ok (.iload 4, 2) := by decide +kernel
theorem dX10_moveSlide_60 : decode cX10_moveSlide 60 = .ok (.iadd, 1) := by decide +kernel
theorem dX10_moveSlide_61 : decode cX10_moveSlide 61 = .ok (.aload_n 0, 1) := by decide +kernel
theorem dX10_moveSlide_62 : decode cX10_moveSlide 62 = .ok (.getfield 7, 3) := by decide +kernel
theorem dX10_moveSlide_65 : decode cX10_moveSlide 65 = .ok (.iconst 1, 1) := by decide +kernel
theorem dX10_moveSlide_66 : decode cX10_moveSlide 66 = .ok (.iload 4, 2) := by decide +kernel
theorem dX10_moveSlide_68 : decode cX10_moveSlide 68 = .ok (.iadd, 1) := by decide +kernel
theorem dX10_moveSlide_69 : decode cX10_moveSlide 69 = .ok (.iconst 1, 1) := by decide +kernel
theorem dX10_moveSlide_70 : decode cX10_moveSlide 70 = .ok (.isub, 1) := by decide +kernel
theorem dX10_moveSlide_71 : decode cX10_moveSlide 71 = .ok (.iaload, 1) := by decide +kernel
theorem dX10_moveSlide_72 : decode cX10_moveSlide 72 = .ok (.iastore, 1) := by decide +kernel
theorem dX10_moveSlide_73 : decode cX10_moveSlide 73 = .ok (.iinc 4 (-1), 3) := by decide +kernel
theorem dX10_moveSlide_76 : decode cX10_moveSlide 76 = .ok (.goto (-29), 3) := by decide +kernel
theorem dX10_moveSlide_79 : decode cX10_moveSlide 79 = .ok (.aload_n 0, 1) := by decide +kernel
theorem dX10_moveSlide_80 : decode cX10_moveSlide 80 = .ok (.getfield 7, 3) := by decide +kernel
theorem dX10_moveSlide_83 : decode cX10_moveSlide 83 = .ok (.iconst 1, 1) := by decide +kernel
theorem dX10_moveSlide_84 : decode cX10_moveSlide 84 = .ok (.iload_n 2, 1) := by decide +kernel
theorem dX10_moveSlide_85 : decode cX10_moveSlide 85 = .ok (.iadd, 1) := by decide +kernel
theorem dX10_moveSlide_86 : decode cX10_moveSlide 86 = .ok (.iload_n 1, 1) := by decide +kernel
theorem dX10_moveSlide_87 : decode cX10_moveSlide 87 = .ok (.iastore, 1) := by decide +kernel
theorem dX10_moveSlide_88 : decode cX10_moveSlide 88 = .ok (.aload_n 0, 1) := by decide +kernel
theorem dX10_moveSlide_89 : decode cX10_moveSlide 89 = .ok (.getfield 7, 3) := by decide +kernel
theorem dX10_moveSlide_92 : decode cX10_moveSlide 92 = .ok (.iconst 0, 1) := by decide +kernel
theorem dX10_moveSlide_93 : decode cX10_moveSlide 93 = .ok (.dup2, 1) := by decide +kernel
theorem dX10_moveSlide_94 : decode cX10_moveSlide 94 = .ok (.iaload, 1) := by decide +kernel
theorem dX10_moveSlide_95 : decode cX10_moveSlide 95 = .ok (.iconst 1, 1) := by decide +kernel
theorem dX10_moveSlide_96 : decode cX10_moveSlide 96 = .ok (.iadd, 1) := by decide +kernel
theorem dX10_moveSlide_97 : decode cX10_moveSlide 97 = .ok (.iastore, 1) := by decide +kernel
theorem dX10_moveSlide_98 : decode cX10_moveSlide 98 = .ok (.iload_n 3, 1) := by decide +kernel
theorem dX10_moveSlide_99 : decode cX10_moveSlide 99 = .ok (.ireturn, 1) := by decide +kernel
theorem dX10_hide_0 : decode cX10_hide 0 = .ok (.aload_n 0, 1) := by decide +kernel
theorem dX10_hide_1 : decode cX10_hide 1 = .ok (.iload_n 1, 1) := by decide +kernel
theorem dX10_hide_2 : decode cX10_hide 2 = .ok (.invokevirtual 30, 3) := by decide +kernel
theorem dX10_hide_5 : decode cX10_hide 5 = .ok (.ifCond .ne 5, 3) := by decide +kernel
theorem dX10_hide_8 : decode cX10_hide 8 = .ok (.iconst (-1), 1) := by decide +kernel
theorem dX10_hide_9 : decode cX10_hide 9 = .ok (.ireturn, 1) := by decide +kernel
theorem dX10_hide_10 : decode cX10_hide 10 = .ok (.aload_n 0, 1) := by decide +kernel
theorem dX10_hide_11 : decode cX10_hide 11 = .ok (.invokevirtual 76, 3) := by decide +kernel
theorem dX10_hide_14 : decode cX10_hide 14 = .ok (.aload_n 0, 1) := by decide +kernel
theorem dX10_hide_15 : decode cX10_hide 15 = .ok (.iload_n 1, 1) := by decide +kernel
theorem dX10_hide_16 : decode cX10_hide 16 = .ok (.iconst 1, 1) := by decide +kernel
theorem dX10_hide_17 : decode cX10_hide 17 = .ok (.iload_n 2, 1) := by decide +kernel
theorem dX10_hide_18 : decode cX10_hide 18 = .ok (.ifCond .eq 7, 3) := by decide +kernel
theorem dX10_hide_21 : decode cX10_hide 21 = .ok (.iconst 1, 1) := by decide +kernel
theorem dX10_hide_22 : decode cX10_hide 22 = .ok (.goto 4, 3) := by decide +kernel
theorem dX10_hide_25 : decode cX10_hide 25 = .ok (.iconst 0, 1) := by decide +kernel
theorem dX10_hide_26 : decode cX10_hide 26 = .ok (.invokevirtual 79, 3) := by decide +kernel
theorem dX10_hide_29 : decode cX10_hide 29 = .ok (.iconst 0, 1) := by decide +kernel
theorem dX10_hide_30 : decode cX10_hide 30 = .ok (.istore_n 3, 1) := by decide +kernel
theorem dX10_hide_31 : decode cX10_hide 31 = .ok (.iconst 0, 1) := by decide +kernel
theorem dX10_hide_32 : decode cX10_hide 32 = .ok (.istore 4, 2) := by decide +kernel
theorem dX10_hide_34 : decode cX10_hide 34 = .ok (.iload 4, 2) := by decide +kernel
theorem dX10_hide_36 : decode cX10_hide 36 = .ok (.aload_n 0, 1) := by decide +kernel
theorem dX10_hide_37 : decode cX10_hide 37 = .ok (.getfield 7, 3) := by decide +kernel
theorem dX10_hide_40 : decode cX10_hide 40 = .ok (.iconst 0, 1) := by decide +kernel
theorem dX10_hide_41 : decode cX10_hide 41 = .ok (.iaload, 1) := by decide +kernel
theorem dX10_hide_42 : decode cX10_hide 42 = .ok (.if_icmp .ge 26, 3) := by decide +kernel
theorem dX10_hide_45 : decode cX10_hide 45 = .ok (.iload_n 3, 1) := by decide +kernel
theorem dX10_hide_46 : decode cX10_hide 46 = .ok (.aload_n 0, 1) := by decide +kernel
theorem dX10_hide_47 : decode cX10_hide 47 = .ok (.aload_n 0, 1) := by decide +kernel
theorem dX10_hide_48 : decode cX10_hide 48 = .ok (.getfield 7, 3) := by decide +kernel
theorem dX10_hide_51 : decode cX10_hide 51 = .ok (.iconst 1, 1) := by decide +kernel
theorem dX10_hide_52 : decode cX10_hide 52 = .ok (.iload 4, 2) := by decide +kernel
theorem dX10_hide_54 : decode cX10_hide 54 = .ok (.iadd, 1) := by decide +kernel
theorem dX10_hide_55 : decode cX10_hide 55 = .ok (.iaload, 1) := by decide +kernel
theorem dX10_hide_56 : decode cX10_hide 56 = .ok (.iconst 1, 1) := by decide +kernel
theorem dX10_hide_57 : decode cX10_hide 57 = .ok (.invokevirtual 26, 3) := by decide +kernel
theorem dX10_hide_60 : decode cX10_hide 60 = .ok (.iadd, 1) := by decide +kernel
theorem dX10_hide_61 : decode cX10_hide 61 = .ok (.istore_n 3, 1) := by decide +kernel
theorem dX10_hide_62 : decode cX10_hide 62 = .ok (.iinc 4 1, 3) := by decide +kernel
theorem dX10_hide_65 : decode cX10_hide 65 = .ok (.goto (-31), 3) := by decide +kernel
theorem dX10_hide_68 : decode cX10_hide 68 = .ok (.iload_n 3, 1) := by decide +kernel
theorem dX10_hide_69 : decode cX10_hide 69 = .ok (.ireturn, 1) := by decide +kernel
theorem dX10_setPause_0 : decode cX10_setPause 0 = .ok (.aload_n 0, 1) := by decide +kernel
theorem dX10_setPause_1 : decode cX10_setPause 1 = .ok (.iload_n 1, 1) := by decide +kernel
theorem dX10_setPause_2 : decode cX10_setPause 2 = .ok (.invokevirtual 30, 3) := by decide +kernel
theorem dX10_setPause_5 : decode cX10_setPause 5 = .ok (.ifCond .ne 5, 3) := by decide +kernel
theorem dX10_setPause_8 : decode cX10_setPause 8 = .ok (.iconst (-1), 1) := by decide +kernel
theorem dX10_setPause_9 : decode cX10_setPause 9 = .ok (.ireturn, 1) := by decide +kernel
theorem dX10_setPause_10 : decode cX10_setPause 10 = .ok (.iload_n 2, 1) := by decide +kernel
theorem dX10_setPause_11 : decode cX10_setPause 11 = .ok (.iconst 0, 1) := by decide +kernel
theorem dX10_setPause_12 : decode cX10_setPause 12 = .ok (.bipush 60, 2) := by decide +kernel
theorem dX10_setPause_14 : decode cX10_setPause 14 = .ok (.invokestatic 22, 3) := by decide +kernel
theorem dX10_setPause_17 : decode cX10_setPause 17 = .ok (.ifCond .ne 6, 3) := by decide +kernel
theorem dX10_setPause_20 : decode cX10_setPause 20 = .ok (.bipush (-2), 2) := by decide +kernel
theorem dX10_setPause_22 : decode cX10_setPause 22 = .ok (.ireturn, 1) := by decide +kernel
theorem dX10_setPause_23 : decode cX10_setPause 23 = .ok (.aload_n 0, 1) := by decide +kernel
theorem dX10_setPause_24 : decode cX10_setPause 24 = .ok (.invokevirtual 76, 3) := by decide +kernel
theorem dX10_setPause_27 : decode cX10_setPause 27 = .ok (.aload_n 0, 1) := by decide +kernel
theorem dX10_setPause_28 : decode cX10_setPause 28 = .ok (.iload_n 1, 1) := by decide +kernel
theorem dX10_setPause_29 : decode cX10_setPause 29 = .ok (.iconst 2, 1) := by decide +kernel
theorem dX10_setPause_30 : decode cX10_setPause 30 = .ok (.invokevirtual 26, 3) := by decide +kernel
theorem dX10_setPause_33 : decode cX10_setPause 33 = .ok (.istore_n 3, 1) := by decide +kernel
theorem dX10_setPause_34 : decode cX10_setPause 34 = .ok (.aload_n 0, 1) := by decide +kernel
theorem dX10_setPause_35 : decode cX10_setPause 35 = .ok (.iload_n 1, 1) := by decide +kernel
theorem dX10_setPause_36 : decode cX10_setPause 36 = .ok (.iconst 2, 1) := by decide +kernel
theorem dX10_setPause_37 : decode cX10_setPause 37 = .ok (.iload_n 2, 1) := by decide +kernel
theorem dX10_setPause_38 : decode cX10_setPause 38 = .ok (.invokevirtual 79, 3) := by decide +kernel
theorem dX10_setPause_41 : decode cX10_setPause 41 = .ok (.iload_n 3, 1) := by decide +kernel
theorem dX10_setPause_42 : decode cX10_setPause 42 = .ok (.ireturn, 1) := by decide +kernel
theorem dX10_addItem_0 : decode cX10_addItem 0 = .ok (.aload_n 0, 1) := by decide +kernel
theorem dX10_addItem_1 : decode cX10_addItem 1 = .ok (.iload_n 1, 1) := by decide +kernel
theorem dX10_addItem_2 : decode cX10_addItem 2 = .ok (.invokevirtual 30, 3) := by decide +kernel
theorem dX10_addItem_5 : decode cX10_addItem 5 = .ok (.ifCond .ne 5, 3) := by decide +kernel
theorem dX10_addItem_8 : decode cX10_addItem 8 = .ok (.iconst (-1), 1) := by decide +kernel
theorem dX10_addItem_9 : decode cX10_addItem 9 = .ok (.ireturn, 1) := by decide +kernel
theorem dX10_addItem_10 : decode cX10_addItem 10 = .ok (.iload_n 3, 1) := by decide +kernel
theorem dX10_addItem_11 : decode cX10_addItem 11 = .ok (.iconst (-1), 1) := by decide +kernel
theorem dX10_addItem_12 : decode cX10_addItem 12 = .ok (.if_icmp .eq 13, 3) := by decide +kernel
theorem dX10_addItem_15 : decode cX10_addItem 15 = .ok (.iload_n 3, 1) := by decide +kernel
theorem dX10_addItem_16 : decode cX10_addItem 16 = .ok (.iload_n 2, 1) := by decide +kernel
theorem dX10_addItem_17 : decode cX10_addItem 17 = .ok (.bipush 9, 2) := by decide +kernel
theorem dX10_addItem_19 : decode cX10_addItem 19 = .ok (.invokestatic 22, 3) := by decide +kernel
theorem dX10_addItem_22 : decode cX10_addItem 22 = .ok (.ifCond .eq 7, 3) := by decide +kernel
theorem dX10_addItem_25 : decode cX10_addItem 25 = .ok (.iconst 1, 1) := by decide +kernel
theorem dX10_addItem_26 : decode cX10_addItem 26 = .ok (.goto 4, 3) := by decide +kernel
theorem dX10_addItem_29 : decode cX10_addItem 29 = .ok (.iconst 0, 1) := by decide +kernel
theorem dX10_addItem_30 : decode cX10_addItem 30 = .ok (.istore 5, 2) := by decide +kernel
theorem dX10_addItem_32 : decode cX10_addItem 32 = .ok (.iload_n 2, 1) := by decide +kernel
theorem dX10_addItem_33 : decode cX10_addItem 33 = .ok (.iconst 0, 1) := by decide +kernel
theorem dX10_addItem_34 : decode cX10_addItem 34 = .ok (.bipush 9, 2) := by decide +kernel
theorem dX10_addItem_36 : decode cX10_addItem 36 = .ok (.invokestatic 22, 3) := by decide +kernel
theorem dX10_addItem_39 : decode cX10_addItem 39 = .ok (.ifCond .eq 19, 3) := by decide +kernel
theorem dX10_addItem_42 : decode cX10_addItem 42 = .ok (.iload 5, 2) := by decide +kernel
theorem dX10_addItem_44 : decode cX10_addItem 44 = .ok (.ifCond .eq 14, 3) := by decide +kernel
theorem dX10_addItem_47 : decode cX10_addItem 47 = .ok (.iload 4, 2) := by decide +kernel
theorem dX10_addItem_49 : decode cX10_addItem 49 = .ok (.iconst 0, 1) := by decide +kernel
theorem dX10_addItem_50 : decode cX10_addItem 50 = .ok (.bipush 99, 2) := by decide +kernel
theorem dX10_addItem_52 : decode cX10_addItem 52 = .ok (.invokestatic 22, 3) := by decide +kernel
theorem dX10_addItem_55 : decode cX10_addItem 55 = .ok (.ifCond .ne 6, 3) := by decide +kernel
theorem dX10_addItem_58 : decode cX10_addItem 58 = .ok (.bipush (-2), 2) := by decide +kernel
theorem dX10_addItem_60 : decode cX10_addItem 60 = .ok (.ireturn, 1) := by decide +kernel
theorem dX10_addItem_61 : decode cX10_addItem 61 = .ok (.aload_n 0, 1) := by decide +kernel
theorem dX10_addItem_62 : decode cX10_addItem 62 = .ok (.iload_n 1, 1) := by decide +kernel
theorem dX10_addItem_63 : decode cX10_addItem 63 = .ok (.iconst 3, 1) := by decide +kernel
theorem dX10_addItem_64 : decode cX10_addItem 64 = .ok (.invokevirtual 26, 3) := by decide +kernel
theorem dX10_addItem_67 : decode cX10_addItem 67 = .ok (.bipush 6, 2) := by decide +kernel
theorem dX10_addItem_69 : decode cX10_addItem 69 = .ok (.if_icmp .ne 6, 3) := by decide +kernel
theorem dX10_addItem_72 : decode cX10_addItem 72 = .ok (.bipush (-4), 2) := by decide +kernel
theorem dX10_addItem_74 : decode cX10_addItem 74 = .ok (.ireturn, 1) := by decide +kernel
theorem dX10_addItem_75 : decode cX10_addItem 75 = .ok (.aload_n 0, 1) := by decide +kernel
theorem dX10_addItem_76 : decode cX10_addItem 76 = .ok (.invokevirtual 76, 3) := by decide +kernel
theorem dX10_addItem_79 : decode cX10_addItem 79 = .ok (.aload_n 0, 1) := by decide +kernel
theorem dX10_addItem_80 : decode cX10_addItem 80 = .ok (.iload_n 1, 1) := by decide +kernel
theorem dX10_addItem_81 : decode cX10_addItem 81 = .ok (.iconst 3, 1) := by decide +kernel
theorem dX10_addItem_82 : decode cX10_addItem 82 = .ok (.invokevirtual 26, 3) := by decide +kernel
theorem dX10_addItem_85 : decode cX10_addItem 85 = .ok (.istore 6, 2) := by decide +kernel
theorem dX10_addItem_87 : decode cX10_addItem 87 = .ok (.aload_n 0, 1) := by decide +kernel
theorem dX10_addItem_88 : decode cX10_addItem 88 = .ok (.iload_n 1, 1) := by decide +kernel
theorem dX10_addItem_89 : decode cX10_addItem 89 = .ok (.iconst 4, 1) := by decide +kernel
theorem dX10_addItem_90 : decode cX10_addItem 90 = .ok (.iconst 3, 1) := by decide +kernel
theorem dX10_addItem_91 : decode cX10_addItem 91 = .ok (.iload 6, 2) := by decide +kernel
theorem dX10_addItem_93 : decode cX10_addItem 93 = .ok (.imul, 1) := by decide +kernel
theorem dX10_addItem_94 : decode cX10_addItem 94 = .ok (.iadd, 1) := by decide +kernel
theorem dX10_addItem_95 : decode cX10_addItem 95 = .ok (.iload_n 2, 1) := by decide +kernel
theorem dX10_addItem_96 : decode cX10_addItem 96 = .ok (.invokevirtual 79, 3) := by decide +kernel
theorem dX10_addItem_99 : decode cX10_addItem 99 = .ok (.aload_n 0, 1) := by decide +kernel
theorem dX10_addItem_100 : decode cX10_addItem 100 = .ok (.iload_n 1, 1) := by decide +kernel
theorem dX10_addItem_101 : decode cX10_addItem 101 = .ok (.iconst 4, 1) := by decide +kernel
theorem dX10_addItem_102 : decode cX10_addItem 102 = .ok (.iconst 3, 1) := by decide +kernel
theorem dX10_addItem_103 : decode cX10_addItem 103 = .ok (.iload 6, 2) := by decide +kernel
theorem dX10_addItem_105 : decode cX10_addItem 105 = .ok (.imul, 1) := by decide +kernel
theorem dX10_addItem_106 : decode cX10_addItem 106 = .ok (.iadd, 1) := by decide +kernel
theorem dX10_addItem_107 : decode cX10_addItem 107 = .ok (.iconst 1, 1) := by decide +kernel
theorem dX10_addItem_108 : decode cX10_addItem 108 = .ok (.iadd, 1) := by decide +kernel
theorem dX10_addItem_109 : decode cX10_addItem 109 = .ok (.iload_n 3, 1) := by decide +kernel
theorem dX10_addItem_110 : decode cX10_addItem 110 = .ok (.invokevirtual 79, 3) := by decide +kernel
theorem dX10_addItem_113 : decode cX10_addItem 113 = .ok (.aload_n 0, 1) := by decide +kernel
theorem dX10_addItem_114 : decode cX10_addItem 114 = .ok (.iload_n 1, 1) := by decide +kernel
theorem dX10_addItem_115 : decode cX10_addItem 115 = .ok (.iconst 4, 1) := by decide +kernel
theorem dX10_addItem_116 : decode cX10_addItem 116 = .ok (.iconst 3, 1) := by decide +kernel
theorem dX10_addItem_117 : decode cX10_addItem 117 = .ok (.iload 6, 2) := by decide +kernel
theorem dX10_addItem_119 : decode cX10_addItem 119 = .ok (.imul, 1) := by decide +kernel
theorem dX10_addItem_120 : decode cX10_addItem 120 = .ok (.iadd, 1) := by decide +kernel
theorem dX10_addItem_121 : decode cX10_addItem 121 = .ok (.iconst 2, 1) := by decide +kernel
theorem dX10_addItem_122 : decode cX10_addItem 122 = .ok (.iadd, 1) := by decide +kernel
theorem dX10_addItem_123 : decode cX10_addItem 123 = .ok (.iload 4, 2) := by decide +kernel
theorem dX10_addItem_125 : decode cX10_addItem 125 = .ok (.invokevirtual 79, 3) := by decide +kernel
theorem dX10_addItem_128 : decode cX10_addItem 128 = .ok (.aload_n 0, 1) := by decide +kernel
theorem dX10_addItem_129 : decode cX10_addItem 129 = .ok (.iload_n 1, 1) := by decide +kernel
theorem dX10_addItem_130 : decode cX10_addItem 130 = .ok (.iconst 3, 1) := by decide +kernel
theorem dX10_addItem_131 : decode cX10_addItem 131 = .ok (.iload 6, 2) := by decide +kernel
theorem dX10_addItem_133 : decode cX10_addItem 133 = .ok (.iconst 1, 1) := by decide +kernel
theorem dX10_addItem_134 : decode cX10_addItem 134 = .ok (.iadd, 1) := by decide +kernel
theorem dX10_addItem_135 : decode cX10_addItem 135 = .ok (.invokevirtual 79, 3) := by decide +kernel
theorem dX10_addItem_138 : decode cX10_addItem 138 = .ok (.iload 6, 2) := by decide +kernel
theorem dX10_addItem_140 : decode cX10_addItem 140 = .ok (.ireturn, 1) := by decide +kernel
theorem dX10_removeItem_0 : decode cX10_removeItem 0 = .ok (.aload_n 0, 1) := by decide +kernel
theorem dX10_removeItem_1 : decode cX10_removeItem 1 = .ok (.iload_n 1, 1) := by decide +kernel
theorem dX10_removeItem_2 : decode cX10_removeItem 2 = .ok (.iload_n 2, 1) := by decide +kernel
theorem dX10_removeItem_3 : decode cX10_removeItem 3 = .ok (.invokevirtual 85, 3) := by decide +kernel
theorem dX10_removeItem_6 : decode cX10_removeItem 6 = .ok (.ifCond .ne 5, 3) := by decide +kernel
theorem dX10_removeItem_9 : decode cX10_removeItem 9 = .ok (.iconst (-1), 1) := by decide +kernel
theorem dX10_removeItem_10 : decode cX10_removeItem 10 = .ok (.ireturn, 1) := by decide +kernel
theorem dX10_removeItem_11 : decode cX10_removeItem 11 = .ok (.aload_n 0, 1) := by decide +kernel
theorem dX10_removeItem_12 : decode cX10_removeItem 12 = .ok (.invokevirtual 76, 3) := by decide +kernel
theorem dX10_removeItem_15 : decode cX10_removeItem 15 = .ok (.aload_n 0, 1) := by decide +kernel
theorem dX10_removeItem_16 : decode cX10_removeItem 16 = .ok (.iload_n 1, 1) := by decide +kernel
theorem dX10_removeItem_17 : decode cX10_removeItem 17 = .ok (.iconst 3, 1) := by decide +kernel
theorem dX10_removeItem_18 : decode cX10_removeItem 18 = .ok (.invokevirtual 26, 3) := by decide +kernel
theorem dX10_removeItem_21 : decode cX10_removeItem 21 = .ok (.iconst 1, 1) := by decide +kernel
theorem dX10_removeItem_22 : decode cX10_removeItem 22 = .ok (.isub, 1) := by decide +kernel
theorem dX10_removeItem_23 : decode cX10_removeItem 23 = .ok (.istore_n 3, 1) := by decide +kernel
theorem dX10_removeItem_24 : decode cX10_removeItem 24 = .ok (.iconst 3, 1) := by decide +kernel
theorem dX10_removeItem_25 : decode cX10_removeItem 25 = .ok (.iload_n 2, 1) := by decide +kernel
theorem dX10_removeItem_26 : decode cX10_removeItem 26 = .ok (.imul, 1) := by decide +kernel
theorem dX10_removeItem_27 : decode cX10_removeItem 27 = .ok (.istore 4, 2) := by decide +kernel
theorem dX10_removeItem_29 : decode cX10_removeItem 29 = .ok (.iload 4, 2) := by decide +kernel
theorem dX10_removeItem_31 : decode cX10_removeItem 31 = .ok (.iconst 3, 1) := by decide +kernel
theorem dX10_removeItem_32 : decode cX10_removeItem 32 = .ok (.iload_n 3, 1) := by decide +kernel
theorem dX10_removeItem_33 : decode cX10_removeItem 33 = .ok (.imul, 1) := by decide +kernel
theorem dX10_removeItem_34 : decode cX10_removeItem 34 = .ok (.if_icmp .ge 29, 3) := by decide +kernel
theorem dX10_removeItem_37 : decode cX10_removeItem 37 = .ok (.aload_n 0, 1) := by decide +kernel
theorem dX10_removeItem_38 : decode cX10_removeItem 38 = .ok (.iload_n 1, 1) := by decide +kernel
theorem dX10_removeItem_39 : decode cX10_removeItem 39 = .ok (.iconst 4, 1) := by decide +kernel
theorem dX10_removeItem_40 : decode cX10_removeItem 40 = .ok (.iload 4, 2) := by decide +kernel
theorem dX10_removeItem_42 : decode cX10_removeItem 42 = .ok (.iadd, 1) := by decide +kernel
theorem dX10_removeItem_43 : decode cX10_removeItem 43 = .ok (.aload_n 0, 1) := by decide +kernel
theorem dX10_removeItem_44 : decode cX10_removeItem 44 = .ok (.iload_n 1, 1) := by decide +kernel
theorem dX10_removeItem_45 : decode cX10_removeItem 45 = .ok (.iconst 4, 1) := by decide +kernel
theorem dX10_removeItem_46 : decode cX10_removeItem 46 = .ok (.iload 4, 2) := by decide +kernel
theorem dX10_removeItem_48 : decode cX10_removeItem 48 = .ok (.iadd, 1) := by decide +kernel
theorem dX10_removeItem_49 : decode cX10_removeItem 49 = .ok (.iconst 3, 1) := by decide +kernel
theorem dX10_removeItem_50 : decode cX10_removeItem 50 = .ok (.iadd, 1) := by decide +kernel
theorem dX10_removeItem_51 : decode cX10_removeItem 51 = .ok (.invokevirtual 26, 3) := by decide +kernel
theorem dX10_removeItem_54 : decode cX10_removeItem 54 = .ok (.invokevirtual 79, 3) := by decide +kernel
theorem dX10_removeItem_57 : decode cX10_removeItem 57 = .ok (.iinc 4 1, 3) := by decide +kernel
theorem dX10_removeItem_60 : decode cX10_removeItem 60 = .ok (.goto (-31), 3) := by decide +kernel
theorem dX10_removeItem_63 : decode cX10_removeItem 63 = .ok (.aload_n 0, 1) := by decide +kernel
theorem dX10_removeItem_64 : decode cX10_removeItem 64 = .ok (.iload_n 1, 1) := by decide +kernel
theorem dX10_removeItem_65 : decode cX10_removeItem 65 = .ok (.iconst 3, 1) := by decide +kernel
theorem dX10_removeItem_66 : decode cX10_removeItem 66 = .ok (.iload_n 3, 1) := by decide +kernel
theorem dX10_removeItem_67 : decode cX10_removeItem 67 = .ok (.invokevirtual 79, 3) := by decide +kernel
theorem dX10_removeItem_70 : decode cX10_removeItem 70 = .ok (.aload_n 0, 1) := by decide +kernel
theorem dX10_removeItem_71 : decode cX10_removeItem 71 = .ok (.getfield 7, 3) := by decide +kernel
theorem dX10_removeItem_74 : decode cX10_removeItem 74 = .ok (.bipush 29, 2) := by decide +kernel
theorem dX10_removeItem_76 : decode cX10_removeItem 76 = .ok (.iaload, 1) := by decide +kernel
theorem dX10_removeItem_77 : decode cX10_removeItem 77 = .ok (.iconst 1, 1) := by decide +kernel
theorem dX10_removeItem_78 : decode cX10_removeItem 78 = .ok (.if_icmp .ne 41, 3) := by decide +kernel
theorem dX10_removeItem_81 : decode cX10_removeItem 81 = .ok (.aload_n 0, 1) := by decide +kernel
theorem dX10_removeItem_82 : decode cX10_removeItem 82 = .ok (.getfield 7, 3) := by decide +kernel
theorem dX10_removeItem_85 : decode cX10_removeItem 85 = .ok (.bipush 30, 2) := by decide +kernel
theorem dX10_removeItem_87 : decode cX10_removeItem 87 = .ok (.iaload, 1) := by decide +kernel
theorem dX10_removeItem_88 : decode cX10_removeItem 88 = .ok (.iload_n 1, 1) := by decide +kernel
theorem dX10_removeItem_89 : decode cX10_removeItem 89 = .ok (.if_icmp .ne 30, 3) := by decide +kernel
theorem dX10_removeItem_92 : decode cX10_removeItem 92 = .ok (.aload_n 0, 1) := by decide +kernel
theorem dX10_removeItem_93 : decode cX10_removeItem 93 = .ok (.getfield 7, 3) := by decide +kernel
theorem dX10_removeItem_96 : decode cX10_removeItem 96 = .ok (.bipush 31, 2) := by decide +kernel
theorem dX10_removeItem_98 : decode cX10_removeItem 98 = .ok (.iaload, 1) := by decide +kernel
theorem dX10_removeItem_99 : decode cX10_removeItem 99 = .ok (.aload_n 0, 1) := by decide +kernel
theorem dX10_removeItem_100 : decode cX10_removeItem 100 = .ok (.iload_n 1, 1) := by decide +kernel
theorem dX10_removeItem_101 : decode cX10_removeItem 101 = .ok (.invokevirtual 48, 3) := by decide +kernel
theorem dX10_removeItem_104 : decode cX10_removeItem 104 = .ok (.if_icmp .le 15, 3) := by decide +kernel
theorem dX10_removeItem_107 : decode cX10_removeItem 107 = .ok (.aload_n 0, 1) := by decide +kernel
theorem dX10_removeItem_108 : decode cX10_removeItem 108 = .ok (.getfield 7, 3) := by decide +kernel
theorem dX10_removeItem_111 : decode cX10_removeItem 111 = .ok (.bipush 31, 2) := by decide +kernel
theorem dX10_removeItem_113 : decode cX10_removeItem 113 = .ok (.aload_n 0, 1) := by decide +kernel
theorem dX10_removeItem_114 : decode cX10_removeItem 114 = .ok (.iload_n 1, 1) := by decide +kernel
theorem dX10_removeItem_115 : decode cX10_removeItem 115 = .ok (.invokevirtual 48, 3) := by decide +kernel
theorem dX10_removeItem_118 : decode cX10_removeItem 118 = .ok (.iastore, 1) := by decide +kernel
theorem dX10_removeItem_119 : decode cX10_removeItem 119 = .ok (.iload_n 3, 1) := by decide +kernel
theorem dX10_removeItem_120 : decode cX10_removeItem 120 = .ok (.ireturn, 1) := by decide +kernel
theorem dX10_link_0 : decode cX10_link 0 = .ok (.aload_n 0, 1) := by decide +kernel
theorem dX10_link_1 : decode cX10_link 1 = .ok (.iload_n 1, 1) := by decide +kernel
theorem dX10_link_2 : decode cX10_link 2 = .ok (.invokevirtual 30, 3) := by decide +kernel
theorem dX10_link_5 : decode cX10_link 5 = .ok (.ifCond .eq 11, 3) := by decide +kernel
theorem dX10_link_8 : decode cX10_link 8 = .ok (.aload_n 0, 1) := by decide +kernel
theorem dX10_link_9 : decode cX10_link 9 = .ok (.iload_n 3, 1) := by decide +kernel
theorem dX10_link_10 : decode cX10_link 10 = .ok (.invokevirtual 30, 3) := by decide +kernel
theorem dX10_link_13 : decode cX10_link 13 = .ok (.ifCond .ne 5, 3) := by decide +kernel
theorem dX10_link_16 : decode cX10_link 16 = .ok (.iconst (-1), 1) := by decide +kernel
theorem dX10_link_17 : decode cX10_link 17 = .ok (.ireturn, 1) := by decide +kernel
theorem dX10_link_18 : decode cX10_link 18 = .ok (.aload_n 0, 1) := by decide +kernel
theorem dX10_link_19 : decode cX10_link 19 = .ok (.iload_n 2, 1) := by decide +kernel
theorem dX10_link_20 : decode cX10_link 20 = .ok (.invokevirtual 89, 3) := by decide +kernel
theorem dX10_link_23 : decode cX10_link 23 = .ok (.ifCond .ne 6, 3) := by decide +kernel
theorem dX10_link_26 : decode cX10_link 26 = .ok (.bipush (-2), 2) := by decide +kernel
theorem dX10_link_28 : decode cX10_link 28 = .ok (.ireturn, 1) := by decide +kernel
theorem dX10_link_29 : decode cX10_link 29 = .ok (.aload_n 0, 1) := by decide +kernel
theorem dX10_link_30 : decode cX10_link 30 = .ok (.iload_n 1, 1) := by decide +kernel
theorem dX10_link_31 : decode cX10_link 31 = .ok (.bipush 22, 2) := by decide +kernel
theorem dX10_link_33 : decode cX10_link 33 = .ok (.iload_n 2, 1) := by decide +kernel
theorem dX10_link_34 : decode cX10_link 34 = .ok (.iadd, 1) := by decide +kernel
theorem dX10_link_35 : decode cX10_link 35 = .ok (.invokevirtual 26, 3) := by decide +kernel
theorem dX10_link_38 : decode cX10_link 38 = .ok (.bipush (-6), 2) := by decide +kernel
theorem dX10_link_40 : decode cX10_link 40 = .ok (.if_icmp .ne 15, 3) := by decide +kernel
theorem dX10_link_43 : decode cX10_link 43 = .ok (.aload_n 0, 1) := by decide +kernel
theorem dX10_link_44 : decode cX10_link 44 = .ok (.iload_n 1, 1) := by decide +kernel
theorem dX10_link_45 : decode cX10_link 45 = .ok (.invokevirtual 92, 3) := by decide +kernel
theorem dX10_link_48 : decode cX10_link 48 = .ok (.iconst 3, 1) := by decide +kernel
theorem dX10_link_49 : decode cX10_link 49 = .ok (.if_icmp .ne 6, 3) := by decide +kernel
theorem dX10_link_52 : decode cX10_link 52 = .ok (.bipush (-4), 2) := by decide +kernel
theorem dX10_link_54 : decode cX10_link 54 = .ok (.ireturn, 1) := by decide +kernel
theorem dX10_link_55 : decode cX10_link 55 = .ok (.aload_n 0, 1) := by decide +kernel
theorem dX10_link_56 : decode cX10_link 56 = .ok (.invokevirtual 76, 3) := by decide +kernel
theorem dX10_link_59 : decode cX10_link 59 = .ok (.aload_n 0, 1) := by decide +kernel
theorem dX10_link_60 : decode cX10_link 60 = .ok (.iload_n 1, 1) := by decide +kernel
theorem dX10_link_61 : decode cX10_link 61 = .ok (.bipush 22, 2) := by decide +kernel
theorem dX10_link_63 : decode cX10_link 63 = .ok (.iload_n 2, 1) := by decide +kernel
theorem dX10_link_64 : decode cX10_link 64 = .ok (.iadd, 1) := by decide +kernel
theorem dX10_link_65 : decode cX10_link 65 = .ok (.iload_n 3, 1) := by decide +kernel
theorem dX10_link_66 : decode cX10_link 66 = .ok (.invokevirtual 79, 3) := by decide +kernel
theorem dX10_link_69 : decode cX10_link 69 = .ok (.aload_n 0, 1) := by decide +kernel
theorem dX10_link_70 : decode cX10_link 70 = .ok (.iload_n 1, 1) := by decide +kernel
theorem dX10_link_71 : decode cX10_link 71 = .ok (.invokevirtual 92, 3) := by decide +kernel
theorem dX10_link_74 : decode cX10_link 74 = .ok (.ireturn, 1) := by decide +kernel
theorem dX10_unlink_0 : decode cX10_unlink 0 = .ok (.aload_n 0, 1) := by decide +kernel
theorem dX10_unlink_1 : decode cX10_unlink 1 = .ok (.iload_n 1, 1) := by decide +kernel
theorem dX10_unlink_2 : decode cX10_unlink 2 = .ok (.invokevirtual 30, 3) := by decide +kernel
theorem dX10_unlink_5 : decode cX10_unlink 5 = .ok (.ifCond .eq 25, 3) := by decide +kernel
theorem dX10_unlink_8 : decode cX10_unlink 8 = .ok (.aload_n 0, 1) := by decide +kernel
theorem dX10_unlink_9 : decode cX10_unlink 9 = .ok (.iload_n 2, 1) := by decide +kernel
theorem dX10_unlink_10 : decode cX10_unlink 10 = .ok (.invokevirtual 89, 3) := by decide +kernel
theorem dX10_unlink_13 : decode cX10_unlink 13 = .ok (.ifCond .eq 17, 3) := by decide +kernel
theorem dX10_unlink_16 : decode cX10_unlink 16 = .ok (.aload_n 0, 1) := by decide +kernel
theorem dX10_unlink_17 : decode cX10_unlink 17 = .ok (.iload_n 1, 1) := by decide +kernel
theorem dX10_unlink_18 : decode cX10_unlink 18 = .ok (.bipush 22, 2) := by decide +kernel
theorem dX10_unlink_20 : decode cX10_unlink 20 = .ok (.iload_n 2, 1) := by decide +kernel
theorem dX10_unlink_21 : decode cX10_unlink 21 = .ok (.iadd, 1) := by decide +kernel
theorem dX10_unlink_22 : decode cX10_unlink 22 = .ok (.invokevirtual 26, 3) := by decide +kernel
theorem dX10_unlink_25 : decode cX10_unlink 25 = .ok (.bipush (-6), 2) := by decide +kernel
theorem dX10_unlink_27 : decode cX10_unlink 27 = .ok (.if_icmp .ne 5, 3) := by decide +kernel
theorem dX10_unlink_30 : decode cX10_unlink 30 = .ok (.iconst (-1), 1) := by decide +kernel
theorem dX10_unlink_31 : decode cX10_unlink 31 = .ok (.ireturn, 1) := by decide +kernel
theorem dX10_unlink_32 : decode cX10_unlink 32 = .ok (.aload_n 0, 1) := by decide +kernel
theorem dX10_unlink_33 : decode cX10_unlink 33 = .ok (.invokevirtual 76, 3) := by decide +kernel
theorem dX10_unlink_36 : decode cX10_unlink 36 = .ok (.aload_n 0, 1) := by decide +kernel
theorem dX10_unlink_37 : decode cX10_unlink 37 = .ok (.iload_n 1, 1) := by decide +kernel
theorem dX10_unlink_38 : decode cX10_unlink 38 = .ok (.bipush 22, 2) := by decide +kernel
theorem dX10_unlink_40 : decode cX10_unlink 40 = .ok (.iload_n 2, 1) := by decide +kernel
theorem dX10_unlink_41 : decode cX10_unlink 41 = .ok (.iadd, 1) := by decide +kernel
theorem dX10_unlink_42 : decode cX10_unlink 42 = .ok (.bipush (-6), 2) := by decide +kernel
theorem dX10_unlink_44 : decode cX10_unlink 44 = .ok (.invokevirtual 79, 3) := by decide +kernel
theorem dX10_unlink_47 : decode cX10_unlink 47 = .ok (.aload_n 0, 1) := by decide +kernel
theorem dX10_unlink_48 : decode cX10_unlink 48 = .ok (.iload_n 1, 1) := by decide +kernel
theorem dX10_unlink_49 : decode cX10_unlink 49 = .ok (.invokevirtual 92, 3) := by decide +kernel
theorem dX10_unlink_52 : decode cX10_unlink 52 = .ok (.ireturn, 1) := by decide +kernel
theorem dX10_notePlace_0 : decode cX10_notePlace 0 = .ok (.iconst 0, 1) := by decide +kernel
theorem dX10_notePlace_1 : decode cX10_notePlace 1 = .ok (.istore_n 2, 1) := by decide +kernel
theorem dX10_notePlace_2 : decode cX10_notePlace 2 = .ok (.iload_n 2, 1) := by decide +kernel
theorem dX10_notePlace_3 : decode cX10_notePlace 3 = .ok (.aload_n 0, 1) := by decide +kernel
theorem dX10_notePlace_4 : decode cX10_notePlace 4 = .ok (.getfield 7, 3) := by decide +kernel
theorem dX10_notePlace_7 : decode cX10_notePlace 7 = .ok (.bipush 11, 2) := by decide +kernel
theorem dX10_notePlace_9 : decode cX10_notePlace 9 = .ok (.iaload, 1) := by decide +kernel
theorem dX10_notePlace_10 : decode cX10_notePlace 10 = .ok (.if_icmp .ge 26, 3) := by decide +kernel
theorem dX10_notePlace_13 : decode cX10_notePlace 13 = .ok (.aload_n 0, 1) := by decide +kernel
theorem dX10_notePlace_14 : decode cX10_notePlace 14 = .ok (.getfield 7, 3) := by decide +kernel
theorem dX10_notePlace_17 : decode cX10_notePlace 17 = .ok (.bipush 12, 2) := by decide +kernel
theorem dX10_notePlace_19 : decode cX10_notePlace 19 = .ok (.iconst 2, 1) := by decide +kernel
theorem dX10_notePlace_20 : decode cX10_notePlace 20 = .ok (.iload_n 2, 1) := by decide +kernel
theorem dX10_notePlace_21 : decode cX10_notePlace 21 = .ok (.imul, 1) := by decide +kernel
theorem dX10_notePlace_22 : decode cX10_notePlace 22 = .ok (.iadd, 1) := by decide +kernel
theorem dX10_notePlace_23 : decode cX10_notePlace 23 = .ok (.iaload, 1) := by decide +kernel
theorem dX10_notePlace_24 : decode cX10_notePlace 24 = .ok (.iload_n 1, 1) := by decide +kernel
theorem dX10_notePlace_25 : decode cX10_notePlace 25 = .ok (.if_icmp .ne 5, 3) := by decide +kernel
theorem dX10_notePlace_28 : decode cX10_notePlace 28 = .ok (.iload_n 2, 1) := by decide +kernel
theorem dX10_notePlace_29 : decode cX10_notePlace 29 = .ok (.ireturn, 1) := by decide +kernel
theorem dX10_notePlace_30 : decode cX10_notePlace 30 = .ok (.iinc 2 1, 3) := by decide +kernel
theorem dX10_notePlace_33 : decode cX10_notePlace 33 = .ok (.goto (-31), 3) := by decide +kernel
theorem dX10_notePlace_36 : decode cX10_notePlace 36 = .ok (.bipush (-6), 2) := by decide +kernel
theorem dX10_notePlace_38 : decode cX10_notePlace 38 = .ok (.ireturn, 1) := by decide +kernel
theorem dX10_note_0 : decode cX10_note 0 = .ok (.iload_n 1, 1) := by decide +kernel
theorem dX10_note_1 : decode cX10_note 1 = .ok (.iconst 0, 1) := by decide +kernel
theorem dX10_note_2 : decode cX10_note 2 = .ok (.sipush 9999, 3) := by decide +kernel
theorem dX10_note_5 : decode cX10_note 5 = .ok (.invokestatic 22, 3) := by decide +kernel
theorem dX10_note_8 : decode cX10_note 8 = .ok (.ifCond .eq 13, 3) := by decide +kernel
theorem dX10_note_11 : decode cX10_note 11 = .ok (.iload_n 2, 1) := by decide +kernel
theorem dX10_note_12 : decode cX10_note 12 = .ok (.iconst (-1), 1) := by decide +kernel
theorem dX10_note_13 : decode cX10_note 13 = .ok (.bipush 99, 2) := by decide +kernel
theorem dX10_note_15 : decode cX10_note 15 = .ok (.invokestatic 22, 3) := by decide +kernel
theorem dX10_note_18 : decode cX10_note 18 = .ok (.ifCond .ne 6, 3) := by decide +kernel
theorem dX10_note_21 : decode cX10_note 21 = .ok (.bipush (-2), 2) := by decide +kernel
theorem dX10_note_23 : decode cX10_note 23 = .ok (.ireturn, 1) := by decide +kernel
theorem dX10_note_24 : decode cX10_note 24 = .ok (.aload_n 0, 1) := by decide +kernel
theorem dX10_note_25 : decode cX10_note 25 = .ok (.iload_n 1, 1) := by decide +kernel
theorem dX10_note_26 : decode cX10_note 26 = .ok (.invokevirtual 95, 3) := by decide +kernel
theorem dX10_note_29 : decode cX10_note 29 = .ok (.istore_n 3, 1) := by decide +kernel
theorem dX10_note_30 : decode cX10_note 30 = .ok (.iload_n 2, 1) := by decide +kernel
theorem dX10_note_31 : decode cX10_note 31 = .ok (.iconst (-1), 1) := by decide +kernel
theorem dX10_note_32 : decode cX10_note 32 = .ok (.if_icmp .ne 11, 3) := by decide +kernel
theorem dX10_note_35 : decode cX10_note 35 = .ok (.iload_n 3, 1) := by decide +kernel
theorem dX10_note_36 : decode cX10_note 36 = .ok (.bipush (-6), 2) := by decide +kernel
theorem dX10_note_38 : decode cX10_note 38 = .ok (.if_icmp .ne 5, 3) := by decide +kernel
theorem dX10_note_41 : decode cX10_note 41 = .ok (.iconst (-1), 1) := by decide +kernel
theorem dX10_note_42 : decode cX10_note 42 = .ok (.ireturn, 1) := by decide +kernel
theorem dX10_note_43 : decode cX10_note 43 = .ok (.iload_n 3, 1) := by decide +kernel
theorem dX10_note_44 : decode cX10_note 44 = .ok (.bipush (-6), 2) := by decide +kernel
theorem dX10_note_46 : decode cX10_note 46 = .ok (.if_icmp .ne 18, 3) := by decide +kernel
theorem dX10_note_49 : decode cX10_note 49 = .ok (.aload_n 0, 1) := by decide +kernel
theorem dX10_note_50 : decode cX10_note 50 = .ok (.getfield 7, 3) := by decide +kernel
theorem dX10_note_53 : decode cX10_note 53 = .ok (.bipush 11, 2) := by decide +kernel
theorem dX10_note_55 : decode cX10_note 55 = .ok (.iaload, 1) := by decide +kernel
theorem dX10_note_56 : decode cX10_note 56 = .ok (.bipush 8, 2) := by decide +kernel
theorem dX10_note_58 : decode cX10_note 58 = .ok (.if_icmp .ne 6, 3) := by decide +kernel
theorem dX10_note_61 : decode cX10_note 61 = .ok (.bipush (-4), 2) := by decide +kernel
theorem dX10_note_63 : decode cX10_note 63 = .ok (.ireturn, 1) := by decide +kernel
theorem dX10_note_64 : decode cX10_note 64 = .ok (.aload_n 0, 1) := by decide +kernel
theorem dX10_note_65 : decode cX10_note 65 = .ok (.invokevirtual 76, 3) := by decide +kernel
theorem dX10_note_68 : decode cX10_note 68 = .ok (.iload_n 2, 1) := by decide +kernel
theorem dX10_note_69 : decode cX10_note 69 = .ok (.iconst (-1), 1) := by decide +kernel
theorem dX10_note_70 : decode cX10_note 70 = .ok (.if_icmp .ne 82, 3) := by decide +kernel
theorem dX10_note_73 : decode cX10_note 73 = .ok (.aload_n 0, 1) := by decide +kernel
theorem dX10_note_74 : decode cX10_note 74 = .ok (.getfield 7, 3) := by decide +kernel
theorem dX10_note_77 : decode cX10_note 77 = .ok (.bipush 11, 2) := by decide +kernel
theorem dX10_note_79 : decode cX10_note 79 = .ok (.dup2, 1) := by decide +kernel
theorem dX10_note_80 : decode cX10_note 80 = .ok (.iaload, 1) := by decide +kernel
theorem dX10_note_81 : decode cX10_note 81 = .ok (.iconst 1, 1) := by decide +kernel
theorem dX10_note_82 : decode cX10_note 82 = .ok (.isub, 1) := by decide +kernel
theorem dX10_note_83 : decode cX10_note 83 = .ok (.iastore, 1) := by decide +kernel
theorem dX10_note_84 : decode cX10_note 84 = .ok (.aload_n 0, 1) := by decide +kernel
theorem dX10_note_85 : decode cX10_note 85 = .ok (.getfield 7, 3) := by decide +kernel
theorem dX10_note_88 : decode cX10_note 88 = .ok (.bipush 12, 2) := by decide +kernel
theorem dX10_note_90 : decode cX10_note 90 = .ok (.iconst 2, 1) := by decide +kernel
theorem dX10_note_91 : decode cX10_note 91 = .ok (.iload_n 3, 1) := by decide +kernel
theorem dX10_note_92 : decode cX10_note 92 = .ok (.imul, 1) := by decide +kernel
theorem dX10_note_93 : decode cX10_note 93 = .ok (.iadd, 1) := by decide +kernel
theorem dX10_note_94 : decode cX10_note 94 = .ok (.aload_n 0, 1) := by decide +kernel
theorem dX10_note_95 : decode cX10_note 95 = .ok (.getfield 7, 3) := by decide +kernel
theorem dX10_note_98 : decode cX10_note 98 = .ok (.bipush 12, 2) := by decide +kernel
theorem dX10_note_100 : decode cX10_note 100 = .ok (.iconst 2, 1) := by decide +kernel
theorem dX10_note_101 : decode cX10_note 101 = .ok (.aload_n 0, 1) := by decide +kernel
theorem dX10_note_102 : decode cX10_note 102 = .ok (.getfield 7, 3) := by decide +kernel
theorem dX10_note_105 : decode cX10_note 105 = .ok (.bipush 11, 2) := by decide +kernel
theorem dX10_note_107 : decode cX10_note 107 = .ok (.iaload, 1) := by decide +kernel
theorem dX10_note_108 : decode cX10_note 108 = .ok (.imul, 1) := by decide +kernel
theorem dX10_note_109 : decode cX10_note 109 = .ok (.iadd, 1) := by decide +kernel
theorem dX10_note_110 : decode cX10_note 110 = .ok (.iaload, 1) := by decide +kernel
theorem dX10_note_111 : decode cX10_note 111 = .ok (.iastore, 1) := by decide +kernel
theorem dX10_note_112 : decode cX10_note 112 = .ok (.aload_n 0, 1) := by decide +kernel
theorem dX10_note_113 : decode cX10_note 113 = .ok (.getfield 7, 3) := by decide +kernel
theorem dX10_note_116 : decode cX10_note 116 = .ok (.bipush 12, 2) := by decide +kernel
theorem dX10_note_118 : decode cX10_note 118 = .ok (.iconst 2, 1) := by decide +kernel
theorem dX10_note_119 : decode cX10_note 119 = .ok (.iload_n 3, 1) := by decide +kernel
theorem dX10_note_120 : decode cX10_note 120 = .ok (.imul, 1) := by decide +kernel
theorem dX10_note_121 : decode cX10_note 121 = .ok (.iadd, 1) := by decide +kernel
theorem dX10_note_122 : decode cX10_note 122 = .ok (.iconst 1, 1) := by decide +kernel
theorem dX10_note_123 : decode cX10_note 123 = .ok (.iadd, 1) := by decide +kernel
theorem dX10_note_124 : decode cX10_note 124 = .ok (.aload_n 0, 1) := by decide +kernel
theorem dX10_note_125 : decode cX10_note 125 = .ok (.getfield 7, 3) := by decide +kernel
theorem dX10_note_128 : decode cX10_note 128 = .ok (.bipush 12, 2) := by decide +kernel
theorem dX10_note_130 : decode cX10_note 130 = .ok (.iconst 2, 1) := by decide +kernel
theorem dX10_note_131 : decode cX10_note 131 = .ok (.aload_n 0, 1) := by decide +kernel
theorem dX10_note_132 : decode cX10_note 132 = .ok (.getfield 7, 3) := by decide +kernel
theorem dX10_note_135 : decode cX10_note 135 = .ok (.bipush 11, 2) := by decide +kernel
theorem dX10_note_137 : decode cX10_note 137 = .ok (.iaload, 1) := by decide +kernel
theorem dX10_note_138 : decode cX10_note 138 = .ok (.imul, 1) := by decide +kernel
theorem dX10_note_139 : decode cX10_note 139 = .ok (.iadd, 1) := by decide +kernel
theorem dX10_note_140 : decode cX10_note 140 = .ok (.iconst 1, 1) := by decide +kernel
theorem dX10_note_141 : decode cX10_note 141 = .ok (.iadd, 1) := by decide +kernel
theorem dX10_note_142 : decode cX10_note 142 = .ok (.iaload, 1) := by decide +kernel
theorem dX10_note_143 : decode cX10_note 143 = .ok (.iastore, 1) := by decide +kernel
theorem dX10_note_144 : decode cX10_note 144 = .ok (.aload_n 0, 1) := by decide +kernel
theorem dX10_note_145 : decode cX10_note 145 = .ok (.getfield 7, 3) := by decide +kernel
theorem dX10_note_148 : decode cX10_note 148 = .ok (.bipush 11, 2) := by decide +kernel
theorem dX10_note_150 : decode cX10_note 150 = .ok (.iaload, 1) := by decide +kernel
theorem dX10_note_151 : decode cX10_note 151 = .ok (.ireturn, 1) := by decide +kernel
theorem dX10_note_152 : decode cX10_note 152 = .ok (.iload_n 3, 1) := by decide +kernel
theorem dX10_note_153 : decode cX10_note 153 = .ok (.bipush (-6), 2) := by decide +kernel
theorem dX10_note_155 : decode cX10_note 155 = .ok (.if_icmp .ne 13, 3) := by decide +kernel
theorem dX10_note_158 : decode cX10_note 158 = .ok (.aload_n 0, 1) := by decide +kernel
theorem dX10_note_159 : decode cX10_note 159 = .ok (.getfield 7, 3) := by decide +kernel
theorem dX10_note_162 : decode cX10_note 162 = .ok (.bipush 11, 2) := by decide +kernel
theorem dX10_note_164 : decode cX10_note 164 = .ok (.iaload, 1) := by decide +kernel
theorem dX10_note_165 : decode cX10_note 165 = .ok (.goto 4, 3) := by decide +kernel
theorem dX10_note_168 : decode cX10_note 168 = .ok (.iload_n 3, 1) := by decide +kernel
theorem dX10_note_169 : decode cX10_note 169 = .ok (.istore_n 3, 1) := by decide +kernel
theorem dX10_note_170 : decode cX10_note 170 = .ok (.aload_n 0, 1) := by decide +kernel
theorem dX10_note_171 : decode cX10_note 171 = .ok (.getfield 7, 3) := by decide +kernel
theorem dX10_note_174 : decode cX10_note 174 = .ok (.bipush 11, 2) := by decide +kernel
theorem dX10_note_176 : decode cX10_note 176 = .ok (.dup2, 1) := by decide +kernel
theorem dX10_note_177 : decode cX10_note 177 = .ok (.iaload, 1) := by decide +kernel
theorem dX10_note_178 : decode cX10_note 178 = .ok (.iload_n 3, 1) := by decide +kernel
theorem dX10_note_179 : decode cX10_note 179 = .ok (.aload_n 0, 1) := by decide +kernel
theorem dX10_note_180 : decode cX10_note 180 = .ok (.getfield 7, 3) := by decide +kernel
theorem dX10_note_183 : decode cX10_note 183 = .ok (.bipush 11, 2) := by decide +kernel
theorem dX10_note_185 : decode cX10_note 185 = .ok (.iaload, 1) := by decide +kernel
theorem dX10_note_186 : decode cX10_note 186 = .ok (.if_icmp .ne 7, 3) := by decide +kernel
theorem dX10_note_189 : decode cX10_note 189 = .ok (.iconst 1, 1) := by decide +kernel
theorem dX10_note_190 : decode cX10_note 190 = .ok (.goto 4, 3) := by decide +kernel
theorem dX10_note_193 : decode cX10_note 193 = .ok (.iconst 0, 1) := by decide +kernel
theorem dX10_note_194 : decode cX10_note 194 = .ok (.iadd, 1) := by decide +kernel
theorem dX10_note_195 : decode cX10_note 195 = .ok (.iastore, 1) := by decide +kernel
theorem dX10_note_196 : decode cX10_note 196 = .ok (.aload_n 0, 1) := by decide +kernel
theorem dX10_note_197 : decode cX10_note 197 = .ok (.getfield 7, 3) := by decide +kernel
theorem dX10_note_200 : decode cX10_note 200 = .ok (.bipush 12, 2) := by decide +kernel
theorem dX10_note_202 : decode cX10_note 202 = .ok (.iconst 2, 1) := by decide +kernel
theorem dX10_note_203 : decode cX10_note 203 = .ok (.iload_n 3, 1) := by decide +kernel
theorem dX10_note_204 : decode cX10_note 204 = .ok (.imul, 1) := by decide +kernel
theorem dX10_note_205 : decode cX10_note 205 = .ok (.iadd, 1) := by decide +kernel
theorem dX10_note_206 : decode cX10_note 206 = .ok (.iload_n 1, 1) := by decide +kernel
theorem dX10_note_207 : decode cX10_note 207 = .ok (.iastore, 1) := by decide +kernel
theorem dX10_note_208 : decode cX10_note 208 = .ok (.aload_n 0, 1) := by decide +kernel
theorem dX10_note_209 : decode cX10_note 209 = .ok (.getfield 7, 3) := by decide +kernel
theorem dX10_note_212 : decode cX10_note 212 = .ok (.bipush 12, 2) := by decide +kernel
theorem dX10_note_214 : decode cX10_note 214 = .ok (.iconst 2, 1) := by decide +kernel
theorem dX10_note_215 : decode cX10_note 215 = .ok (.iload_n 3, 1) := by decide +kernel
theorem dX10_note_216 : decode cX10_note 216 = .ok (.imul, 1) := by decide +kernel
theorem dX10_note_217 : decode cX10_note 217 = .ok (.iadd, 1) := by decide +kernel
theorem dX10_note_218 : decode cX10_note 218 = .ok (.iconst 1, 1) := by decide +kernel
theorem dX10_note_219 : decode cX10_note 219 = .ok (.iadd, 1) := by decide +kernel
theorem dX10_note_220 : decode cX10_note 220 = .ok (.iload_n 2, 1) := by decide +kernel
theorem dX10_note_221 : decode cX10_note 221 = .ok (.iastore, 1) := by decide +kernel
theorem dX10_note_222 : decode cX10_note 222 = .ok (.aload_n 0, 1) := by decide +kernel
theorem dX10_note_223 : decode cX10_note 223 = .ok (.getfield 7, 3) := by decide +kernel
theorem dX10_note_226 : decode cX10_note 226 = .ok (.bipush 11, 2) := by decide +kernel
theorem dX10_note_228 : decode cX10_note 228 = .ok (.iaload, 1) := by decide +kernel
theorem dX10_note_229 : decode cX10_note 229 = .ok (.ireturn, 1) := by decide +kernel
theorem dX10_setEnd_0 : decode cX10_setEnd 0 = .ok (.iload_n 1, 1) := by decide +kernel
theorem dX10_setEnd_1 : decode cX10_setEnd 1 = .ok (.iconst 0, 1) := by decide +kernel
theorem dX10_setEnd_2 : decode cX10_setEnd 2 = .ok (.sipush 9999, 3) := by decide +kernel
theorem dX10_setEnd_5 : decode cX10_setEnd 5 = .ok (.invokestatic 22, 3) := by decide +kernel
theorem dX10_setEnd_8 : decode cX10_setEnd 8 = .ok (.ifCond .ne 6, 3) := by decide +kernel
theorem dX10_setEnd_11 : decode cX10_setEnd 11 = .ok (.bipush (-2), 2) := by decide +kernel
theorem dX10_setEnd_13 : decode cX10_setEnd 13 = .ok (.ireturn, 1) := by decide +kernel
theorem dX10_setEnd_14 : decode cX10_setEnd 14 = .ok (.aload_n 0, 1) := by decide +kernel
theorem dX10_setEnd_15 : decode cX10_setEnd 15 = .ok (.invokevirtual 76, 3) := by decide +kernel
theorem dX10_setEnd_18 : decode cX10_setEnd 18 = .ok (.aload_n 0, 1) := by decide +kernel
theorem dX10_setEnd_19 : decode cX10_setEnd 19 = .ok (.getfield 7, 3) := by decide +kernel
theorem dX10_setEnd_22 : decode cX10_setEnd 22 = .ok (.bipush 28, 2) := by decide +kernel
theorem dX10_setEnd_24 : decode cX10_setEnd 24 = .ok (.iaload, 1) := by decide +kernel
theorem dX10_setEnd_25 : decode cX10_setEnd 25 = .ok (.istore_n 2, 1) := by decide +kernel
theorem dX10_setEnd_26 : decode cX10_setEnd 26 = .ok (.aload_n 0, 1) := by decide +kernel
theorem dX10_setEnd_27 : decode cX10_setEnd 27 = .ok (.getfield 7, 3) := by decide +kernel
theorem dX10_setEnd_30 : decode cX10_setEnd 30 = .ok (.bipush 28, 2) := by decide +kernel
theorem dX10_setEnd_32 : decode cX10_setEnd 32 = .ok (.iload_n 1, 1) := by decide +kernel
theorem dX10_setEnd_33 : decode cX10_setEnd 33 = .ok (.iastore, 1) := by decide +kernel
theorem dX10_setEnd_34 : decode cX10_setEnd 34 = .ok (.iload_n 2, 1) := by decide +kernel
theorem dX10_setEnd_35 : decode cX10_setEnd 35 = .ok (.ireturn, 1) := by decide +kernel
theorem dX10_start_0 : decode cX10_start 0 = .ok (.aload_n 0, 1) := by decide +kernel
theorem dX10_start_1 : decode cX10_start 1 = .ok (.iconst 0, 1) := by decide +kernel
theorem dX10_start_2 : decode cX10_start 2 = .ok (.invokevirtual 41, 3) := by decide +kernel
theorem dX10_start_5 : decode cX10_start 5 = .ok (.istore_n 1, 1) := by decide +kernel
theorem dX10_start_6 : decode cX10_start 6 = .ok (.iload_n 1, 1) := by decide +kernel
theorem dX10_start_7 : decode cX10_start 7 = .ok (.bipush (-6), 2) := by decide +kernel
theorem dX10_start_9 : decode cX10_start 9 = .ok (.if_icmp .ne 6, 3) := by decide +kernel
theorem dX10_start_12 : decode cX10_start 12 = .ok (.bipush (-5), 2) := by decide +kernel
theorem dX10_start_14 : decode cX10_start 14 = .ok (.ireturn, 1) := by decide +kernel
theorem dX10_start_15 : decode cX10_start 15 = .ok (.aload_n 0, 1) := by decide +kernel
theorem dX10_start_16 : decode cX10_start 16 = .ok (.invokevirtual 76, 3) := by decide +kernel
theorem dX10_start_19 : decode cX10_start 19 = .ok (.aload_n 0, 1) := by decide +kernel
theorem dX10_start_20 : decode cX10_start 20 = .ok (.getfield 7, 3) := by decide +kernel
theorem dX10_start_23 : decode cX10_start 23 = .ok (.bipush 29, 2) := by decide +kernel
theorem dX10_start_25 : decode cX10_start 25 = .ok (.iconst 1, 1) := by decide +kernel
theorem dX10_start_26 : decode cX10_start 26 = .ok (.iastore, 1) := by decide +kernel
theorem dX10_start_27 : decode cX10_start 27 = .ok (.aload_n 0, 1) := by decide +kernel
theorem dX10_start_28 : decode cX10_start 28 = .ok (.getfield 7, 3) := by decide +kernel
theorem dX10_start_31 : decode cX10_start 31 = .ok (.bipush 30, 2) := by decide +kernel
theorem dX10_start_33 : decode cX10_start 33 = .ok (.iload_n 1, 1) := by decide +kernel
theorem dX10_start_34 : decode cX10_start 34 = .ok (.iastore, 1) := by decide +kernel
theorem dX10_start_35 : decode cX10_start 35 = .ok (.aload_n 0, 1) := by decide +kernel
theorem dX10_start_36 : decode cX10_start 36 = .ok (.getfield 7, 3) := by decide +kernel
theorem dX10_start_39 : decode cX10_start 39 = .ok (.bipush 31, 2) := by decide +kernel
theorem dX10_start_41 : decode cX10_start 41 = .ok (.iconst 0, 1) := by decide +kernel
theorem dX10_start_42 : decode cX10_start 42 = .ok (.iastore, 1) := by decide +kernel
theorem dX10_start_43 : decode cX10_start 43 = .ok (.aload_n 0, 1) := by decide +kernel
theorem dX10_start_44 : decode cX10_start 44 = .ok (.getfield 7, 3) := by decide +kernel
theorem dX10_start_47 : decode cX10_start 47 = .ok (.bipush 32, 2) := by decide +kernel
theorem dX10_start_49 : decode cX10_start 49 = .ok (.iconst 0, 1) := by decide +kernel
theorem dX10_start_50 : decode cX10_start 50 = .ok (.iastore, 1) := by decide +kernel
theorem dX10_start_51 : decode cX10_start 51 = .ok (.aload_n 0, 1) := by decide +kernel
theorem dX10_start_52 : decode cX10_start 52 = .ok (.getfield 7, 3) := by decide +kernel
theorem dX10_start_55 : decode cX10_start 55 = .ok (.bipush 33, 2) := by decide +kernel
theorem dX10_start_57 : decode cX10_start 57 = .ok (.iconst 0, 1) := by decide +kernel
theorem dX10_start_58 : decode cX10_start 58 = .ok (.iastore, 1) := by decide +kernel
theorem dX10_start_59 : decode cX10_start 59 = .ok (.aload_n 0, 1) := by decide +kernel
theorem dX10_start_60 : decode cX10_start 60 = .ok (.getfield 7, 3) := by decide +kernel
theorem dX10_start_63 : decode cX10_start 63 = .ok (.bipush 34, 2) := by decide +kernel
theorem dX10_start_65 : decode cX10_start 65 = .ok (.iconst 0, 1) := by decide +kernel
theorem dX10_start_66 : decode cX10_start 66 = .ok (.iastore, 1) := by decide +kernel
theorem dX10_start_67 : decode cX10_start 67 = .ok (.aload_n 0, 1) := by decide +kernel
theorem dX10_start_68 : decode cX10_start 68 = .ok (.getfield 7, 3) := by decide +kernel
theorem dX10_start_71 : decode cX10_start 71 = .ok (.bipush 35, 2) := by decide +kernel
theorem dX10_start_73 : decode cX10_start 73 = .ok (.iconst 0, 1) := by decide +kernel
theorem dX10_start_74 : decode cX10_start 74 = .ok (.iastore, 1) := by decide +kernel
theorem dX10_start_75 : decode cX10_start 75 = .ok (.iload_n 1, 1) := by decide +kernel
theorem dX10_start_76 : decode cX10_start 76 = .ok (.ireturn, 1) := by decide +kernel
theorem dX10_stop_0 : decode cX10_stop 0 = .ok (.aload_n 0, 1) := by decide +kernel
theorem dX10_stop_1 : decode cX10_stop 1 = .ok (.getfield 7, 3) := by decide +kernel
theorem dX10_stop_4 : decode cX10_stop 4 = .ok (.bipush 29, 2) := by decide +kernel
theorem dX10_stop_6 : decode cX10_stop 6 = .ok (.iaload, 1) := by decide +kernel
theorem dX10_stop_7 : decode cX10_stop 7 = .ok (.ifCond .ne 6, 3) := by decide +kernel
theorem dX10_stop_10 : decode cX10_stop 10 = .ok (.bipush (-5), 2) := by decide +kernel
theorem dX10_stop_12 : decode cX10_stop 12 = .ok (.ireturn, 1) := by decide +kernel
theorem dX10_stop_13 : decode cX10_stop 13 = .ok (.aload_n 0, 1) := by decide +kernel
theorem dX10_stop_14 : decode cX10_stop 14 = .ok (.invokevirtual 76, 3) := by decide +kernel
theorem dX10_stop_17 : decode cX10_stop 17 = .ok (.aload_n 0, 1) := by decide +kernel
theorem dX10_stop_18 : decode cX10_stop 18 = .ok (.getfield 7, 3) := by decide +kernel
theorem dX10_stop_21 : decode cX10_stop 21 = .ok (.bipush 29, 2) := by decide +kernel
theorem dX10_stop_23 : decode cX10_stop 23 = .ok (.iconst 0, 1) := by decide +kernel
theorem dX10_stop_24 : decode cX10_stop 24 = .ok (.iastore, 1) := by decide +kernel
theorem dX10_stop_25 : decode cX10_stop 25 = .ok (.aload_n 0, 1) := by decide +kernel
theorem dX10_stop_26 : decode cX10_stop 26 = .ok (.getfield 7, 3) := by decide +kernel
theorem dX10_stop_29 : decode cX10_stop 29 = .ok (.bipush 32, 2) := by decide +kernel
theorem dX10_stop_31 : decode cX10_stop 31 = .ok (.iaload, 1) := by decide +kernel
theorem dX10_stop_32 : decode cX10_stop 32 = .ok (.ireturn, 1) := by decide +kernel
theorem dX10_forward_0 : decode cX10_forward 0 = .ok (.aload_n 0, 1) := by decide +kernel
theorem dX10_forward_1 : decode cX10_forward 1 = .ok (.invokevirtual 98, 3) := by decide +kernel
theorem dX10_forward_4 : decode cX10_forward 4 = .ok (.ifCond .eq 10, 3) := by decide +kernel
theorem dX10_forward_7 : decode cX10_forward 7 = .ok (.aload_n 0, 1) := by decide +kernel
theorem dX10_forward_8 : decode cX10_forward 8 = .ok (.invokevirtual 62, 3) := by decide +kernel
theorem dX10_forward_11 : decode cX10_forward 11 = .ok (.ifCond .ne 6, 3) := by decide +kernel
theorem dX10_forward_14 : decode cX10_forward 14 = .ok (.bipush (-5), 2) := by decide +kernel
theorem dX10_forward_16 : decode cX10_forward 16 = .ok (.ireturn, 1) := by decide +kernel
theorem dX10_forward_17 : decode cX10_forward 17 = .ok (.aload_n 0, 1) := by decide +kernel
theorem dX10_forward_18 : decode cX10_forward 18 = .ok (.invokevirtual 76, 3) := by decide +kernel
theorem dX10_forward_21 : decode cX10_forward 21 = .ok (.aload_n 0, 1) := by decide +kernel
theorem dX10_forward_22 : decode cX10_forward 22 = .ok (.invokevirtual 65, 3) := by decide +kernel
theorem dX10_forward_25 : decode cX10_forward 25 = .ok (.ireturn, 1) := by decide +kernel
theorem dX10_back_0 : decode cX10_back 0 = .ok (.aload_n 0, 1) := by decide +kernel
theorem dX10_back_1 : decode cX10_back 1 = .ok (.invokevirtual 98, 3) := by decide +kernel
theorem dX10_back_4 : decode cX10_back 4 = .ok (.ifCond .eq 12, 3) := by decide +kernel
theorem dX10_back_7 : decode cX10_back 7 = .ok (.aload_n 0, 1) := by decide +kernel
theorem dX10_back_8 : decode cX10_back 8 = .ok (.invokevirtual 58, 3) := by decide +kernel
theorem dX10_back_11 : decode cX10_back 11 = .ok (.bipush (-6), 2) := by decide +kernel
theorem dX10_back_13 : decode cX10_back 13 = .ok (.if_icmp .ne 6, 3) := by decide +kernel
theorem dX10_back_16 : decode cX10_back 16 = .ok (.bipush (-5), 2) := by decide +kernel
theorem dX10_back_18 : decode cX10_back 18 = .ok (.ireturn, 1) := by decide +kernel
theorem dX10_back_19 : decode cX10_back 19 = .ok (.aload_n 0, 1) := by decide +kernel
theorem dX10_back_20 : decode cX10_back 20 = .ok (.invokevirtual 76, 3) := by decide +kernel
theorem dX10_back_23 : decode cX10_back 23 = .ok (.aload_n 0, 1) := by decide +kernel
theorem dX10_back_24 : decode cX10_back 24 = .ok (.invokevirtual 101, 3) := by decide +kernel
theorem dX10_back_27 : decode cX10_back 27 = .ok (.ireturn, 1) := by decide +kernel
theorem dX10_press_0 : decode cX10_press 0 = .ok (.aload_n 0, 1) := by decide +kernel
theorem dX10_press_1 : decode cX10_press 1 = .ok (.iload_n 1, 1) := by decide +kernel
theorem dX10_press_2 : decode cX10_press 2 = .ok (.invokevirtual 89, 3) := by decide +kernel
theorem dX10_press_5 : decode cX10_press 5 = .ok (.ifCond .ne 6, 3) := by decide +kernel
theorem dX10_press_8 : decode cX10_press 8 = .ok (.bipush (-2), 2) := by decide +kernel
theorem dX10_press_10 : decode cX10_press 10 = .ok (.ireturn, 1) := by decide +kernel
theorem dX10_press_11 : decode cX10_press 11 = .ok (.aload_n 0, 1) := by decide +kernel
theorem dX10_press_12 : decode cX10_press 12 = .ok (.invokevirtual 98, 3) := by decide +kernel
theorem dX10_press_15 : decode cX10_press 15 = .ok (.ifCond .eq 11, 3) := by decide +kernel
theorem dX10_press_18 : decode cX10_press 18 = .ok (.aload_n 0, 1) := by decide +kernel
theorem dX10_press_19 : decode cX10_press 19 = .ok (.iload_n 1, 1) := by decide +kernel
theorem dX10_press_20 : decode cX10_press 20 = .ok (.invokevirtual 104, 3) := by decide +kernel
theorem dX10_press_23 : decode cX10_press 23 = .ok (.ifCond .ne 6, 3) := by decide +kernel
theorem dX10_press_26 : decode cX10_press 26 = .ok (.bipush (-5), 2) := by decide +kernel
theorem dX10_press_28 : decode cX10_press 28 = .ok (.ireturn, 1) := by decide +kernel
theorem dX10_press_29 : decode cX10_press 29 = .ok (.aload_n 0, 1) := by decide +kernel
theorem dX10_press_30 : decode cX10_press 30 = .ok (.invokevirtual 76, 3) := by decide +kernel
theorem dX10_press_33 : decode cX10_press 33 = .ok (.aload_n 0, 1) := by decide +kernel
theorem dX10_press_34 : decode cX10_press 34 = .ok (.iload_n 1, 1) := by decide +kernel
theorem dX10_press_35 : decode cX10_press 35 = .ok (.invokevirtual 107, 3) := by decide +kernel
theorem dX10_press_38 : decode cX10_press 38 = .ok (.ireturn, 1) := by decide +kernel
theorem dX10_tick_0 : decode cX10_tick 0 = .ok (.iload_n 1, 1) := by decide +kernel
theorem dX10_tick_1 : decode cX10_tick 1 = .ok (.iconst 1, 1) := by decide +kernel
theorem dX10_tick_2 : decode cX10_tick 2 = .ok (.bipush 99, 2) := by decide +kernel
theorem dX10_tick_4 : decode cX10_tick 4 = .ok (.invokestatic 22, 3) := by decide +kernel
theorem dX10_tick_7 : decode cX10_tick 7 = .ok (.ifCond .ne 6, 3) := by decide +kernel
theorem dX10_tick_10 : decode cX10_tick 10 = .ok (.bipush (-2), 2) := by decide +kernel
theorem dX10_tick_12 : decode cX10_tick 12 = .ok (.ireturn, 1) := by decide +kernel
theorem dX10_tick_13 : decode cX10_tick 13 = .ok (.aload_n 0, 1) := by decide +kernel
theorem dX10_tick_14 : decode cX10_tick 14 = .ok (.invokevirtual 98, 3) := by decide +kernel
theorem dX10_tick_17 : decode cX10_tick 17 = .ok (.ifCond .ne 6, 3) := by decide +kernel
theorem dX10_tick_20 : decode cX10_tick 20 = .ok (.bipush (-5), 2) := by decide +kernel
theorem dX10_tick_22 : decode cX10_tick 22 = .ok (.ireturn, 1) := by decide +kernel
theorem dX10_tick_23 : decode cX10_tick 23 = .ok (.aload_n 0, 1) := by decide +kernel
theorem dX10_tick_24 : decode cX10_tick 24 = .ok (.invokevirtual 76, 3) := by decide +kernel
theorem dX10_tick_27 : decode cX10_tick 27 = .ok (.aload_n 0, 1) := by decide +kernel
theorem dX10_tick_28 : decode cX10_tick 28 = .ok (.iload_n 1, 1) := by decide +kernel
theorem dX10_tick_29 : decode cX10_tick 29 = .ok (.invokevirtual 110, 3) := by decide +kernel
theorem dX10_tick_32 : decode cX10_tick 32 = .ok (.ireturn, 1) := by decide +kernel
theorem dX10_append_0 : decode cX10_append 0 = .ok (.iload_n 1, 1) := by decide +kernel
theorem dX10_append_1 : decode cX10_append 1 = .ok (.bipush 32, 2) := by decide +kernel
theorem dX10_append_3 : decode cX10_append 3 = .ok (.bipush 126, 2) := by decide +kernel
theorem dX10_append_5 : decode cX10_append 5 = .ok (.invokestatic 22, 3) := by decide +kernel
theorem dX10_append_8 : decode cX10_append 8 = .ok (.ifCond .ne 6, 3) := by decide +kernel
theorem dX10_append_11 : decode cX10_append 11 = .ok (.bipush (-2), 2) := by decide +kernel
theorem dX10_append_13 : decode cX10_append 13 = .ok (.ireturn, 1) := by decide +kernel
theorem dX10_append_14 : decode cX10_append 14 = .ok (.aload_n 0, 1) := by decide +kernel
theorem dX10_append_15 : decode cX10_append 15 = .ok (.getfield 113, 3) := by decide +kernel
theorem dX10_append_18 : decode cX10_append 18 = .ok (.bipush 60, 2) := by decide +kernel
theorem dX10_append_20 : decode cX10_append 20 = .ok (.if_icmp .ne 6, 3) := by decide +kernel
theorem dX10_append_23 : decode cX10_append 23 = .ok (.bipush (-4), 2) := by decide +kernel
theorem dX10_append_25 : decode cX10_append 25 = .ok (.ireturn, 1) := by decide +kernel
theorem dX10_append_26 : decode cX10_append 26 = .ok (.aload_n 0, 1) := by decide +kernel
theorem dX10_append_27 : decode cX10_append 27 = .ok (.getfield 13, 3) := by decide +kernel
theorem dX10_append_30 : decode cX10_append 30 = .ok (.aload_n 0, 1) := by decide +kernel
theorem dX10_append_31 : decode cX10_append 31 = .ok (.getfield 113, 3) := by decide +kernel
theorem dX10_append_34 : decode cX10_append 34 = .ok (.iload_n 1, 1) := by decide +kernel
theorem dX10_append_35 : decode cX10_append 35 = .ok (.iastore, 1) := by decide +kernel
theorem dX10_append_36 : decode cX10_append 36 = .ok (.aload_n 0, 1) := by decide +kernel
theorem dX10_append_37 : decode cX10_append 37 = .ok (.dup, 1) := by decide +kernel
theorem dX10_append_38 : decode cX10_append 38 = .ok (.getfield 113, 3) := by decide +kernel
theorem dX10_append_41 : decode cX10_append 41 = .ok (.iconst 1, 1) := by decide +kernel
theorem dX10_append_42 : decode cX10_append 42 = .ok (.iadd, 1) := by decide +kernel
theorem dX10_append_43 : decode cX10_append 43 = .ok (.putfield 113, 3) := by decide +kernel
theorem dX10_append_46 : decode cX10_append 46 = .ok (.aload_n 0, 1) := by decide +kernel
theorem dX10_append_47 : decode cX10_append 47 = .ok (.getfield 113, 3) := by decide +kernel
theorem dX10_append_50 : decode cX10_append 50 = .ok (.ireturn, 1) := by decide +kernel
theorem dX10_clearText_0 : decode cX10_clearText 0 = .ok (.aload_n 0, 1) := by decide +kernel
theorem dX10_clearText_1 : decode cX10_clearText 1 = .ok (.getfield 113, 3) := by decide +kernel
theorem dX10_clearText_4 : decode cX10_clearText 4 = .ok (.istore_n 1, 1) := by decide +kernel
theorem dX10_clearText_5 : decode cX10_clearText 5 = .ok (.aload_n 0, 1) := by decide +kernel
theorem dX10_clearText_6 : decode cX10_clearText 6 = .ok (.iconst 0, 1) := by decide +kernel
theorem dX10_clearText_7 : decode cX10_clearText 7 = .ok (.putfield 113, 3) := by decide +kernel
theorem dX10_clearText_10 : decode cX10_clearText 10 = .ok (.iload_n 1, 1) := by decide +kernel
theorem dX10_clearText_11 : decode cX10_clearText 11 = .ok (.ireturn, 1) := by decide +kernel
theorem dX10_sign_0 : decode cX10_sign 0 = .ok (.aload_n 0, 1) := by decide +kernel
theorem dX10_sign_1 : decode cX10_sign 1 = .ok (.getfield 116, 3) := by decide +kernel
theorem dX10_sign_4 : decode cX10_sign 4 = .ok (.aload_n 0, 1) := by decide +kernel
theorem dX10_sign_5 : decode cX10_sign 5 = .ok (.getfield 113, 3) := by decide +kernel
theorem dX10_sign_8 : decode cX10_sign 8 = .ok (.if_icmp .ge 15, 3) := by decide +kernel
theorem dX10_sign_11 : decode cX10_sign 11 = .ok (.aload_n 0, 1) := by decide +kernel
theorem dX10_sign_12 : decode cX10_sign 12 = .ok (.getfield 13, 3) := by decide +kernel
theorem dX10_sign_15 : decode cX10_sign 15 = .ok (.aload_n 0, 1) := by decide +kernel
theorem dX10_sign_16 : decode cX10_sign 16 = .ok (.getfield 116, 3) := by decide +kernel
theorem dX10_sign_19 : decode cX10_sign 19 = .ok (.iaload, 1) := by decide +kernel
theorem dX10_sign_20 : decode cX10_sign 20 = .ok (.goto 4, 3) := by decide +kernel
theorem dX10_sign_23 : decode cX10_sign 23 = .ok (.iconst 0, 1) := by decide +kernel
theorem dX10_sign_24 : decode cX10_sign 24 = .ok (.ireturn, 1) := by decide +kernel
theorem dX10_takes_0 : decode cX10_takes 0 = .ok (.aload_n 0, 1) := by decide +kernel
theorem dX10_takes_1 : decode cX10_takes 1 = .ok (.invokevirtual 119, 3) := by decide +kernel
theorem dX10_takes_4 : decode cX10_takes 4 = .ok (.iload_n 1, 1) := by decide +kernel
theorem dX10_takes_5 : decode cX10_takes 5 = .ok (.if_icmp .ne 7, 3) := by decide +kernel
theorem dX10_takes_8 : decode cX10_takes 8 = .ok (.iconst 1, 1) := by decide +kernel
theorem dX10_takes_9 : decode cX10_takes 9 = .ok (.goto 4, 3) := by decide +kernel
theorem dX10_takes_12 : decode cX10_takes 12 = .ok (.iconst 0, 1) := by decide +kernel
theorem dX10_takes_13 : decode cX10_takes 13 = .ok (.istore_n 2, 1) := by decide +kernel
theorem dX10_takes_14 : decode cX10_takes 14 = .ok (.aload_n 0, 1) := by decide +kernel
theorem dX10_takes_15 : decode cX10_takes 15 = .ok (.dup, 1) := by decide +kernel
theorem dX10_takes_16 : decode cX10_takes 16 = .ok (.getfield 116, 3) := by decide +kernel
theorem dX10_takes_19 : decode cX10_takes 19 = .ok (.iload_n 2, 1) := by decide +kernel
theorem dX10_takes_20 : decode cX10_takes 20 = .ok (.ifCond .eq 7, 3) := by decide +kernel
theorem dX10_takes_23 : decode cX10_takes 23 = .ok (.iconst 1, 1) := by decide +kernel
theorem dX10_takes_24 : decode cX10_takes 24 = .ok (.goto 4, 3) := by decide +kernel
theorem dX10_takes_27 : decode cX10_takes 27 = .ok (.iconst 0, 1) := by decide +kernel
theorem dX10_takes_28 : decode cX10_takes 28 = .ok (.iadd, 1) := by decide +kernel
theorem dX10_takes_29 : decode cX10_takes 29 = .ok (.putfield 116, 3) := by decide +kernel
theorem dX10_takes_32 : decode cX10_takes 32 = .ok (.iload_n 2, 1) := by decide +kernel
theorem dX10_takes_33 : decode cX10_takes 33 = .ok (.ireturn, 1) := by decide +kernel
theorem dX10_readsMove_0 : decode cX10_readsMove 0 = .ok (.aload_n 0, 1) := by decide +kernel
theorem dX10_readsMove_1 : decode cX10_readsMove 1 = .ok (.aload_n 0, 1) := by decide +kernel
theorem dX10_readsMove_2 : decode cX10_readsMove 2 = .ok (.invokevirtual 119, 3) := by decide +kernel
theorem dX10_readsMove_5 : decode cX10_readsMove 5 = .ok (.putfield 122, 3) := by decide +kernel
theorem dX10_readsMove_8 : decode cX10_readsMove 8 = .ok (.aload_n 0, 1) := by decide +kernel
theorem dX10_readsMove_9 : decode cX10_readsMove 9 = .ok (.bipush 102, 2) := by decide +kernel
theorem dX10_readsMove_11 : decode cX10_readsMove 11 = .ok (.invokevirtual 125, 3) := by decide +kernel
theorem dX10_readsMove_14 : decode cX10_readsMove 14 = .ok (.ifCond .ne 12, 3) := by decide +kernel
theorem dX10_readsMove_17 : decode cX10_readsMove 17 = .ok (.aload_n 0, 1) := by decide +kernel
theorem dX10_readsMove_18 : decode cX10_readsMove 18 = .ok (.bipush 98, 2) := by decide +kernel
theorem dX10_readsMove_20 : decode cX10_readsMove 20 = .ok (.invokevirtual 125, 3) := by decide +kernel
theorem dX10_readsMove_23 : decode cX10_readsMove 23 = .ok (.ifCond .eq 5, 3) := by decide +kernel
theorem dX10_readsMove_26 : decode cX10_readsMove 26 = .ok (.iconst 1, 1) := by decide +kernel
theorem dX10_readsMove_27 : decode cX10_readsMove 27 = .ok (.ireturn, 1) := by decide +kernel
theorem dX10_readsMove_28 : decode cX10_readsMove 28 = .ok (.aload_n 0, 1) := by decide +kernel
theorem dX10_readsMove_29 : decode cX10_readsMove 29 = .ok (.getfield 122, 3) := by decide +kernel
theorem dX10_readsMove_32 : decode cX10_readsMove 32 = .ok (.bipush 107, 2) := by decide +kernel
theorem dX10_readsMove_34 : decode cX10_readsMove 34 = .ok (.if_icmp .ne 7, 3) := by decide +kernel
theorem dX10_readsMove_37 : decode cX10_readsMove 37 = .ok (.iconst 0, 1) := by decide +kernel
theorem dX10_readsMove_38 : decode cX10_readsMove 38 = .ok (.goto 4, 3) := by decide +kernel
theorem dX10_readsMove_41 : decode cX10_readsMove 41 = .ok (.iconst 1, 1) := by decide +kernel
theorem dX10_readsMove_42 : decode cX10_readsMove 42 = .ok (.istore_n 1, 1) := by decide +kernel
theorem dX10_readsMove_43 : decode cX10_readsMove 43 = .ok (.aload_n 0, 1) := by decide +kernel
theorem dX10_readsMove_44 : decode cX10_readsMove 44 = .ok (.bipush 107, 2) := by decide +kernel
theorem dX10_readsMove_46 : decode cX10_readsMove 46 = .ok (.invokevirtual 125, 3) := by decide +kernel
theorem dX10_readsMove_49 : decode cX10_readsMove 49 = .ok (.ifCond .ne 12, 3) := by decide +kernel
theorem dX10_readsMove_52 : decode cX10_readsMove 52 = .ok (.aload_n 0, 1) := by decide +kernel
theorem dX10_readsMove_53 : decode cX10_readsMove 53 = .ok (.bipush 116, 2) := by decide +kernel
theorem dX10_readsMove_55 : decode cX10_readsMove 55 = .ok (.invokevirtual 125, 3) := by decide +kernel
theorem dX10_readsMove_58 : decode cX10_readsMove 58 = .ok (.ifCond .eq 19, 3) := by decide +kernel
theorem dX10_readsMove_61 : decode cX10_readsMove 61 = .ok (.aload_n 0, 1) := by decide +kernel
theorem dX10_readsMove_62 : decode cX10_readsMove 62 = .ok (.invokevirtual 119, 3) := by decide +kernel
theorem dX10_readsMove_65 : decode cX10_readsMove 65 = .ok (.bipush 48, 2) := by decide +kernel
theorem dX10_readsMove_67 : decode cX10_readsMove 67 = .ok (.iload_n 1, 1) := by decide +kernel
theorem dX10_readsMove_68 : decode cX10_readsMove 68 = .ok (.iadd, 1) := by decide +kernel
theorem dX10_readsMove_69 : decode cX10_readsMove 69 = .ok (.bipush 57, 2) := by decide +kernel
theorem dX10_readsMove_71 : decode cX10_readsMove 71 = .ok (.invokestatic 22, 3) := by decide +kernel
theorem dX10_readsMove_74 : decode cX10_readsMove 74 = .ok (.ifCond .ne 5, 3) := by decide +kernel
theorem dX10_readsMove_77 : decode cX10_readsMove 77 = .ok (.iconst 0, 1) := by decide +kernel
theorem dX10_readsMove_78 : decode cX10_readsMove 78 = .ok (.ireturn, 1) := by decide +kernel
theorem dX10_readsMove_79 : decode cX10_readsMove 79 = .ok (.aload_n 0, 1) := by decide +kernel
theorem dX10_readsMove_80 : decode cX10_readsMove 80 = .ok (.aload_n 0, 1) := by decide +kernel
theorem dX10_readsMove_81 : decode cX10_readsMove 81 = .ok (.invokevirtual 119, 3) := by decide +kernel
theorem dX10_readsMove_84 : decode cX10_readsMove 84 = .ok (.bipush 48, 2) := by decide +kernel
theorem dX10_readsMove_86 : decode cX10_readsMove 86 = .ok (.isub, 1) := by decide +kernel
theorem dX10_readsMove_87 : decode cX10_readsMove 87 = .ok (.putfield 128, 3) := by decide +kernel
theorem dX10_readsMove_90 : decode cX10_readsMove 90 = .ok (.aload_n 0, 1) := by decide +kernel
theorem dX10_readsMove_91 : decode cX10_readsMove 91 = .ok (.dup, 1) := by decide +kernel
theorem dX10_readsMove_92 : decode cX10_readsMove 92 = .ok (.getfield 116, 3) := by decide +kernel
theorem dX10_readsMove_95 : decode cX10_readsMove 95 = .ok (.iconst 1, 1) := by decide +kernel
theorem dX10_readsMove_96 : decode cX10_readsMove 96 = .ok (.iadd, 1) := by decide +kernel
theorem dX10_readsMove_97 : decode cX10_readsMove 97 = .ok (.putfield 116, 3) := by decide +kernel
theorem dX10_readsMove_100 : decode cX10_readsMove 100 = .ok (.aload_n 0, 1) := by decide +kernel
theorem dX10_readsMove_101 : decode cX10_readsMove 101 = .ok (.getfield 122, 3) := by decide +kernel
theorem dX10_readsMove_104 : decode cX10_readsMove 104 = .ok (.bipush 116, 2) := by decide +kernel
theorem dX10_readsMove_106 : decode cX10_readsMove 106 = .ok (.if_icmp .ne 46, 3) := by decide +kernel
theorem dX10_readsMove_109 : decode cX10_readsMove 109 = .ok (.aload_n 0, 1) := by decide +kernel
theorem dX10_readsMove_110 : decode cX10_readsMove 110 = .ok (.invokevirtual 119, 3) := by decide +kernel
theorem dX10_readsMove_113 : decode cX10_readsMove 113 = .ok (.bipush 48, 2) := by decide +kernel
theorem dX10_readsMove_115 : decode cX10_readsMove 115 = .ok (.bipush 57, 2) := by decide +kernel
theorem dX10_readsMove_117 : decode cX10_readsMove 117 = .ok (.invokestatic 22, 3) := by decide +kernel
theorem dX10_readsMove_120 : decode cX10_readsMove 120 = .ok (.ifCond .eq 32, 3) := by decide +kernel
theorem dX10_readsMove_123 : decode cX10_readsMove 123 = .ok (.aload_n 0, 1) := by decide +kernel
theorem dX10_readsMove_124 : decode cX10_readsMove 124 = .ok (.bipush 10, 2) := by decide +kernel
theorem dX10_readsMove_126 : decode cX10_readsMove 126 = .ok (.aload_n 0, 1) := by decide +kernel
theorem dX10_readsMove_127 : decode cX10_readsMove 127 = .ok (.getfield 128, 3) := by decide +kernel
theorem dX10_readsMove_130 : decode cX10_readsMove 130 = .ok (.imul, 1) := by decide +kernel
theorem dX10_readsMove_131 : decode cX10_readsMove 131 = .ok (.aload_n 0, 1) := by decide +kernel
theorem dX10_readsMove_132 : decode cX10_readsMove 132 = .ok (.invokevirtual 119, 3) := by decide +kernel
theorem dX10_readsMove_135 : decode cX10_readsMove 135 = .ok (.iadd, 1) := by decide +kernel
theorem dX10_readsMove_136 : decode cX10_readsMove 136 = .ok (.bipush 48, 2) := by decide +kernel
theorem dX10_readsMove_138 : decode cX10_readsMove 138 = .ok (.isub, 1) := by decide +kernel
theorem dX10_readsMove_139 : decode cX10_readsMove 139 = .ok (.putfield 128, 3) := by decide +kernel
theorem dX10_readsMove_142 : decode cX10_readsMove 142 = .ok (.aload_n 0, 1) := by decide +kernel
theorem dX10_readsMove_143 : decode cX10_readsMove 143 = .ok (.dup, 1) := by decide +kernel
theorem dX10_readsMove_144 : decode cX10_readsMove 144 = .ok (.getfield 116, 3) := by decide +kernel
theorem dX10_readsMove_147 : decode cX10_readsMove 147 = .ok (.iconst 1, 1) := by decide +kernel
theorem dX10_readsMove_148 : decode cX10_readsMove 148 = .ok (.iadd, 1) := by decide +kernel
theorem dX10_readsMove_149 : decode cX10_readsMove 149 = .ok (.putfield 116, 3) := by decide +kernel
theorem dX10_readsMove_152 : decode cX10_readsMove 152 = .ok (.iconst 1, 1) := by decide +kernel
theorem dX10_readsMove_153 : decode cX10_readsMove 153 = .ok (.ireturn, 1) := by decide +kernel
theorem dX10_isText_0 : decode cX10_isText 0 = .ok (.aload_n 0, 1) := by decide +kernel
theorem dX10_isText_1 : decode cX10_isText 1 = .ok (.iconst 0, 1) := by decide +kernel
theorem dX10_isText_2 : decode cX10_isText 2 = .ok (.putfield 116, 3) := by decide +kernel
theorem dX10_isText_5 : decode cX10_isText 5 = .ok (.aload_n 0, 1) := by decide +kernel
theorem dX10_isText_6 : decode cX10_isText 6 = .ok (.invokevirtual 131, 3) := by decide +kernel
theorem dX10_isText_9 : decode cX10_isText 9 = .ok (.ifCond .eq 27, 3) := by decide +kernel
theorem dX10_isText_12 : decode cX10_isText 12 = .ok (.aload_n 0, 1) := by decide +kernel
theorem dX10_isText_13 : decode cX10_isText 13 = .ok (.getfield 116, 3) := by decide +kernel
theorem dX10_isText_16 : decode cX10_isText 16 = .ok (.aload_n 0, 1) := by decide +kernel
theorem dX10_isText_17 : decode cX10_isText 17 = .ok (.getfield 113, 3) := by decide +kernel
theorem dX10_isText_20 : decode cX10_isText 20 = .ok (.if_icmp .ne 5, 3) := by decide +kernel
theorem dX10_isText_23 : decode cX10_isText 23 = .ok (.iconst 1, 1) := by decide +kernel
theorem dX10_isText_24 : decode cX10_isText 24 = .ok (.ireturn, 1) := by decide +kernel
theorem dX10_isText_25 : decode cX10_isText 25 = .ok (.aload_n 0, 1) := by decide +kernel
theorem dX10_isText_26 : decode cX10_isText 26 = .ok (.bipush 59, 2) := by decide +kernel
theorem dX10_isText_28 : decode cX10_isText 28 = .ok (.invokevirtual 125, 3) := by decide +kernel
theorem dX10_isText_31 : decode cX10_isText 31 = .ok (.ifCond .ne (-26), 3) := by decide +kernel
theorem dX10_isText_34 : decode cX10_isText 34 = .ok (.iconst 0, 1) := by decide +kernel
theorem dX10_isText_35 : decode cX10_isText 35 = .ok (.ireturn, 1) := by decide +kernel
theorem dX10_isText_36 : decode cX10_isText 36 = .ok (.iconst 0, 1) := by decide +kernel
theorem dX10_isText_37 : decode cX10_isText 37 = .ok (.ireturn, 1) := by decide +kernel
theorem dX10_fault_0 : decode cX10_fault 0 = .ok (.aload_n 0, 1) := by decide +kernel
theorem dX10_fault_1 : decode cX10_fault 1 = .ok (.invokevirtual 134, 3) := by decide +kernel
theorem dX10_fault_4 : decode cX10_fault 4 = .ok (.ifCond .eq 8, 3) := by decide +kernel
theorem dX10_fault_7 : decode cX10_fault 7 = .ok (.bipush (-6), 2) := by decide +kernel
theorem dX10_fault_9 : decode cX10_fault 9 = .ok (.goto 7, 3) := by decide +kernel
theorem dX10_fault_12 : decode cX10_fault 12 = .ok (.aload_n 0, 1) := by decide +kernel
theorem dX10_fault_13 : decode cX10_fault 13 = .ok (.getfield 116, 3) := by decide +kernel
theorem dX10_fault_16 : decode cX10_fault 16 = .ok (.ireturn, 1) := by decide +kernel
theorem dX10_isMade_0 : decode cX10_isMade 0 = .ok (.aload_n 0, 1) := by decide +kernel
theorem dX10_isMade_1 : decode cX10_isMade 1 = .ok (.invokevirtual 98, 3) := by decide +kernel
theorem dX10_isMade_4 : decode cX10_isMade 4 = .ok (.ifCond .ne 5, 3) := by decide +kernel
theorem dX10_isMade_7 : decode cX10_isMade 7 = .ok (.iconst 0, 1) := by decide +kernel
theorem dX10_isMade_8 : decode cX10_isMade 8 = .ok (.ireturn, 1) := by decide +kernel
theorem dX10_isMade_9 : decode cX10_isMade 9 = .ok (.aload_n 0, 1) := by decide +kernel
theorem dX10_isMade_10 : decode cX10_isMade 10 = .ok (.getfield 122, 3) := by decide +kernel
theorem dX10_isMade_13 : decode cX10_isMade 13 = .ok (.lookupswitch 105 #[(98, 55), (102, 35), (107, 77)], 35) := by decide +kernel
theorem dX10_isMade_48 : decode cX10_isMade 48 = .ok (.aload_n 0, 1) := by decide +kernel
theorem dX10_isMade_49 : decode cX10_isMade 49 = .ok (.invokevirtual 62, 3) := by decide +kernel
theorem dX10_isMade_52 : decode cX10_isMade 52 = .ok (.ifCond .eq 14, 3) := by decide +kernel
theorem dX10_isMade_55 : decode cX10_isMade 55 = .ok (.aload_n 0, 1) := by decide +kernel
theorem dX10_isMade_56 : decode cX10_isMade 56 = .ok (.invokevirtual 65, 3) := by decide +kernel
theorem dX10_isMade_59 : decode cX10_isMade 59 = .ok (.ifCond .lt 7, 3) := by decide +kernel
theorem dX10_isMade_62 : decode cX10_isMade 62 = .ok (.iconst 1, 1) := by decide +kernel
theorem dX10_isMade_63 : decode cX10_isMade 63 = .ok (.goto 4, 3) := by decide +kernel
theorem dX10_isMade_66 : decode cX10_isMade 66 = .ok (.iconst 0, 1) := by decide +kernel
theorem dX10_isMade_67 : decode cX10_isMade 67 = .ok (.ireturn, 1) := by decide +kernel
theorem dX10_isMade_68 : decode cX10_isMade 68 = .ok (.aload_n 0, 1) := by decide +kernel
theorem dX10_isMade_69 : decode cX10_isMade 69 = .ok (.invokevirtual 58, 3) := by decide +kernel
theorem dX10_isMade_72 : decode cX10_isMade 72 = .ok (.bipush (-6), 2) := by decide +kernel
theorem dX10_isMade_74 : decode cX10_isMade 74 = .ok (.if_icmp .eq 14, 3) := by decide +kernel
theorem dX10_isMade_77 : decode cX10_isMade 77 = .ok (.aload_n 0, 1) := by decide +kernel
theorem dX10_isMade_78 : decode cX10_isMade 78 = .ok (.invokevirtual 101, 3) := by decide +kernel
theorem dX10_isMade_81 : decode cX10_isMade 81 = .ok (.ifCond .lt 7, 3) := by decide +kernel
theorem dX10_isMade_84 : decode cX10_isMade 84 = .ok (.iconst 1, 1) := by decide +kernel
theorem dX10_isMade_85 : decode cX10_isMade 85 = .ok (.goto 4, 3) := by decide +kernel
theorem dX10_isMade_88 : decode cX10_isMade 88 = .ok (.iconst 0, 1) := by decide +kernel
theorem dX10_isMade_89 : decode cX10_isMade 89 = .ok (.ireturn, 1) := by decide +kernel
theorem dX10_isMade_90 : decode cX10_isMade 90 = .ok (.aload_n 0, 1) := by decide +kernel
theorem dX10_isMade_91 : decode cX10_isMade 91 = .ok (.aload_n 0, 1) := by decide +kernel
theorem dX10_isMade_92 : decode cX10_isMade 92 = .ok (.getfield 128, 3) := by decide +kernel
theorem dX10_isMade_95 : decode cX10_isMade 95 = .ok (.invokevirtual 104, 3) := by decide +kernel
theorem dX10_isMade_98 : decode cX10_isMade 98 = .ok (.ifCond .eq 18, 3) := by decide +kernel
theorem dX10_isMade_101 : decode cX10_isMade 101 = .ok (.aload_n 0, 1) := by decide +kernel
theorem dX10_isMade_102 : decode cX10_isMade 102 = .ok (.aload_n 0, 1) := by decide +kernel
theorem dX10_isMade_103 : decode cX10_isMade 103 = .ok (.getfield 128, 3) := by decide +kernel
theorem dX10_isMade_106 : decode cX10_isMade 106 = .ok (.invokevirtual 107, 3) := by decide +kernel
theorem dX10_isMade_109 : decode cX10_isMade 109 = .ok (.ifCond .lt 7, 3) := by decide +kernel
theorem dX10_isMade_112 : decode cX10_isMade 112 = .ok (.iconst 1, 1) := by decide +kernel
theorem dX10_isMade_113 : decode cX10_isMade 113 = .ok (.goto 4, 3) := by decide +kernel
theorem dX10_isMade_116 : decode cX10_isMade 116 = .ok (.iconst 0, 1) := by decide +kernel
theorem dX10_isMade_117 : decode cX10_isMade 117 = .ok (.ireturn, 1) := by decide +kernel
theorem dX10_isMade_118 : decode cX10_isMade 118 = .ok (.aload_n 0, 1) := by decide +kernel
theorem dX10_isMade_119 : decode cX10_isMade 119 = .ok (.aload_n 0, 1) := by decide +kernel
theorem dX10_isMade_120 : decode cX10_isMade 120 = .ok (.getfield 128, 3) := by decide +kernel
theorem dX10_isMade_123 : decode cX10_isMade 123 = .ok (.invokevirtual 110, 3) := by decide +kernel
theorem dX10_isMade_126 : decode cX10_isMade 126 = .ok (.ifCond .lt 7, 3) := by decide +kernel
theorem dX10_isMade_129 : decode cX10_isMade 129 = .ok (.iconst 1, 1) := by decide +kernel
theorem dX10_isMade_130 : decode cX10_isMade 130 = .ok (.goto 4, 3) := by decide +kernel
theorem dX10_isMade_133 : decode cX10_isMade 133 = .ok (.iconst 0, 1) := by decide +kernel
theorem dX10_isMade_134 : decode cX10_isMade 134 = .ok (.ireturn, 1) := by decide +kernel
theorem dX10_run_0 : decode cX10_run 0 = .ok (.aload_n 0, 1) := by decide +kernel
theorem dX10_run_1 : decode cX10_run 1 = .ok (.invokevirtual 134, 3) := by decide +kernel
theorem dX10_run_4 : decode cX10_run 4 = .ok (.ifCond .ne 6, 3) := by decide +kernel
theorem dX10_run_7 : decode cX10_run 7 = .ok (.bipush (-3), 2) := by decide +kernel
theorem dX10_run_9 : decode cX10_run 9 = .ok (.ireturn, 1) := by decide +kernel
theorem dX10_run_10 : decode cX10_run 10 = .ok (.aload_n 0, 1) := by decide +kernel
theorem dX10_run_11 : decode cX10_run 11 = .ok (.invokevirtual 76, 3) := by decide +kernel
theorem dX10_run_14 : decode cX10_run 14 = .ok (.aload_n 0, 1) := by decide +kernel
theorem dX10_run_15 : decode cX10_run 15 = .ok (.iconst 0, 1) := by decide +kernel
theorem dX10_run_16 : decode cX10_run 16 = .ok (.putfield 116, 3) := by decide +kernel
theorem dX10_run_19 : decode cX10_run 19 = .ok (.iconst 0, 1) := by decide +kernel
theorem dX10_run_20 : decode cX10_run 20 = .ok (.istore_n 1, 1) := by decide +kernel
theorem dX10_run_21 : decode cX10_run 21 = .ok (.iconst 0, 1) := by decide +kernel
theorem dX10_run_22 : decode cX10_run 22 = .ok (.istore_n 2, 1) := by decide +kernel
theorem dX10_run_23 : decode cX10_run 23 = .ok (.iconst 1, 1) := by decide +kernel
theorem dX10_run_24 : decode cX10_run 24 = .ok (.istore_n 3, 1) := by decide +kernel
theorem dX10_run_25 : decode cX10_run 25 = .ok (.iconst 0, 1) := by decide +kernel
theorem dX10_run_26 : decode cX10_run 26 = .ok (.istore 4, 2) := by decide +kernel
theorem dX10_run_28 : decode cX10_run 28 = .ok (.iload_n 3, 1) := by decide +kernel
theorem dX10_run_29 : decode cX10_run 29 = .ok (.ifCond .eq 63, 3) := by decide +kernel
theorem dX10_run_32 : decode cX10_run 32 = .ok (.aload_n 0, 1) := by decide +kernel
theorem dX10_run_33 : decode cX10_run 33 = .ok (.getfield 116, 3) := by decide +kernel
theorem dX10_run_36 : decode cX10_run 36 = .ok (.istore_n 2, 1) := by decide +kernel
theorem dX10_run_37 : decode cX10_run 37 = .ok (.aload_n 0, 1) := by decide +kernel
theorem dX10_run_38 : decode cX10_run 38 = .ok (.invokevirtual 131, 3) := by decide +kernel
theorem dX10_run_41 : decode cX10_run 41 = .ok (.pop, 1) := by decide +kernel
theorem dX10_run_42 : decode cX10_run 42 = .ok (.aload_n 0, 1) := by decide +kernel
theorem dX10_run_43 : decode cX10_run 43 = .ok (.invokevirtual 137, 3) := by decide +kernel
theorem dX10_run_46 : decode cX10_run 46 = .ok (.ifCond .ne 7, 3) := by decide +kernel
theorem dX10_run_49 : decode cX10_run 49 = .ok (.iconst 1, 1) := by decide +kernel
theorem dX10_run_50 : decode cX10_run 50 = .ok (.goto 4, 3) := by decide +kernel
theorem dX10_run_53 : decode cX10_run 53 = .ok (.iconst 0, 1) := by decide +kernel
theorem dX10_run_54 : decode cX10_run 54 = .ok (.istore 4, 2) := by decide +kernel
theorem dX10_run_56 : decode cX10_run 56 = .ok (.iload_n 1, 1) := by decide +kernel
theorem dX10_run_57 : decode cX10_run 57 = .ok (.iload 4, 2) := by decide +kernel
theorem dX10_run_59 : decode cX10_run 59 = .ok (.ifCond .eq 7, 3) := by decide +kernel
theorem dX10_run_62 : decode cX10_run 62 = .ok (.iconst 0, 1) := by decide +kernel
theorem dX10_run_63 : decode cX10_run 63 = .ok (.goto 4, 3) := by decide +kernel
theorem dX10_run_66 : decode cX10_run 66 = .ok (.iconst 1, 1) := by decide +kernel
theorem dX10_run_67 : decode cX10_run 67 = .ok (.iadd, 1) := by decide +kernel
theorem dX10_run_68 : decode cX10_run 68 = .ok (.istore_n 1, 1) := by decide +kernel
theorem dX10_run_69 : decode cX10_run 69 = .ok (.iload 4, 2) := by decide +kernel
theorem dX10_run_71 : decode cX10_run 71 = .ok (.ifCond .ne 16, 3) := by decide +kernel
theorem dX10_run_74 : decode cX10_run 74 = .ok (.aload_n 0, 1) := by decide +kernel
theorem dX10_run_75 : decode cX10_run 75 = .ok (.bipush 59, 2) := by decide +kernel
theorem dX10_run_77 : decode cX10_run 77 = .ok (.invokevirtual 125, 3) := by decide +kernel
theorem dX10_run_80 : decode cX10_run 80 = .ok (.ifCond .eq 7, 3) := by decide +kernel
theorem dX10_run_83 : decode cX10_run 83 = .ok (.iconst 1, 1) := by decide +kernel
theorem dX10_run_84 : decode cX10_run 84 = .ok (.goto 4, 3) := by decide +kernel
theorem dX10_run_87 : decode cX10_run 87 = .ok (.iconst 0, 1) := by decide +kernel
theorem dX10_run_88 : decode cX10_run 88 = .ok (.istore_n 3, 1) := by decide +kernel
theorem dX10_run_89 : decode cX10_run 89 = .ok (.goto (-61), 3) := by decide +kernel
theorem dX10_run_92 : decode cX10_run 92 = .ok (.aload_n 0, 1) := by decide +kernel
theorem dX10_run_93 : decode cX10_run 93 = .ok (.getfield 16, 3) := by decide +kernel
theorem dX10_run_96 : decode cX10_run 96 = .ok (.iconst 0, 1) := by decide +kernel
theorem dX10_run_97 : decode cX10_run 97 = .ok (.iload 4, 2) := by decide +kernel
theorem dX10_run_99 : decode cX10_run 99 = .ok (.ifCond .eq 7, 3) := by decide +kernel
theorem dX10_run_102 : decode cX10_run 102 = .ok (.iload_n 1, 1) := by decide +kernel
theorem dX10_run_103 : decode cX10_run 103 = .ok (.goto 5, 3) := by decide +kernel
theorem dX10_run_106 : decode cX10_run 106 = .ok (.bipush (-6), 2) := by decide +kernel
theorem dX10_run_108 : decode cX10_run 108 = .ok (.iastore, 1) := by decide +kernel
theorem dX10_run_109 : decode cX10_run 109 = .ok (.aload_n 0, 1) := by decide +kernel
theorem dX10_run_110 : decode cX10_run 110 = .ok (.getfield 16, 3) := by decide +kernel
theorem dX10_run_113 : decode cX10_run 113 = .ok (.iconst 1, 1) := by decide +kernel
theorem dX10_run_114 : decode cX10_run 114 = .ok (.iload 4, 2) := by decide +kernel
theorem dX10_run_116 : decode cX10_run 116 = .ok (.ifCond .eq 7, 3) := by decide +kernel
theorem dX10_run_119 : decode cX10_run 119 = .ok (.iload_n 2, 1) := by decide +kernel
theorem dX10_run_120 : decode cX10_run 120 = .ok (.goto 5, 3) := by decide +kernel
theorem dX10_run_123 : decode cX10_run 123 = .ok (.bipush (-6), 2) := by decide +kernel
theorem dX10_run_125 : decode cX10_run 125 = .ok (.iastore, 1) := by decide +kernel
theorem dX10_run_126 : decode cX10_run 126 = .ok (.aload_n 0, 1) := by decide +kernel
theorem dX10_run_127 : decode cX10_run 127 = .ok (.getfield 16, 3) := by decide +kernel
theorem dX10_run_130 : decode cX10_run 130 = .ok (.iconst 2, 1) := by decide +kernel
theorem dX10_run_131 : decode cX10_run 131 = .ok (.iload 4, 2) := by decide +kernel
theorem dX10_run_133 : decode cX10_run 133 = .ok (.ifCond .eq 24, 3) := by decide +kernel
theorem dX10_run_136 : decode cX10_run 136 = .ok (.aload_n 0, 1) := by decide +kernel
theorem dX10_run_137 : decode cX10_run 137 = .ok (.getfield 7, 3) := by decide +kernel
theorem dX10_run_140 : decode cX10_run 140 = .ok (.bipush 29, 2) := by decide +kernel
theorem dX10_run_142 : decode cX10_run 142 = .ok (.iaload, 1) := by decide +kernel
theorem dX10_run_143 : decode cX10_run 143 = .ok (.iconst 1, 1) := by decide +kernel
theorem dX10_run_144 : decode cX10_run 144 = .ok (.if_icmp .ne 13, 3) := by decide +kernel
theorem dX10_run_147 : decode cX10_run 147 = .ok (.aload_n 0, 1) := by decide +kernel
theorem dX10_run_148 : decode cX10_run 148 = .ok (.getfield 7, 3) := by decide +kernel
theorem dX10_run_151 : decode cX10_run 151 = .ok (.bipush 30, 2) := by decide +kernel
theorem dX10_run_153 : decode cX10_run 153 = .ok (.iaload, 1) := by decide +kernel
theorem dX10_run_154 : decode cX10_run 154 = .ok (.goto 5, 3) := by decide +kernel
theorem dX10_run_157 : decode cX10_run 157 = .ok (.bipush (-6), 2) := by decide +kernel
theorem dX10_run_159 : decode cX10_run 159 = .ok (.iastore, 1) := by decide +kernel
theorem dX10_run_160 : decode cX10_run 160 = .ok (.aload_n 0, 1) := by decide +kernel
theorem dX10_run_161 : decode cX10_run 161 = .ok (.getfield 16, 3) := by decide +kernel
theorem dX10_run_164 : decode cX10_run 164 = .ok (.iconst 3, 1) := by decide +kernel
theorem dX10_run_165 : decode cX10_run 165 = .ok (.iload 4, 2) := by decide +kernel
theorem dX10_run_167 : decode cX10_run 167 = .ok (.ifCond .eq 24, 3) := by decide +kernel
theorem dX10_run_170 : decode cX10_run 170 = .ok (.aload_n 0, 1) := by decide +kernel
theorem dX10_run_171 : decode cX10_run 171 = .ok (.getfield 7, 3) := by decide +kernel
theorem dX10_run_174 : decode cX10_run 174 = .ok (.bipush 29, 2) := by decide +kernel
theorem dX10_run_176 : decode cX10_run 176 = .ok (.iaload, 1) := by decide +kernel
theorem dX10_run_177 : decode cX10_run 177 = .ok (.iconst 1, 1) := by decide +kernel
theorem dX10_run_178 : decode cX10_run 178 = .ok (.if_icmp .ne 13, 3) := by decide +kernel
theorem dX10_run_181 : decode cX10_run 181 = .ok (.aload_n 0, 1) := by decide +kernel
theorem dX10_run_182 : decode cX10_run 182 = .ok (.getfield 7, 3) := by decide +kernel
theorem dX10_run_185 : decode cX10_run 185 = .ok (.bipush 31, 2) := by decide +kernel
theorem dX10_run_187 : decode cX10_run 187 = .ok (.iaload, 1) := by decide +kernel
theorem dX10_run_188 : decode cX10_run 188 = .ok (.goto 5, 3) := by decide +kernel
theorem dX10_run_191 : decode cX10_run 191 = .ok (.bipush (-6), 2) := by decide +kernel
theorem dX10_run_193 : decode cX10_run 193 = .ok (.iastore, 1) := by decide +kernel
theorem dX10_run_194 : decode cX10_run 194 = .ok (.iload_n 1, 1) := by decide +kernel
theorem dX10_run_195 : decode cX10_run 195 = .ok (.ireturn, 1) := by decide +kernel
theorem dX10_why_0 : decode cX10_why 0 = .ok (.iload_n 1, 1) := by decide +kernel
theorem dX10_why_1 : decode cX10_why 1 = .ok (.iconst 0, 1) := by decide +kernel
theorem dX10_why_2 : decode cX10_why 2 = .ok (.iconst 3, 1) := by decide +kernel
theorem dX10_why_3 : decode cX10_why 3 = .ok (.invokestatic 22, 3) := by decide +kernel
theorem dX10_why_6 : decode cX10_why 6 = .ok (.ifCond .eq 12, 3) := by decide +kernel
theorem dX10_why_9 : decode cX10_why 9 = .ok (.aload_n 0, 1) := by decide +kernel
theorem dX10_why_10 : decode cX10_why 10 = .ok (.getfield 16, 3) := by decide +kernel
theorem dX10_why_13 : decode cX10_why 13 = .ok (.iload_n 1, 1) := by decide +kernel
theorem dX10_why_14 : decode cX10_why 14 = .ok (.iaload, 1) := by decide +kernel
theorem dX10_why_15 : decode cX10_why 15 = .ok (.goto 5, 3) := by decide +kernel
theorem dX10_why_18 : decode cX10_why 18 = .ok (.bipush (-2), 2) := by decide +kernel
theorem dX10_why_20 : decode cX10_why 20 = .ok (.ireturn, 1) := by decide +kernel
theorem dX10_undo_0 : decode cX10_undo 0 = .ok (.aload_n 0, 1) := by decide +kernel
theorem dX10_undo_1 : decode cX10_undo 1 = .ok (.getfield 68, 3) := by decide +kernel
theorem dX10_undo_4 : decode cX10_undo 4 = .ok (.ifCond .ne 6, 3) := by decide +kernel
theorem dX10_undo_7 : decode cX10_undo 7 = .ok (.bipush (-6), 2) := by decide +kernel
theorem dX10_undo_9 : decode cX10_undo 9 = .ok (.ireturn, 1) := by decide +kernel
theorem dX10_undo_10 : decode cX10_undo 10 = .ok (.aload_n 0, 1) := by decide +kernel
theorem dX10_undo_11 : decode cX10_undo 11 = .ok (.aload_n 0, 1) := by decide +kernel
theorem dX10_undo_12 : decode cX10_undo 12 = .ok (.getfield 68, 3) := by decide +kernel
theorem dX10_undo_15 : decode cX10_undo 15 = .ok (.iconst 0, 1) := by decide +kernel
theorem dX10_undo_16 : decode cX10_undo 16 = .ok (.invokevirtual 72, 3) := by decide +kernel
theorem dX10_undo_19 : decode cX10_undo 19 = .ok (.aload_n 0, 1) := by decide +kernel
theorem dX10_undo_20 : decode cX10_undo 20 = .ok (.dup, 1) := by decide +kernel
theorem dX10_undo_21 : decode cX10_undo 21 = .ok (.getfield 68, 3) := by decide +kernel
theorem dX10_undo_24 : decode cX10_undo 24 = .ok (.iconst 1, 1) := by decide +kernel
theorem dX10_undo_25 : decode cX10_undo 25 = .ok (.isub, 1) := by decide +kernel
theorem dX10_undo_26 : decode cX10_undo 26 = .ok (.putfield 68, 3) := by decide +kernel
theorem dX10_undo_29 : decode cX10_undo 29 = .ok (.aload_n 0, 1) := by decide +kernel
theorem dX10_undo_30 : decode cX10_undo 30 = .ok (.getfield 68, 3) := by decide +kernel
theorem dX10_undo_33 : decode cX10_undo 33 = .ok (.ireturn, 1) := by decide +kernel
theorem dX10_slides_0 : decode cX10_slides 0 = .ok (.aload_n 0, 1) := by decide +kernel
theorem dX10_slides_1 : decode cX10_slides 1 = .ok (.getfield 7, 3) := by decide +kernel
theorem dX10_slides_4 : decode cX10_slides 4 = .ok (.iconst 0, 1) := by decide +kernel
theorem dX10_slides_5 : decode cX10_slides 5 = .ok (.iaload, 1) := by decide +kernel
theorem dX10_slides_6 : decode cX10_slides 6 = .ok (.ireturn, 1) := by decide +kernel
theorem dX10_slideAt_0 : decode cX10_slideAt 0 = .ok (.iload_n 1, 1) := by decide +kernel
theorem dX10_slideAt_1 : decode cX10_slideAt 1 = .ok (.ifCond .ge 6, 3) := by decide +kernel
theorem dX10_slideAt_4 : decode cX10_slideAt 4 = .ok (.bipush (-2), 2) := by decide +kernel
theorem dX10_slideAt_6 : decode cX10_slideAt 6 = .ok (.ireturn, 1) := by decide +kernel
theorem dX10_slideAt_7 : decode cX10_slideAt 7 = .ok (.iload_n 1, 1) := by decide +kernel
theorem dX10_slideAt_8 : decode cX10_slideAt 8 = .ok (.aload_n 0, 1) := by decide +kernel
theorem dX10_slideAt_9 : decode cX10_slideAt 9 = .ok (.getfield 7, 3) := by decide +kernel
theorem dX10_slideAt_12 : decode cX10_slideAt 12 = .ok (.iconst 0, 1) := by decide +kernel
theorem dX10_slideAt_13 : decode cX10_slideAt 13 = .ok (.iaload, 1) := by decide +kernel
theorem dX10_slideAt_14 : decode cX10_slideAt 14 = .ok (.if_icmp .ge 14, 3) := by decide +kernel
theorem dX10_slideAt_17 : decode cX10_slideAt 17 = .ok (.aload_n 0, 1) := by decide +kernel
theorem dX10_slideAt_18 : decode cX10_slideAt 18 = .ok (.getfield 7, 3) := by decide +kernel
theorem dX10_slideAt_21 : decode cX10_slideAt 21 = .ok (.iconst 1, 1) := by decide +kernel
theorem dX10_slideAt_22 : decode cX10_slideAt 22 = .ok (.iload_n 1, 1) := by decide +kernel
theorem dX10_slideAt_23 : decode cX10_slideAt 23 = .ok (.iadd, 1) := by decide +kernel
theorem dX10_slideAt_24 : decode cX10_slideAt 24 = .ok (.iaload, 1) := by decide +kernel
theorem dX10_slideAt_25 : decode cX10_slideAt 25 = .ok (.goto 5, 3) := by decide +kernel
theorem dX10_slideAt_28 : decode cX10_slideAt 28 = .ok (.bipush (-6), 2) := by decide +kernel
theorem dX10_slideAt_30 : decode cX10_slideAt 30 = .ok (.ireturn, 1) := by decide +kernel
theorem dX10_slide_0 : decode cX10_slide 0 = .ok (.aload_n 0, 1) := by decide +kernel
theorem dX10_slide_1 : decode cX10_slide 1 = .ok (.iload_n 1, 1) := by decide +kernel
theorem dX10_slide_2 : decode cX10_slide 2 = .ok (.invokevirtual 30, 3) := by decide +kernel
theorem dX10_slide_5 : decode cX10_slide 5 = .ok (.ifCond .ne 5, 3) := by decide +kernel
theorem dX10_slide_8 : decode cX10_slide 8 = .ok (.iconst (-1), 1) := by decide +kernel
theorem dX10_slide_9 : decode cX10_slide 9 = .ok (.ireturn, 1) := by decide +kernel
theorem dX10_slide_10 : decode cX10_slide 10 = .ok (.iload_n 2, 1) := by decide +kernel
theorem dX10_slide_11 : decode cX10_slide 11 = .ok (.tableswitch 62 0 5 #[37, 43, 43, 43, 50, 56], 37) := by decide +kernel
theorem dX10_slide_48 : decode cX10_slide 48 = .ok (.aload_n 0, 1) := by decide +kernel
theorem dX10_slide_49 : decode cX10_slide 49 = .ok (.iload_n 1, 1) := by decide +kernel
theorem dX10_slide_50 : decode cX10_slide 50 = .ok (.invokevirtual 37, 3) := by decide +kernel
theorem dX10_slide_53 : decode cX10_slide 53 = .ok (.ireturn, 1) := by decide +kernel
theorem dX10_slide_54 : decode cX10_slide 54 = .ok (.aload_n 0, 1) := by decide +kernel
theorem dX10_slide_55 : decode cX10_slide 55 = .ok (.iload_n 1, 1) := by decide +kernel
theorem dX10_slide_56 : decode cX10_slide 56 = .ok (.iload_n 2, 1) := by decide +kernel
theorem dX10_slide_57 : decode cX10_slide 57 = .ok (.invokevirtual 26, 3) := by decide +kernel
theorem dX10_slide_60 : decode cX10_slide 60 = .ok (.ireturn, 1) := by decide +kernel
theorem dX10_slide_61 : decode cX10_slide 61 = .ok (.aload_n 0, 1) := by decide +kernel
theorem dX10_slide_62 : decode cX10_slide 62 = .ok (.iload_n 1, 1) := by decide +kernel
theorem dX10_slide_63 : decode cX10_slide 63 = .ok (.invokevirtual 48, 3) := by decide +kernel
theorem dX10_slide_66 : decode cX10_slide 66 = .ok (.ireturn, 1) := by decide +kernel
theorem dX10_slide_67 : decode cX10_slide 67 = .ok (.aload_n 0, 1) := by decide +kernel
theorem dX10_slide_68 : decode cX10_slide 68 = .ok (.iload_n 1, 1) := by decide +kernel
theorem dX10_slide_69 : decode cX10_slide 69 = .ok (.invokevirtual 92, 3) := by decide +kernel
theorem dX10_slide_72 : decode cX10_slide 72 = .ok (.ireturn, 1) := by decide +kernel
theorem dX10_slide_73 : decode cX10_slide 73 = .ok (.bipush (-2), 2) := by decide +kernel
theorem dX10_slide_75 : decode cX10_slide 75 = .ok (.ireturn, 1) := by decide +kernel
theorem dX10_item_0 : decode cX10_item 0 = .ok (.aload_n 0, 1) := by decide +kernel
theorem dX10_item_1 : decode cX10_item 1 = .ok (.iload_n 1, 1) := by decide +kernel
theorem dX10_item_2 : decode cX10_item 2 = .ok (.iload_n 2, 1) := by decide +kernel
theorem dX10_item_3 : decode cX10_item 3 = .ok (.invokevirtual 85, 3) := by decide +kernel
theorem dX10_item_6 : decode cX10_item 6 = .ok (.ifCond .ne 5, 3) := by decide +kernel
theorem dX10_item_9 : decode cX10_item 9 = .ok (.iconst (-1), 1) := by decide +kernel
theorem dX10_item_10 : decode cX10_item 10 = .ok (.ireturn, 1) := by decide +kernel
theorem dX10_item_11 : decode cX10_item 11 = .ok (.iload_n 3, 1) := by decide +kernel
theorem dX10_item_12 : decode cX10_item 12 = .ok (.iconst 0, 1) := by decide +kernel
theorem dX10_item_13 : decode cX10_item 13 = .ok (.iconst 2, 1) := by decide +kernel
theorem dX10_item_14 : decode cX10_item 14 = .ok (.invokestatic 22, 3) := by decide +kernel
theorem dX10_item_17 : decode cX10_item 17 = .ok (.ifCond .ne 6, 3) := by decide +kernel
theorem dX10_item_20 : decode cX10_item 20 = .ok (.bipush (-2), 2) := by decide +kernel
theorem dX10_item_22 : decode cX10_item 22 = .ok (.ireturn, 1) := by decide +kernel
theorem dX10_item_23 : decode cX10_item 23 = .ok (.aload_n 0, 1) := by decide +kernel
theorem dX10_item_24 : decode cX10_item 24 = .ok (.iload_n 1, 1) := by decide +kernel
theorem dX10_item_25 : decode cX10_item 25 = .ok (.iconst 4, 1) := by decide +kernel
theorem dX10_item_26 : decode cX10_item 26 = .ok (.iconst 3, 1) := by decide +kernel
theorem dX10_item_27 : decode cX10_item 27 = .ok (.iload_n 2, 1) := by decide +kernel
theorem dX10_item_28 : decode cX10_item 28 = .ok (.imul, 1) := by decide +kernel
theorem dX10_item_29 : decode cX10_item 29 = .ok (.iadd, 1) := by decide +kernel
theorem dX10_item_30 : decode cX10_item 30 = .ok (.iload_n 3, 1) := by decide +kernel
theorem dX10_item_31 : decode cX10_item 31 = .ok (.iadd, 1) := by decide +kernel
theorem dX10_item_32 : decode cX10_item 32 = .ok (.invokevirtual 26, 3) := by decide +kernel
theorem dX10_item_35 : decode cX10_item 35 = .ok (.istore 4, 2) := by decide +kernel
theorem dX10_item_37 : decode cX10_item 37 = .ok (.iload 4, 2) := by decide +kernel
theorem dX10_item_39 : decode cX10_item 39 = .ok (.iconst (-1), 1) := by decide +kernel
theorem dX10_item_40 : decode cX10_item 40 = .ok (.if_icmp .ne 8, 3) := by decide +kernel
theorem dX10_item_43 : decode cX10_item 43 = .ok (.bipush (-6), 2) := by decide +kernel
theorem dX10_item_45 : decode cX10_item 45 = .ok (.goto 5, 3) := by decide +kernel
theorem dX10_item_48 : decode cX10_item 48 = .ok (.iload 4, 2) := by decide +kernel
theorem dX10_item_50 : decode cX10_item 50 = .ok (.ireturn, 1) := by decide +kernel
theorem dX10_target_0 : decode cX10_target 0 = .ok (.aload_n 0, 1) := by decide +kernel
theorem dX10_target_1 : decode cX10_target 1 = .ok (.iload_n 1, 1) := by decide +kernel
theorem dX10_target_2 : decode cX10_target 2 = .ok (.invokevirtual 30, 3) := by decide +kernel
theorem dX10_target_5 : decode cX10_target 5 = .ok (.ifCond .ne 5, 3) := by decide +kernel
theorem dX10_target_8 : decode cX10_target 8 = .ok (.iconst (-1), 1) := by decide +kernel
theorem dX10_target_9 : decode cX10_target 9 = .ok (.ireturn, 1) := by decide +kernel
theorem dX10_target_10 : decode cX10_target 10 = .ok (.aload_n 0, 1) := by decide +kernel
theorem dX10_target_11 : decode cX10_target 11 = .ok (.iload_n 2, 1) := by decide +kernel
theorem dX10_target_12 : decode cX10_target 12 = .ok (.invokevirtual 89, 3) := by decide +kernel
theorem dX10_target_15 : decode cX10_target 15 = .ok (.ifCond .eq 15, 3) := by decide +kernel
theorem dX10_target_18 : decode cX10_target 18 = .ok (.aload_n 0, 1) := by decide +kernel
theorem dX10_target_19 : decode cX10_target 19 = .ok (.iload_n 1, 1) := by decide +kernel
theorem dX10_target_20 : decode cX10_target 20 = .ok (.bipush 22, 2) := by decide +kernel
theorem dX10_target_22 : decode cX10_target 22 = .ok (.iload_n 2, 1) := by decide +kernel
theorem dX10_target_23 : decode cX10_target 23 = .ok (.iadd, 1) := by decide +kernel
theorem dX10_target_24 : decode cX10_target 24 = .ok (.invokevirtual 26, 3) := by decide +kernel
theorem dX10_target_27 : decode cX10_target 27 = .ok (.goto 5, 3) := by decide +kernel
theorem dX10_target_30 : decode cX10_target 30 = .ok (.bipush (-2), 2) := by decide +kernel
theorem dX10_target_32 : decode cX10_target 32 = .ok (.ireturn, 1) := by decide +kernel
theorem dX10_picture_0 : decode cX10_picture 0 = .ok (.aload_n 0, 1) := by decide +kernel
theorem dX10_picture_1 : decode cX10_picture 1 = .ok (.iload_n 1, 1) := by decide +kernel
theorem dX10_picture_2 : decode cX10_picture 2 = .ok (.invokevirtual 30, 3) := by decide +kernel
theorem dX10_picture_5 : decode cX10_picture 5 = .ok (.ifCond .ne 5, 3) := by decide +kernel
theorem dX10_picture_8 : decode cX10_picture 8 = .ok (.iconst (-1), 1) := by decide +kernel
theorem dX10_picture_9 : decode cX10_picture 9 = .ok (.ireturn, 1) := by decide +kernel
theorem dX10_picture_10 : decode cX10_picture 10 = .ok (.iload_n 2, 1) := by decide +kernel
theorem dX10_picture_11 : decode cX10_picture 11 = .ok (.iconst 0, 1) := by decide +kernel
theorem dX10_picture_12 : decode cX10_picture 12 = .ok (.bipush 9, 2) := by decide +kernel
theorem dX10_picture_14 : decode cX10_picture 14 = .ok (.invokestatic 22, 3) := by decide +kernel
theorem dX10_picture_17 : decode cX10_picture 17 = .ok (.ifCond .eq 12, 3) := by decide +kernel
theorem dX10_picture_20 : decode cX10_picture 20 = .ok (.aload_n 0, 1) := by decide +kernel
theorem dX10_picture_21 : decode cX10_picture 21 = .ok (.iload_n 1, 1) := by decide +kernel
theorem dX10_picture_22 : decode cX10_picture 22 = .ok (.iload_n 2, 1) := by decide +kernel
theorem dX10_picture_23 : decode cX10_picture 23 = .ok (.invokevirtual 140, 3) := by decide +kernel
theorem dX10_picture_26 : decode cX10_picture 26 = .ok (.goto 5, 3) := by decide +kernel
theorem dX10_picture_29 : decode cX10_picture 29 = .ok (.bipush (-2), 2) := by decide +kernel
theorem dX10_picture_31 : decode cX10_picture 31 = .ok (.ireturn, 1) := by decide +kernel
theorem dX10_now_0 : decode cX10_now 0 = .ok (.iload_n 1, 1) := by decide +kernel
theorem dX10_now_1 : decode cX10_now 1 = .ok (.iconst 0, 1) := by decide +kernel
theorem dX10_now_2 : decode cX10_now 2 = .ok (.bipush 6, 2) := by decide +kernel
theorem dX10_now_4 : decode cX10_now 4 = .ok (.invokestatic 22, 3) := by decide +kernel
theorem dX10_now_7 : decode cX10_now 7 = .ok (.ifCond .ne 6, 3) := by decide +kernel
theorem dX10_now_10 : decode cX10_now 10 = .ok (.bipush (-2), 2) := by decide +kernel
theorem dX10_now_12 : decode cX10_now 12 = .ok (.ireturn, 1) := by decide +kernel
theorem dX10_now_13 : decode cX10_now 13 = .ok (.aload_n 0, 1) := by decide +kernel
theorem dX10_now_14 : decode cX10_now 14 = .ok (.getfield 7, 3) := by decide +kernel
theorem dX10_now_17 : decode cX10_now 17 = .ok (.bipush 29, 2) := by decide +kernel
theorem dX10_now_19 : decode cX10_now 19 = .ok (.iaload, 1) := by decide +kernel
theorem dX10_now_20 : decode cX10_now 20 = .ok (.ifCond .ne 6, 3) := by decide +kernel
theorem dX10_now_23 : decode cX10_now 23 = .ok (.bipush (-6), 2) := by decide +kernel
theorem dX10_now_25 : decode cX10_now 25 = .ok (.ireturn, 1) := by decide +kernel
theorem dX10_now_26 : decode cX10_now 26 = .ok (.iload_n 1, 1) := by decide +kernel
theorem dX10_now_27 : decode cX10_now 27 = .ok (.tableswitch 54 4 6 #[25, 33, 46], 25) := by decide +kernel
theorem dX10_now_52 : decode cX10_now 52 = .ok (.aload_n 0, 1) := by decide +kernel
theorem dX10_now_53 : decode cX10_now 53 = .ok (.getfield 7, 3) := by decide +kernel
theorem dX10_now_56 : decode cX10_now 56 = .ok (.bipush 35, 2) := by decide +kernel
theorem dX10_now_58 : decode cX10_now 58 = .ok (.iaload, 1) := by decide +kernel
theorem dX10_now_59 : decode cX10_now 59 = .ok (.ireturn, 1) := by decide +kernel
theorem dX10_now_60 : decode cX10_now 60 = .ok (.aload_n 0, 1) := by decide +kernel
theorem dX10_now_61 : decode cX10_now 61 = .ok (.invokevirtual 44, 3) := by decide +kernel
theorem dX10_now_64 : decode cX10_now 64 = .ok (.ifCond .eq 7, 3) := by decide +kernel
theorem dX10_now_67 : decode cX10_now 67 = .ok (.iconst 1, 1) := by decide +kernel
theorem dX10_now_68 : decode cX10_now 68 = .ok (.goto 4, 3) := by decide +kernel
theorem dX10_now_71 : decode cX10_now 71 = .ok (.iconst 0, 1) := by decide +kernel
theorem dX10_now_72 : decode cX10_now 72 = .ok (.ireturn, 1) := by decide +kernel
theorem dX10_now_73 : decode cX10_now 73 = .ok (.aload_n 0, 1) := by decide +kernel
theorem dX10_now_74 : decode cX10_now 74 = .ok (.getfield 7, 3) := by decide +kernel
theorem dX10_now_77 : decode cX10_now 77 = .ok (.bipush 34, 2) := by decide +kernel
theorem dX10_now_79 : decode cX10_now 79 = .ok (.iaload, 1) := by decide +kernel
theorem dX10_now_80 : decode cX10_now 80 = .ok (.ireturn, 1) := by decide +kernel
theorem dX10_now_81 : decode cX10_now 81 = .ok (.aload_n 0, 1) := by decide +kernel
theorem dX10_now_82 : decode cX10_now 82 = .ok (.getfield 7, 3) := by decide +kernel
theorem dX10_now_85 : decode cX10_now 85 = .ok (.bipush 30, 2) := by decide +kernel
theorem dX10_now_87 : decode cX10_now 87 = .ok (.iload_n 1, 1) := by decide +kernel
theorem dX10_now_88 : decode cX10_now 88 = .ok (.iadd, 1) := by decide +kernel
theorem dX10_now_89 : decode cX10_now 89 = .ok (.iaload, 1) := by decide +kernel
theorem dX10_now_90 : decode cX10_now 90 = .ok (.ireturn, 1) := by decide +kernel
theorem dX10_trail_0 : decode cX10_trail 0 = .ok (.iload_n 1, 1) := by decide +kernel
theorem dX10_trail_1 : decode cX10_trail 1 = .ok (.ifCond .lt 12, 3) := by decide +kernel
theorem dX10_trail_4 : decode cX10_trail 4 = .ok (.iload_n 2, 1) := by decide +kernel
theorem dX10_trail_5 : decode cX10_trail 5 = .ok (.iconst 0, 1) := by decide +kernel
theorem dX10_trail_6 : decode cX10_trail 6 = .ok (.iconst 2, 1) := by decide +kernel
theorem dX10_trail_7 : decode cX10_trail 7 = .ok (.invokestatic 22, 3) := by decide +kernel
theorem dX10_trail_10 : decode cX10_trail 10 = .ok (.ifCond .ne 6, 3) := by decide +kernel
theorem dX10_trail_13 : decode cX10_trail 13 = .ok (.bipush (-2), 2) := by decide +kernel
theorem dX10_trail_15 : decode cX10_trail 15 = .ok (.ireturn, 1) := by decide +kernel
theorem dX10_trail_16 : decode cX10_trail 16 = .ok (.aload_n 0, 1) := by decide +kernel
theorem dX10_trail_17 : decode cX10_trail 17 = .ok (.getfield 7, 3) := by decide +kernel
theorem dX10_trail_20 : decode cX10_trail 20 = .ok (.bipush 29, 2) := by decide +kernel
theorem dX10_trail_22 : decode cX10_trail 22 = .ok (.iaload, 1) := by decide +kernel
theorem dX10_trail_23 : decode cX10_trail 23 = .ok (.iconst 1, 1) := by decide +kernel
theorem dX10_trail_24 : decode cX10_trail 24 = .ok (.if_icmp .ne 40, 3) := by decide +kernel
theorem dX10_trail_27 : decode cX10_trail 27 = .ok (.iload_n 1, 1) := by decide +kernel
theorem dX10_trail_28 : decode cX10_trail 28 = .ok (.aload_n 0, 1) := by decide +kernel
theorem dX10_trail_29 : decode cX10_trail 29 = .ok (.getfield 7, 3) := by decide +kernel
theorem dX10_trail_32 : decode cX10_trail 32 = .ok (.bipush 35, 2) := by decide +kernel
theorem dX10_trail_34 : decode cX10_trail 34 = .ok (.iaload, 1) := by decide +kernel
theorem dX10_trail_35 : decode cX10_trail 35 = .ok (.if_icmp .ge 29, 3) := by decide +kernel
theorem dX10_trail_38 : decode cX10_trail 38 = .ok (.aload_n 0, 1) := by decide +kernel
theorem dX10_trail_39 : decode cX10_trail 39 = .ok (.getfield 7, 3) := by decide +kernel
theorem dX10_trail_42 : decode cX10_trail 42 = .ok (.bipush 36, 2) := by decide +kernel
theorem dX10_trail_44 : decode cX10_trail 44 = .ok (.iconst 3, 1) := by decide +kernel
theorem dX10_trail_45 : decode cX10_trail 45 = .ok (.aload_n 0, 1) := by decide +kernel
theorem dX10_trail_46 : decode cX10_trail 46 = .ok (.getfield 7, 3) := by decide +kernel
theorem dX10_trail_49 : decode cX10_trail 49 = .ok (.bipush 35, 2) := by decide +kernel
theorem dX10_trail_51 : decode cX10_trail 51 = .ok (.iaload, 1) := by decide +kernel
theorem dX10_trail_52 : decode cX10_trail 52 = .ok (.iconst 1, 1) := by decide +kernel
theorem dX10_trail_53 : decode cX10_trail 53 = .ok (.isub, 1) := by decide +kernel
theorem dX10_trail_54 : decode cX10_trail 54 = .ok (.iload_n 1, 1) := by decide +kernel
theorem dX10_trail_55 : decode cX10_trail 55 = .ok (.isub, 1) := by decide +kernel
theorem dX10_trail_56 : decode cX10_trail 56 = .ok (.imul, 1) := by decide +kernel
theorem dX10_trail_57 : decode cX10_trail 57 = .ok (.iadd, 1) := by decide +kernel
theorem dX10_trail_58 : decode cX10_trail 58 = .ok (.iload_n 2, 1) := by decide +kernel
theorem dX10_trail_59 : decode cX10_trail 59 = .ok (.iadd, 1) := by decide +kernel
theorem dX10_trail_60 : decode cX10_trail 60 = .ok (.iaload, 1) := by decide +kernel
theorem dX10_trail_61 : decode cX10_trail 61 = .ok (.goto 5, 3) := by decide +kernel
theorem dX10_trail_64 : decode cX10_trail 64 = .ok (.bipush (-6), 2) := by decide +kernel
theorem dX10_trail_66 : decode cX10_trail 66 = .ok (.ireturn, 1) := by decide +kernel
theorem dX10_labels_0 : decode cX10_labels 0 = .ok (.aload_n 0, 1) := by decide +kernel
theorem dX10_labels_1 : decode cX10_labels 1 = .ok (.getfield 7, 3) := by decide +kernel
theorem dX10_labels_4 : decode cX10_labels 4 = .ok (.bipush 29, 2) := by decide +kernel
theorem dX10_labels_6 : decode cX10_labels 6 = .ok (.iaload, 1) := by decide +kernel
theorem dX10_labels_7 : decode cX10_labels 7 = .ok (.ifCond .ne 6, 3) := by decide +kernel
theorem dX10_labels_10 : decode cX10_labels 10 = .ok (.bipush (-6), 2) := by decide +kernel
theorem dX10_labels_12 : decode cX10_labels 12 = .ok (.ireturn, 1) := by decide +kernel
theorem dX10_labels_13 : decode cX10_labels 13 = .ok (.aload_n 0, 1) := by decide +kernel
theorem dX10_labels_14 : decode cX10_labels 14 = .ok (.aload_n 0, 1) := by decide +kernel
theorem dX10_labels_15 : decode cX10_labels 15 = .ok (.getfield 7, 3) := by decide +kernel
theorem dX10_labels_18 : decode cX10_labels 18 = .ok (.bipush 30, 2) := by decide +kernel
theorem dX10_labels_20 : decode cX10_labels 20 = .ok (.iaload, 1) := by decide +kernel
theorem dX10_labels_21 : decode cX10_labels 21 = .ok (.aload_n 0, 1) := by decide +kernel
theorem dX10_labels_22 : decode cX10_labels 22 = .ok (.getfield 7, 3) := by decide +kernel
theorem dX10_labels_25 : decode cX10_labels 25 = .ok (.bipush 31, 2) := by decide +kernel
theorem dX10_labels_27 : decode cX10_labels 27 = .ok (.iaload, 1) := by decide +kernel
theorem dX10_labels_28 : decode cX10_labels 28 = .ok (.invokevirtual 140, 3) := by decide +kernel
theorem dX10_labels_31 : decode cX10_labels 31 = .ok (.istore_n 1, 1) := by decide +kernel
theorem dX10_labels_32 : decode cX10_labels 32 = .ok (.iconst 0, 1) := by decide +kernel
theorem dX10_labels_33 : decode cX10_labels 33 = .ok (.istore_n 2, 1) := by decide +kernel
theorem dX10_labels_34 : decode cX10_labels 34 = .ok (.iconst 0, 1) := by decide +kernel
theorem dX10_labels_35 : decode cX10_labels 35 = .ok (.istore_n 3, 1) := by decide +kernel
theorem dX10_labels_36 : decode cX10_labels 36 = .ok (.iload_n 3, 1) := by decide +kernel
theorem dX10_labels_37 : decode cX10_labels 37 = .ok (.bipush 6, 2) := by decide +kernel
theorem dX10_labels_39 : decode cX10_labels 39 = .ok (.if_icmp .ge 43, 3) := by decide +kernel
theorem dX10_labels_42 : decode cX10_labels 42 = .ok (.iload_n 2, 1) := by decide +kernel
theorem dX10_labels_43 : decode cX10_labels 43 = .ok (.iload_n 1, 1) := by decide +kernel
theorem dX10_labels_44 : decode cX10_labels 44 = .ok (.iload_n 3, 1) := by decide +kernel
theorem dX10_labels_45 : decode cX10_labels 45 = .ok (.ishr, 1) := by decide +kernel
theorem dX10_labels_46 : decode cX10_labels 46 = .ok (.iconst 1, 1) := by decide +kernel
theorem dX10_labels_47 : decode cX10_labels 47 = .ok (.iand, 1) := by decide +kernel
theorem dX10_labels_48 : decode cX10_labels 48 = .ok (.iconst 1, 1) := by decide +kernel
theorem dX10_labels_49 : decode cX10_labels 49 = .ok (.if_icmp .ne 24, 3) := by decide +kernel
theorem dX10_labels_52 : decode cX10_labels 52 = .ok (.aload_n 0, 1) := by decide +kernel
theorem dX10_labels_53 : decode cX10_labels 53 = .ok (.aload_n 0, 1) := by decide +kernel
theorem dX10_labels_54 : decode cX10_labels 54 = .ok (.getfield 7, 3) := by decide +kernel
theorem dX10_labels_57 : decode cX10_labels 57 = .ok (.bipush 30, 2) := by decide +kernel
theorem dX10_labels_59 : decode cX10_labels 59 = .ok (.iaload, 1) := by decide +kernel
theorem dX10_labels_60 : decode cX10_labels 60 = .ok (.iconst 4, 1) := by decide +kernel
theorem dX10_labels_61 : decode cX10_labels 61 = .ok (.iconst 3, 1) := by decide +kernel
theorem dX10_labels_62 : decode cX10_labels 62 = .ok (.iload_n 3, 1) := by decide +kernel
theorem dX10_labels_63 : decode cX10_labels 63 = .ok (.imul, 1) := by decide +kernel
theorem dX10_labels_64 : decode cX10_labels 64 = .ok (.iadd, 1) := by decide +kernel
theorem dX10_labels_65 : decode cX10_labels 65 = .ok (.iconst 2, 1) := by decide +kernel
theorem dX10_labels_66 : decode cX10_labels 66 = .ok (.iadd, 1) := by decide +kernel
theorem dX10_labels_67 : decode cX10_labels 67 = .ok (.invokevirtual 26, 3) := by decide +kernel
theorem dX10_labels_70 : decode cX10_labels 70 = .ok (.goto 4, 3) := by decide +kernel
theorem dX10_labels_73 : decode cX10_labels 73 = .ok (.iconst 0, 1) := by decide +kernel
theorem dX10_labels_74 : decode cX10_labels 74 = .ok (.iadd, 1) := by decide +kernel
theorem dX10_labels_75 : decode cX10_labels 75 = .ok (.istore_n 2, 1) := by decide +kernel
theorem dX10_labels_76 : decode cX10_labels 76 = .ok (.iinc 3 1, 3) := by decide +kernel
theorem dX10_labels_79 : decode cX10_labels 79 = .ok (.goto (-43), 3) := by decide +kernel
theorem dX10_labels_82 : decode cX10_labels 82 = .ok (.iload_n 2, 1) := by decide +kernel
theorem dX10_labels_83 : decode cX10_labels 83 = .ok (.ireturn, 1) := by decide +kernel
theorem dX10_noteNow_0 : decode cX10_noteNow 0 = .ok (.bipush (-6), 2) := by decide +kernel
theorem dX10_noteNow_2 : decode cX10_noteNow 2 = .ok (.istore_n 1, 1) := by decide +kernel
theorem dX10_noteNow_3 : decode cX10_noteNow 3 = .ok (.iconst (-1), 1) := by decide +kernel
theorem dX10_noteNow_4 : decode cX10_noteNow 4 = .ok (.istore_n 2, 1) := by decide +kernel
theorem dX10_noteNow_5 : decode cX10_noteNow 5 = .ok (.iconst 0, 1) := by decide +kernel
theorem dX10_noteNow_6 : decode cX10_noteNow 6 = .ok (.istore_n 3, 1) := by decide +kernel
theorem dX10_noteNow_7 : decode cX10_noteNow 7 = .ok (.iload_n 3, 1) := by decide +kernel
theorem dX10_noteNow_8 : decode cX10_noteNow 8 = .ok (.aload_n 0, 1) := by decide +kernel
theorem dX10_noteNow_9 : decode cX10_noteNow 9 = .ok (.getfield 7, 3) := by decide +kernel
theorem dX10_noteNow_12 : decode cX10_noteNow 12 = .ok (.bipush 11, 2) := by decide +kernel
theorem dX10_noteNow_14 : decode cX10_noteNow 14 = .ok (.iaload, 1) := by decide +kernel
theorem dX10_noteNow_15 : decode cX10_noteNow 15 = .ok (.if_icmp .ge 93, 3) := by decide +kernel
theorem dX10_noteNow_18 : decode cX10_noteNow 18 = .ok (.aload_n 0, 1) := by decide +kernel
theorem dX10_noteNow_19 : decode cX10_noteNow 19 = .ok (.getfield 7, 3) := by decide +kernel
theorem dX10_noteNow_22 : decode cX10_noteNow 22 = .ok (.bipush 29, 2) := by decide +kernel
theorem dX10_noteNow_24 : decode cX10_noteNow 24 = .ok (.iaload, 1) := by decide +kernel
theorem dX10_noteNow_25 : decode cX10_noteNow 25 = .ok (.iconst 1, 1) := by decide +kernel
theorem dX10_noteNow_26 : decode cX10_noteNow 26 = .ok (.if_icmp .ne 82, 3) := by decide +kernel
theorem dX10_noteNow_29 : decode cX10_noteNow 29 = .ok (.aload_n 0, 1) := by decide +kernel
theorem dX10_noteNow_30 : decode cX10_noteNow 30 = .ok (.getfield 7, 3) := by decide +kernel
theorem dX10_noteNow_33 : decode cX10_noteNow 33 = .ok (.bipush 12, 2) := by decide +kernel
theorem dX10_noteNow_35 : decode cX10_noteNow 35 = .ok (.iconst 2, 1) := by decide +kernel
theorem dX10_noteNow_36 : decode cX10_noteNow 36 = .ok (.iload_n 3, 1) := by decide +kernel
theorem dX10_noteNow_37 : decode cX10_noteNow 37 = .ok (.imul, 1) := by decide +kernel
theorem dX10_noteNow_38 : decode cX10_noteNow 38 = .ok (.iadd, 1) := by decide +kernel
theorem dX10_noteNow_39 : decode cX10_noteNow 39 = .ok (.iaload, 1) := by decide +kernel
theorem dX10_noteNow_40 : decode cX10_noteNow 40 = .ok (.istore 4, 2) := by decide +kernel
theorem dX10_noteNow_42 : decode cX10_noteNow 42 = .ok (.iload 4, 2) := by decide +kernel
theorem dX10_noteNow_44 : decode cX10_noteNow 44 = .ok (.aload_n 0, 1) := by decide +kernel
theorem dX10_noteNow_45 : decode cX10_noteNow 45 = .ok (.getfield 7, 3) := by decide +kernel
theorem dX10_noteNow_48 : decode cX10_noteNow 48 = .ok (.bipush 32, 2) := by decide +kernel
theorem dX10_noteNow_50 : decode cX10_noteNow 50 = .ok (.iaload, 1) := by decide +kernel
theorem dX10_noteNow_51 : decode cX10_noteNow 51 = .ok (.if_icmp .gt 13, 3) := by decide +kernel
theorem dX10_noteNow_54 : decode cX10_noteNow 54 = .ok (.iload 4, 2) := by decide +kernel
theorem dX10_noteNow_56 : decode cX10_noteNow 56 = .ok (.iload_n 2, 1) := by decide +kernel
theorem dX10_noteNow_57 : decode cX10_noteNow 57 = .ok (.if_icmp .le 7, 3) := by decide +kernel
theorem dX10_noteNow_60 : decode cX10_noteNow 60 = .ok (.iconst 1, 1) := by decide +kernel
theorem dX10_noteNow_61 : decode cX10_noteNow 61 = .ok (.goto 4, 3) := by decide +kernel
theorem dX10_noteNow_64 : decode cX10_noteNow 64 = .ok (.iconst 0, 1) := by decide +kernel
theorem dX10_noteNow_65 : decode cX10_noteNow 65 = .ok (.istore 5, 2) := by decide +kernel
theorem dX10_noteNow_67 : decode cX10_noteNow 67 = .ok (.iload 5, 2) := by decide +kernel
theorem dX10_noteNow_69 : decode cX10_noteNow 69 = .ok (.ifCond .eq 19, 3) := by decide +kernel
theorem dX10_noteNow_72 : decode cX10_noteNow 72 = .ok (.aload_n 0, 1) := by decide +kernel
theorem dX10_noteNow_73 : decode cX10_noteNow 73 = .ok (.getfield 7, 3) := by decide +kernel
theorem dX10_noteNow_76 : decode cX10_noteNow 76 = .ok (.bipush 12, 2) := by decide +kernel
theorem dX10_noteNow_78 : decode cX10_noteNow 78 = .ok (.iconst 2, 1) := by decide +kernel
theorem dX10_noteNow_79 : decode cX10_noteNow 79 = .ok (.iload_n 3, 1) := by decide +kernel
theorem dX10_noteNow_80 : decode cX10_noteNow 80 = .ok (.imul, 1) := by decide +kernel
theorem dX10_noteNow_81 : decode cX10_noteNow 81 = .ok (.iadd, 1) := by decide +kernel
theorem dX10_noteNow_82 : decode cX10_noteNow 82 = .ok (.iconst 1, 1) := by decide +kernel
theorem dX10_noteNow_83 : decode cX10_noteNow 83 = .ok (.iadd, 1) := by decide +kernel
theorem dX10_noteNow_84 : decode cX10_noteNow 84 = .ok (.iaload, 1) := by decide +kernel
theorem dX10_noteNow_85 : decode cX10_noteNow 85 = .ok (.goto 4, 3) := by decide +kernel
theorem dX10_noteNow_88 : decode cX10_noteNow 88 = .ok (.iload_n 1, 1) := by decide +kernel
theorem dX10_noteNow_89 : decode cX10_noteNow 89 = .ok (.istore_n 1, 1) := by decide +kernel
theorem dX10_noteNow_90 : decode cX10_noteNow 90 = .ok (.iload 5, 2) := by decide +kernel
theorem dX10_noteNow_92 : decode cX10_noteNow 92 = .ok (.ifCond .eq 8, 3) := by decide +kernel
theorem dX10_noteNow_95 : decode cX10_noteNow 95 = .ok (.iload 4, 2) := by decide +kernel
theorem dX10_noteNow_97 : decode cX10_noteNow 97 = .ok (.goto 4, 3) := by decide +kernel
theorem dX10_noteNow_100 : decode cX10_noteNow 100 = .ok (.iload_n 2, 1) := by decide +kernel
theorem dX10_noteNow_101 : decode cX10_noteNow 101 = .ok (.istore_n 2, 1) := by decide +kernel
theorem dX10_noteNow_102 : decode cX10_noteNow 102 = .ok (.iinc 3 1, 3) := by decide +kernel
theorem dX10_noteNow_105 : decode cX10_noteNow 105 = .ok (.goto (-98), 3) := by decide +kernel
theorem dX10_noteNow_108 : decode cX10_noteNow 108 = .ok (.iload_n 1, 1) := by decide +kernel
theorem dX10_noteNow_109 : decode cX10_noteNow 109 = .ok (.ireturn, 1) := by decide +kernel
theorem dX10_end_0 : decode cX10_end 0 = .ok (.aload_n 0, 1) := by decide +kernel
theorem dX10_end_1 : decode cX10_end 1 = .ok (.getfield 7, 3) := by decide +kernel
theorem dX10_end_4 : decode cX10_end 4 = .ok (.bipush 28, 2) := by decide +kernel
theorem dX10_end_6 : decode cX10_end 6 = .ok (.iaload, 1) := by decide +kernel
theorem dX10_end_7 : decode cX10_end 7 = .ok (.ireturn, 1) := by decide +kernel
theorem dX10_meanSteps_0 : decode cX10_meanSteps 0 = .ok (.iconst 0, 1) := by decide +kernel
theorem dX10_meanSteps_1 : decode cX10_meanSteps 1 = .ok (.istore_n 1, 1) := by decide +kernel
theorem dX10_meanSteps_2 : decode cX10_meanSteps 2 = .ok (.iconst 0, 1) := by decide +kernel
theorem dX10_meanSteps_3 : decode cX10_meanSteps 3 = .ok (.istore_n 2, 1) := by decide +kernel
theorem dX10_meanSteps_4 : decode cX10_meanSteps 4 = .ok (.iload_n 2, 1) := by decide +kernel
theorem dX10_meanSteps_5 : decode cX10_meanSteps 5 = .ok (.aload_n 0, 1) := by decide +kernel
theorem dX10_meanSteps_6 : decode cX10_meanSteps 6 = .ok (.getfield 7, 3) := by decide +kernel
theorem dX10_meanSteps_9 : decode cX10_meanSteps 9 = .ok (.iconst 0, 1) := by decide +kernel
theorem dX10_meanSteps_10 : decode cX10_meanSteps 10 = .ok (.iaload, 1) := by decide +kernel
theorem dX10_meanSteps_11 : decode cX10_meanSteps 11 = .ok (.if_icmp .ge 26, 3) := by decide +kernel
theorem dX10_meanSteps_14 : decode cX10_meanSteps 14 = .ok (.iload_n 1, 1) := by decide +kernel
theorem dX10_meanSteps_15 : decode cX10_meanSteps 15 = .ok (.aload_n 0, 1) := by decide +kernel
theorem dX10_meanSteps_16 : decode cX10_meanSteps 16 = .ok (.aload_n 0, 1) := by decide +kernel
theorem dX10_meanSteps_17 : decode cX10_meanSteps 17 = .ok (.getfield 7, 3) := by decide +kernel
theorem dX10_meanSteps_20 : decode cX10_meanSteps 20 = .ok (.iconst 1, 1) := by decide +kernel
theorem dX10_meanSteps_21 : decode cX10_meanSteps 21 = .ok (.iload_n 2, 1) := by decide +kernel
theorem dX10_meanSteps_22 : decode cX10_meanSteps 22 = .ok (.iadd, 1) := by decide +kernel
theorem dX10_meanSteps_23 : decode cX10_meanSteps 23 = .ok (.iaload, 1) := by decide +kernel
theorem dX10_meanSteps_24 : decode cX10_meanSteps 24 = .ok (.invokevirtual 48, 3) := by decide +kernel
theorem dX10_meanSteps_27 : decode cX10_meanSteps 27 = .ok (.iconst 1, 1) := by decide +kernel
theorem dX10_meanSteps_28 : decode cX10_meanSteps 28 = .ok (.iadd, 1) := by decide +kernel
theorem dX10_meanSteps_29 : decode cX10_meanSteps 29 = .ok (.iadd, 1) := by decide +kernel
theorem dX10_meanSteps_30 : decode cX10_meanSteps 30 = .ok (.istore_n 1, 1) := by decide +kernel
theorem dX10_meanSteps_31 : decode cX10_meanSteps 31 = .ok (.iinc 2 1, 3) := by decide +kernel
theorem dX10_meanSteps_34 : decode cX10_meanSteps 34 = .ok (.goto (-30), 3) := by decide +kernel
theorem dX10_meanSteps_37 : decode cX10_meanSteps 37 = .ok (.aload_n 0, 1) := by decide +kernel
theorem dX10_meanSteps_38 : decode cX10_meanSteps 38 = .ok (.getfield 7, 3) := by decide +kernel
theorem dX10_meanSteps_41 : decode cX10_meanSteps 41 = .ok (.iconst 0, 1) := by decide +kernel
theorem dX10_meanSteps_42 : decode cX10_meanSteps 42 = .ok (.iaload, 1) := by decide +kernel
theorem dX10_meanSteps_43 : decode cX10_meanSteps 43 = .ok (.ifCond .ne 7, 3) := by decide +kernel
theorem dX10_meanSteps_46 : decode cX10_meanSteps 46 = .ok (.fconst 0, 1) := by decide +kernel
theorem dX10_meanSteps_47 : decode cX10_meanSteps 47 = .ok (.goto 13, 3) := by decide +kernel
theorem dX10_meanSteps_50 : decode cX10_meanSteps 50 = .ok (.iload_n 1, 1) := by decide +kernel
theorem dX10_meanSteps_51 : decode cX10_meanSteps 51 = .ok (.i2f, 1) := by decide +kernel
theorem dX10_meanSteps_52 : decode cX10_meanSteps 52 = .ok (.aload_n 0, 1) := by decide +kernel
theorem dX10_meanSteps_53 : decode cX10_meanSteps 53 = .ok (.getfield 7, 3) := by decide +kernel
theorem dX10_meanSteps_56 : decode cX10_meanSteps 56 = .ok (.iconst 0, 1) := by decide +kernel
theorem dX10_meanSteps_57 : decode cX10_meanSteps 57 = .ok (.iaload, 1) := by decide +kernel
theorem dX10_meanSteps_58 : decode cX10_meanSteps 58 = .ok (.i2f, 1) := by decide +kernel
theorem dX10_meanSteps_59 : decode cX10_meanSteps 59 = .ok (.fdiv, 1) := by decide +kernel
theorem dX10_meanSteps_60 : decode cX10_meanSteps 60 = .ok (.freturn, 1) := by decide +kernel
theorem dX10_movesLeft_0 : decode cX10_movesLeft 0 = .ok (.aload_n 0, 1) := by decide +kernel
theorem dX10_movesLeft_1 : decode cX10_movesLeft 1 = .ok (.getfield 7, 3) := by decide +kernel
theorem dX10_movesLeft_4 : decode cX10_movesLeft 4 = .ok (.bipush 29, 2) := by decide +kernel
theorem dX10_movesLeft_6 : decode cX10_movesLeft 6 = .ok (.iaload, 1) := by decide +kernel
theorem dX10_movesLeft_7 : decode cX10_movesLeft 7 = .ok (.ifCond .ne 6, 3) := by decide +kernel
theorem dX10_movesLeft_10 : decode cX10_movesLeft 10 = .ok (.bipush (-6), 2) := by decide +kernel
theorem dX10_movesLeft_12 : decode cX10_movesLeft 12 = .ok (.ireturn, 1) := by decide +kernel
theorem dX10_movesLeft_13 : decode cX10_movesLeft 13 = .ok (.aload_n 0, 1) := by decide +kernel
theorem dX10_movesLeft_14 : decode cX10_movesLeft 14 = .ok (.aload_n 0, 1) := by decide +kernel
theorem dX10_movesLeft_15 : decode cX10_movesLeft 15 = .ok (.getfield 7, 3) := by decide +kernel
theorem dX10_movesLeft_18 : decode cX10_movesLeft 18 = .ok (.bipush 30, 2) := by decide +kernel
theorem dX10_movesLeft_20 : decode cX10_movesLeft 20 = .ok (.iaload, 1) := by decide +kernel
theorem dX10_movesLeft_21 : decode cX10_movesLeft 21 = .ok (.invokevirtual 48, 3) := by decide +kernel
theorem dX10_movesLeft_24 : decode cX10_movesLeft 24 = .ok (.aload_n 0, 1) := by decide +kernel
theorem dX10_movesLeft_25 : decode cX10_movesLeft 25 = .ok (.getfield 7, 3) := by decide +kernel
theorem dX10_movesLeft_28 : decode cX10_movesLeft 28 = .ok (.bipush 31, 2) := by decide +kernel
theorem dX10_movesLeft_30 : decode cX10_movesLeft 30 = .ok (.iaload, 1) := by decide +kernel
theorem dX10_movesLeft_31 : decode cX10_movesLeft 31 = .ok (.isub, 1) := by decide +kernel
theorem dX10_movesLeft_32 : decode cX10_movesLeft 32 = .ok (.istore_n 1, 1) := by decide +kernel
theorem dX10_movesLeft_33 : decode cX10_movesLeft 33 = .ok (.aload_n 0, 1) := by decide +kernel
theorem dX10_movesLeft_34 : decode cX10_movesLeft 34 = .ok (.aload_n 0, 1) := by decide +kernel
theorem dX10_movesLeft_35 : decode cX10_movesLeft 35 = .ok (.getfield 7, 3) := by decide +kernel
theorem dX10_movesLeft_38 : decode cX10_movesLeft 38 = .ok (.bipush 30, 2) := by decide +kernel
theorem dX10_movesLeft_40 : decode cX10_movesLeft 40 = .ok (.iaload, 1) := by decide +kernel
theorem dX10_movesLeft_41 : decode cX10_movesLeft 41 = .ok (.invokevirtual 37, 3) := by decide +kernel
theorem dX10_movesLeft_44 : decode cX10_movesLeft 44 = .ok (.iconst 1, 1) := by decide +kernel
theorem dX10_movesLeft_45 : decode cX10_movesLeft 45 = .ok (.iadd, 1) := by decide +kernel
theorem dX10_movesLeft_46 : decode cX10_movesLeft 46 = .ok (.istore_n 2, 1) := by decide +kernel
theorem dX10_movesLeft_47 : decode cX10_movesLeft 47 = .ok (.iload_n 2, 1) := by decide +kernel
theorem dX10_movesLeft_48 : decode cX10_movesLeft 48 = .ok (.aload_n 0, 1) := by decide +kernel
theorem dX10_movesLeft_49 : decode cX10_movesLeft 49 = .ok (.getfield 7, 3) := by decide +kernel
theorem dX10_movesLeft_52 : decode cX10_movesLeft 52 = .ok (.iconst 0, 1) := by decide +kernel
theorem dX10_movesLeft_53 : decode cX10_movesLeft 53 = .ok (.iaload, 1) := by decide +kernel
theorem dX10_movesLeft_54 : decode cX10_movesLeft 54 = .ok (.if_icmp .ge 45, 3) := by decide +kernel
theorem dX10_movesLeft_57 : decode cX10_movesLeft 57 = .ok (.iload_n 1, 1) := by decide +kernel
theorem dX10_movesLeft_58 : decode cX10_movesLeft 58 = .ok (.aload_n 0, 1) := by decide +kernel
theorem dX10_movesLeft_59 : decode cX10_movesLeft 59 = .ok (.aload_n 0, 1) := by decide +kernel
theorem dX10_movesLeft_60 : decode cX10_movesLeft 60 = .ok (.getfield 7, 3) := by decide +kernel
theorem dX10_movesLeft_63 : decode cX10_movesLeft 63 = .ok (.iconst 1, 1) := by decide +kernel
theorem dX10_movesLeft_64 : decode cX10_movesLeft 64 = .ok (.iload_n 2, 1) := by decide +kernel
theorem dX10_movesLeft_65 : decode cX10_movesLeft 65 = .ok (.iadd, 1) := by decide +kernel
theorem dX10_movesLeft_66 : decode cX10_movesLeft 66 = .ok (.iaload, 1) := by decide +kernel
theorem dX10_movesLeft_67 : decode cX10_movesLeft 67 = .ok (.invokevirtual 34, 3) := by decide +kernel
theorem dX10_movesLeft_70 : decode cX10_movesLeft 70 = .ok (.ifCond .eq 20, 3) := by decide +kernel
theorem dX10_movesLeft_73 : decode cX10_movesLeft 73 = .ok (.aload_n 0, 1) := by decide +kernel
theorem dX10_movesLeft_74 : decode cX10_movesLeft 74 = .ok (.aload_n 0, 1) := by decide +kernel
theorem dX10_movesLeft_75 : decode cX10_movesLeft 75 = .ok (.getfield 7, 3) := by decide +kernel
theorem dX10_movesLeft_78 : decode cX10_movesLeft 78 = .ok (.iconst 1, 1) := by decide +kernel
theorem dX10_movesLeft_79 : decode cX10_movesLeft 79 = .ok (.iload_n 2, 1) := by decide +kernel
theorem dX10_movesLeft_80 : decode cX10_movesLeft 80 = .ok (.iadd, 1) := by decide +kernel
theorem dX10_movesLeft_81 : decode cX10_movesLeft 81 = .ok (.iaload, 1) := by decide +kernel
theorem dX10_movesLeft_82 : decode cX10_movesLeft 82 = .ok (.invokevirtual 48, 3) := by decide +kernel
theorem dX10_movesLeft_85 : decode cX10_movesLeft 85 = .ok (.iconst 1, 1) := by decide +kernel
theorem dX10_movesLeft_86 : decode cX10_movesLeft 86 = .ok (.iadd, 1) := by decide +kernel
theorem dX10_movesLeft_87 : decode cX10_movesLeft 87 = .ok (.goto 4, 3) := by decide +kernel
theorem dX10_movesLeft_90 : decode cX10_movesLeft 90 = .ok (.iconst 0, 1) := by decide +kernel
theorem dX10_movesLeft_91 : decode cX10_movesLeft 91 = .ok (.iadd, 1) := by decide +kernel
theorem dX10_movesLeft_92 : decode cX10_movesLeft 92 = .ok (.istore_n 1, 1) := by decide +kernel
theorem dX10_movesLeft_93 : decode cX10_movesLeft 93 = .ok (.iinc 2 1, 3) := by decide +kernel
theorem dX10_movesLeft_96 : decode cX10_movesLeft 96 = .ok (.goto (-49), 3) := by decide +kernel
theorem dX10_movesLeft_99 : decode cX10_movesLeft 99 = .ok (.iload_n 1, 1) := by decide +kernel
theorem dX10_movesLeft_100 : decode cX10_movesLeft 100 = .ok (.ireturn, 1) := by decide +kernel
theorem dX10_reaches_0 : decode cX10_reaches 0 = .ok (.iload_n 1, 1) := by decide +kernel
theorem dX10_reaches_1 : decode cX10_reaches 1 = .ok (.bipush (-6), 2) := by decide +kernel
theorem dX10_reaches_3 : decode cX10_reaches 3 = .ok (.if_icmp .eq 23, 3) := by decide +kernel
theorem dX10_reaches_6 : decode cX10_reaches 6 = .ok (.aload_n 0, 1) := by decide +kernel
theorem dX10_reaches_7 : decode cX10_reaches 7 = .ok (.getfield 19, 3) := by decide +kernel
theorem dX10_reaches_10 : decode cX10_reaches 10 = .ok (.bipush 10, 2) := by decide +kernel
theorem dX10_reaches_12 : decode cX10_reaches 12 = .ok (.iload_n 1, 1) := by decide +kernel
theorem dX10_reaches_13 : decode cX10_reaches 13 = .ok (.imul, 1) := by decide +kernel
theorem dX10_reaches_14 : decode cX10_reaches 14 = .ok (.iload_n 2, 1) := by decide +kernel
theorem dX10_reaches_15 : decode cX10_reaches 15 = .ok (.iadd, 1) := by decide +kernel
theorem dX10_reaches_16 : decode cX10_reaches 16 = .ok (.iaload, 1) := by decide +kernel
theorem dX10_reaches_17 : decode cX10_reaches 17 = .ok (.bipush (-6), 2) := by decide +kernel
theorem dX10_reaches_19 : decode cX10_reaches 19 = .ok (.if_icmp .ne 7, 3) := by decide +kernel
theorem dX10_reaches_22 : decode cX10_reaches 22 = .ok (.iconst 1, 1) := by decide +kernel
theorem dX10_reaches_23 : decode cX10_reaches 23 = .ok (.goto 4, 3) := by decide +kernel
theorem dX10_reaches_26 : decode cX10_reaches 26 = .ok (.iconst 0, 1) := by decide +kernel
theorem dX10_reaches_27 : decode cX10_reaches 27 = .ok (.istore 4, 2) := by decide +kernel
theorem dX10_reaches_29 : decode cX10_reaches 29 = .ok (.iload 4, 2) := by decide +kernel
theorem dX10_reaches_31 : decode cX10_reaches 31 = .ok (.ifCond .eq 15, 3) := by decide +kernel
theorem dX10_reaches_34 : decode cX10_reaches 34 = .ok (.aload_n 0, 1) := by decide +kernel
theorem dX10_reaches_35 : decode cX10_reaches 35 = .ok (.getfield 19, 3) := by decide +kernel
theorem dX10_reaches_38 : decode cX10_reaches 38 = .ok (.bipush 10, 2) := by decide +kernel
theorem dX10_reaches_40 : decode cX10_reaches 40 = .ok (.iload_n 1, 1) := by decide +kernel
theorem dX10_reaches_41 : decode cX10_reaches 41 = .ok (.imul, 1) := by decide +kernel
theorem dX10_reaches_42 : decode cX10_reaches 42 = .ok (.iload_n 2, 1) := by decide +kernel
theorem dX10_reaches_43 : decode cX10_reaches 43 = .ok (.iadd, 1) := by decide +kernel
theorem dX10_reaches_44 : decode cX10_reaches 44 = .ok (.iload_n 3, 1) := by decide +kernel
theorem dX10_reaches_45 : decode cX10_reaches 45 = .ok (.iastore, 1) := by decide +kernel
theorem dX10_reaches_46 : decode cX10_reaches 46 = .ok (.iload 4, 2) := by decide +kernel
theorem dX10_reaches_48 : decode cX10_reaches 48 = .ok (.ireturn, 1) := by decide +kernel
theorem dX10_leads_0 : decode cX10_leads 0 = .ok (.iconst 0, 1) := by decide +kernel
theorem dX10_leads_1 : decode cX10_leads 1 = .ok (.istore_n 2, 1) := by decide +kernel
theorem dX10_leads_2 : decode cX10_leads 2 = .ok (.iload_n 2, 1) := by decide +kernel
theorem dX10_leads_3 : decode cX10_leads 3 = .ok (.bipush 100, 2) := by decide +kernel
theorem dX10_leads_5 : decode cX10_leads 5 = .ok (.if_icmp .ge 17, 3) := by decide +kernel
theorem dX10_leads_8 : decode cX10_leads 8 = .ok (.aload_n 0, 1) := by decide +kernel
theorem dX10_leads_9 : decode cX10_leads 9 = .ok (.getfield 19, 3) := by decide +kernel
theorem dX10_leads_12 : decode cX10_leads 12 = .ok (.iload_n 2, 1) := by decide +kernel
theorem dX10_leads_13 : decode cX10_leads 13 = .ok (.bipush (-6), 2) := by decide +kernel
theorem dX10_leads_15 : decode cX10_leads 15 = .ok (.iastore, 1) := by decide +kernel
theorem dX10_leads_16 : decode cX10_leads 16 = .ok (.iinc 2 1, 3) := by decide +kernel
theorem dX10_leads_19 : decode cX10_leads 19 = .ok (.goto (-17), 3) := by decide +kernel
theorem dX10_leads_22 : decode cX10_leads 22 = .ok (.aload_n 0, 1) := by decide +kernel
theorem dX10_leads_23 : decode cX10_leads 23 = .ok (.getfield 19, 3) := by decide +kernel
theorem dX10_leads_26 : decode cX10_leads 26 = .ok (.bipush 10, 2) := by decide +kernel
theorem dX10_leads_28 : decode cX10_leads 28 = .ok (.aload_n 0, 1) := by decide +kernel
theorem dX10_leads_29 : decode cX10_leads 29 = .ok (.getfield 7, 3) := by decide +kernel
theorem dX10_leads_32 : decode cX10_leads 32 = .ok (.bipush 30, 2) := by decide +kernel
theorem dX10_leads_34 : decode cX10_leads 34 = .ok (.iaload, 1) := by decide +kernel
theorem dX10_leads_35 : decode cX10_leads 35 = .ok (.imul, 1) := by decide +kernel
theorem dX10_leads_36 : decode cX10_leads 36 = .ok (.aload_n 0, 1) := by decide +kernel
theorem dX10_leads_37 : decode cX10_leads 37 = .ok (.getfield 7, 3) := by decide +kernel
theorem dX10_leads_40 : decode cX10_leads 40 = .ok (.bipush 31, 2) := by decide +kernel
theorem dX10_leads_42 : decode cX10_leads 42 = .ok (.iaload, 1) := by decide +kernel
theorem dX10_leads_43 : decode cX10_leads 43 = .ok (.iadd, 1) := by decide +kernel
theorem dX10_leads_44 : decode cX10_leads 44 = .ok (.iconst 0, 1) := by decide +kernel
theorem dX10_leads_45 : decode cX10_leads 45 = .ok (.iastore, 1) := by decide +kernel
theorem dX10_leads_46 : decode cX10_leads 46 = .ok (.iconst 1, 1) := by decide +kernel
theorem dX10_leads_47 : decode cX10_leads 47 = .ok (.istore_n 2, 1) := by decide +kernel
theorem dX10_leads_48 : decode cX10_leads 48 = .ok (.iconst 0, 1) := by decide +kernel
theorem dX10_leads_49 : decode cX10_leads 49 = .ok (.istore_n 3, 1) := by decide +kernel
theorem dX10_leads_50 : decode cX10_leads 50 = .ok (.iload_n 2, 1) := by decide +kernel
theorem dX10_leads_51 : decode cX10_leads 51 = .ok (.ifCond .eq 166, 3) := by decide +kernel
theorem dX10_leads_54 : decode cX10_leads 54 = .ok (.iconst 0, 1) := by decide +kernel
theorem dX10_leads_55 : decode cX10_leads 55 = .ok (.istore_n 2, 1) := by decide +kernel
theorem dX10_leads_56 : decode cX10_leads 56 = .ok (.iconst 0, 1) := by decide +kernel
theorem dX10_leads_57 : decode cX10_leads 57 = .ok (.istore 4, 2) := by decide +kernel
theorem dX10_leads_59 : decode cX10_leads 59 = .ok (.iload 4, 2) := by decide +kernel
theorem dX10_leads_61 : decode cX10_leads 61 = .ok (.bipush 100, 2) := by decide +kernel
theorem dX10_leads_63 : decode cX10_leads 63 = .ok (.if_icmp .ge 148, 3) := by decide +kernel
theorem dX10_leads_66 : decode cX10_leads 66 = .ok (.aload_n 0, 1) := by decide +kernel
theorem dX10_leads_67 : decode cX10_leads 67 = .ok (.getfield 19, 3) := by decide +kernel
theorem dX10_leads_70 : decode cX10_leads 70 = .ok (.iload 4, 2) := by decide +kernel
theorem dX10_leads_72 : decode cX10_leads 72 = .ok (.iaload, 1) := by decide +kernel
theorem dX10_leads_73 : decode cX10_leads 73 = .ok (.iload_n 3, 1) := by decide +kernel
theorem dX10_leads_74 : decode cX10_leads 74 = .ok (.if_icmp .ne 131, 3) := by decide +kernel
theorem dX10_leads_77 : decode cX10_leads 77 = .ok (.iload 4, 2) := by decide +kernel
theorem dX10_leads_79 : decode cX10_leads 79 = .ok (.bipush 10, 2) := by decide +kernel
theorem dX10_leads_81 : decode cX10_leads 81 = .ok (.idiv, 1) := by decide +kernel
theorem dX10_leads_82 : decode cX10_leads 82 = .ok (.istore 5, 2) := by decide +kernel
theorem dX10_leads_84 : decode cX10_leads 84 = .ok (.iload 4, 2) := by decide +kernel
theorem dX10_leads_86 : decode cX10_leads 86 = .ok (.bipush 10, 2) := by decide +kernel
theorem dX10_leads_88 : decode cX10_leads 88 = .ok (.irem, 1) := by decide +kernel
theorem dX10_leads_89 : decode cX10_leads 89 = .ok (.aload_n 0, 1) := by decide +kernel
theorem dX10_leads_90 : decode cX10_leads 90 = .ok (.iload 5, 2) := by decide +kernel
theorem dX10_leads_92 : decode cX10_leads 92 = .ok (.invokevirtual 48, 3) := by decide +kernel
theorem dX10_leads_95 : decode cX10_leads 95 = .ok (.if_icmp .lt 7, 3) := by decide +kernel
theorem dX10_leads_98 : decode cX10_leads 98 = .ok (.iconst 1, 1) := by decide +kernel
theorem dX10_leads_99 : decode cX10_leads 99 = .ok (.goto 4, 3) := by decide +kernel
theorem dX10_leads_102 : decode cX10_leads 102 = .ok (.iconst 0, 1) := by decide +kernel
theorem dX10_leads_103 : decode cX10_leads 103 = .ok (.istore 6, 2) := by decide +kernel
theorem dX10_leads_105 : decode cX10_leads 105 = .ok (.aload_n 0, 1) := by decide +kernel
theorem dX10_leads_106 : decode cX10_leads 106 = .ok (.iload 6, 2) := by decide +kernel
theorem dX10_leads_108 : decode cX10_leads 108 = .ok (.ifCond .eq 12, 3) := by decide +kernel
theorem dX10_leads_111 : decode cX10_leads 111 = .ok (.aload_n 0, 1) := by decide +kernel
theorem dX10_leads_112 : decode cX10_leads 112 = .ok (.iload 5, 2) := by decide +kernel
theorem dX10_leads_114 : decode cX10_leads 114 = .ok (.invokevirtual 51, 3) := by decide +kernel
theorem dX10_leads_117 : decode cX10_leads 117 = .ok (.goto 5, 3) := by decide +kernel
theorem dX10_leads_120 : decode cX10_leads 120 = .ok (.iload 5, 2) := by decide +kernel
theorem dX10_leads_122 : decode cX10_leads 122 = .ok (.iload 6, 2) := by decide +kernel
theorem dX10_leads_124 : decode cX10_leads 124 = .ok (.ifCond .eq 7, 3) := by decide +kernel
theorem dX10_leads_127 : decode cX10_leads 127 = .ok (.iconst 0, 1) := by decide +kernel
theorem dX10_leads_128 : decode cX10_leads 128 = .ok (.goto 10, 3) := by decide +kernel
theorem dX10_leads_131 : decode cX10_leads 131 = .ok (.iload 4, 2) := by decide +kernel
theorem dX10_leads_133 : decode cX10_leads 133 = .ok (.bipush 10, 2) := by decide +kernel
theorem dX10_leads_135 : decode cX10_leads 135 = .ok (.irem, 1) := by decide +kernel
theorem dX10_leads_136 : decode cX10_leads 136 = .ok (.iconst 1, 1) := by decide +kernel
theorem dX10_leads_137 : decode cX10_leads 137 = .ok (.iadd, 1) := by decide +kernel
theorem dX10_leads_138 : decode cX10_leads 138 = .ok (.iload_n 3, 1) := by decide +kernel
theorem dX10_leads_139 : decode cX10_leads 139 = .ok (.iconst 1, 1) := by decide +kernel
theorem dX10_leads_140 : decode cX10_leads 140 = .ok (.iadd, 1) := by decide +kernel
theorem dX10_leads_141 : decode cX10_leads 141 = .ok (.invokevirtual 143, 3) := by decide +kernel
theorem dX10_leads_144 : decode cX10_leads 144 = .ok (.ifCond .ne 7, 3) := by decide +kernel
theorem dX10_leads_147 : decode cX10_leads 147 = .ok (.iload_n 2, 1) := by decide +kernel
theorem dX10_leads_148 : decode cX10_leads 148 = .ok (.ifCond .eq 7, 3) := by decide +kernel
theorem dX10_leads_151 : decode cX10_leads 151 = .ok (.iconst 1, 1) := by decide +kernel
theorem dX10_leads_152 : decode cX10_leads 152 = .ok (.goto 4, 3) := by decide +kernel
theorem dX10_leads_155 : decode cX10_leads 155 = .ok (.iconst 0, 1) := by decide +kernel
theorem dX10_leads_156 : decode cX10_leads 156 = .ok (.istore_n 2, 1) := by decide +kernel
theorem dX10_leads_157 : decode cX10_leads 157 = .ok (.iconst 0, 1) := by decide +kernel
theorem dX10_leads_158 : decode cX10_leads 158 = .ok (.istore 7, 2) := by decide +kernel
theorem dX10_leads_160 : decode cX10_leads 160 = .ok (.iload 7, 2) := by decide +kernel
theorem dX10_leads_162 : decode cX10_leads 162 = .ok (.bipush 10, 2) := by decide +kernel
theorem dX10_leads_164 : decode cX10_leads 164 = .ok (.if_icmp .ge 41, 3) := by decide +kernel
theorem dX10_leads_167 : decode cX10_leads 167 = .ok (.aload_n 0, 1) := by decide +kernel
theorem dX10_leads_168 : decode cX10_leads 168 = .ok (.aload_n 0, 1) := by decide +kernel
theorem dX10_leads_169 : decode cX10_leads 169 = .ok (.iload 5, 2) := by decide +kernel
theorem dX10_leads_171 : decode cX10_leads 171 = .ok (.bipush 22, 2) := by decide +kernel
theorem dX10_leads_173 : decode cX10_leads 173 = .ok (.iload 7, 2) := by decide +kernel
theorem dX10_leads_175 : decode cX10_leads 175 = .ok (.iadd, 1) := by decide +kernel
theorem dX10_leads_176 : decode cX10_leads 176 = .ok (.invokevirtual 26, 3) := by decide +kernel
theorem dX10_leads_179 : decode cX10_leads 179 = .ok (.iconst 0, 1) := by decide +kernel
theorem dX10_leads_180 : decode cX10_leads 180 = .ok (.iload_n 3, 1) := by decide +kernel
theorem dX10_leads_181 : decode cX10_leads 181 = .ok (.iconst 1, 1) := by decide +kernel
theorem dX10_leads_182 : decode cX10_leads 182 = .ok (.iadd, 1) := by decide +kernel
theorem dX10_leads_183 : decode cX10_leads 183 = .ok (.invokevirtual 143, 3) := by decide +kernel
theorem dX10_leads_186 : decode cX10_leads 186 = .ok (.ifCond .ne 7, 3) := by decide +kernel
theorem dX10_leads_189 : decode cX10_leads 189 = .ok (.iload_n 2, 1) := by decide +kernel
theorem dX10_leads_190 : decode cX10_leads 190 = .ok (.ifCond .eq 7, 3) := by decide +kernel
theorem dX10_leads_193 : decode cX10_leads 193 = .ok (.iconst 1, 1) := by decide +kernel
theorem dX10_leads_194 : decode cX10_leads 194 = .ok (.goto 4, 3) := by decide +kernel
theorem dX10_leads_197 : decode cX10_leads 197 = .ok (.iconst 0, 1) := by decide +kernel
theorem dX10_leads_198 : decode cX10_leads 198 = .ok (.istore_n 2, 1) := by decide +kernel
theorem dX10_leads_199 : decode cX10_leads 199 = .ok (.iinc 7 1, 3) := by decide +kernel
theorem dX10_leads_202 : decode cX10_leads 202 = .ok (.goto (-42), 3) := by decide +kernel
theorem dX10_leads_205 : decode cX10_leads 205 = .ok (.iinc 4 1, 3) := by decide +kernel
theorem dX10_leads_208 : decode cX10_leads 208 = .ok (.goto (-149), 3) := by decide +kernel
theorem dX10_leads_211 : decode cX10_leads 211 = .ok (.iinc 3 1, 3) := by decide +kernel
theorem dX10_leads_214 : decode cX10_leads 214 = .ok (.goto (-164), 3) := by decide +kernel
theorem dX10_leads_217 : decode cX10_leads 217 = .ok (.bipush (-6), 2) := by decide +kernel
theorem dX10_leads_219 : decode cX10_leads 219 = .ok (.istore_n 3, 1) := by decide +kernel
theorem dX10_leads_220 : decode cX10_leads 220 = .ok (.bipush 10, 2) := by decide +kernel
theorem dX10_leads_222 : decode cX10_leads 222 = .ok (.iload_n 1, 1) := by decide +kernel
theorem dX10_leads_223 : decode cX10_leads 223 = .ok (.imul, 1) := by decide +kernel
theorem dX10_leads_224 : decode cX10_leads 224 = .ok (.istore 4, 2) := by decide +kernel
theorem dX10_leads_226 : decode cX10_leads 226 = .ok (.iload 4, 2) := by decide +kernel
theorem dX10_leads_228 : decode cX10_leads 228 = .ok (.bipush 10, 2) := by decide +kernel
theorem dX10_leads_230 : decode cX10_leads 230 = .ok (.iload_n 1, 1) := by decide +kernel
theorem dX10_leads_231 : decode cX10_leads 231 = .ok (.imul, 1) := by decide +kernel
theorem dX10_leads_232 : decode cX10_leads 232 = .ok (.bipush 10, 2) := by decide +kernel
theorem dX10_leads_234 : decode cX10_leads 234 = .ok (.iadd, 1) := by decide +kernel
theorem dX10_leads_235 : decode cX10_leads 235 = .ok (.if_icmp .ge 50, 3) := by decide +kernel
theorem dX10_leads_238 : decode cX10_leads 238 = .ok (.aload_n 0, 1) := by decide +kernel
theorem dX10_leads_239 : decode cX10_leads 239 = .ok (.getfield 19, 3) := by decide +kernel
theorem dX10_leads_242 : decode cX10_leads 242 = .ok (.iload 4, 2) := by decide +kernel
theorem dX10_leads_244 : decode cX10_leads 244 = .ok (.iaload, 1) := by decide +kernel
theorem dX10_leads_245 : decode cX10_leads 245 = .ok (.bipush (-6), 2) := by decide +kernel
theorem dX10_leads_247 : decode cX10_leads 247 = .ok (.if_icmp .eq 30, 3) := by decide +kernel
theorem dX10_leads_250 : decode cX10_leads 250 = .ok (.iload_n 3, 1) := by decide +kernel
theorem dX10_leads_251 : decode cX10_leads 251 = .ok (.bipush (-6), 2) := by decide +kernel
theorem dX10_leads_253 : decode cX10_leads 253 = .ok (.if_icmp .eq 14, 3) := by decide +kernel
theorem dX10_leads_256 : decode cX10_leads 256 = .ok (.aload_n 0, 1) := by decide +kernel
theorem dX10_leads_257 : decode cX10_leads 257 = .ok (.getfield 19, 3) := by decide +kernel
theorem dX10_leads_260 : decode cX10_leads 260 = .ok (.iload 4, 2) := by decide +kernel
theorem dX10_leads_262 : decode cX10_leads 262 = .ok (.iaload, 1) := by decide +kernel
theorem dX10_leads_263 : decode cX10_leads 263 = .ok (.iload_n 3, 1) := by decide +kernel
theorem dX10_leads_264 : decode cX10_leads 264 = .ok (.if_icmp .ge 13, 3) := by decide +kernel
theorem dX10_leads_267 : decode cX10_leads 267 = .ok (.aload_n 0, 1) := by decide +kernel
theorem dX10_leads_268 : decode cX10_leads 268 = .ok (.getfield 19, 3) := by decide +kernel
theorem dX10_leads_271 : decode cX10_leads 271 = .ok (.iload 4, 2) := by decide +kernel
theorem dX10_leads_273 : decode cX10_leads 273 = .ok (.iaload, 1) := by decide +kernel
theorem dX10_leads_274 : decode cX10_leads 274 = .ok (.goto 4, 3) := by decide +kernel
theorem dX10_leads_277 : decode cX10_leads 277 = .ok (.iload_n 3, 1) := by decide +kernel
theorem dX10_leads_278 : decode cX10_leads 278 = .ok (.istore_n 3, 1) := by decide +kernel
theorem dX10_leads_279 : decode cX10_leads 279 = .ok (.iinc 4 1, 3) := by decide +kernel
theorem dX10_leads_282 : decode cX10_leads 282 = .ok (.goto (-56), 3) := by decide +kernel
theorem dX10_leads_285 : decode cX10_leads 285 = .ok (.iload_n 3, 1) := by decide +kernel
theorem dX10_leads_286 : decode cX10_leads 286 = .ok (.ireturn, 1) := by decide +kernel
theorem dX10_fewest_0 : decode cX10_fewest 0 = .ok (.aload_n 0, 1) := by decide +kernel
theorem dX10_fewest_1 : decode cX10_fewest 1 = .ok (.iload_n 1, 1) := by decide +kernel
theorem dX10_fewest_2 : decode cX10_fewest 2 = .ok (.invokevirtual 30, 3) := by decide +kernel
theorem dX10_fewest_5 : decode cX10_fewest 5 = .ok (.ifCond .ne 5, 3) := by decide +kernel
theorem dX10_fewest_8 : decode cX10_fewest 8 = .ok (.iconst (-1), 1) := by decide +kernel
theorem dX10_fewest_9 : decode cX10_fewest 9 = .ok (.ireturn, 1) := by decide +kernel
theorem dX10_fewest_10 : decode cX10_fewest 10 = .ok (.aload_n 0, 1) := by decide +kernel
theorem dX10_fewest_11 : decode cX10_fewest 11 = .ok (.getfield 7, 3) := by decide +kernel
theorem dX10_fewest_14 : decode cX10_fewest 14 = .ok (.bipush 29, 2) := by decide +kernel
theorem dX10_fewest_16 : decode cX10_fewest 16 = .ok (.iaload, 1) := by decide +kernel
theorem dX10_fewest_17 : decode cX10_fewest 17 = .ok (.ifCond .ne 8, 3) := by decide +kernel
theorem dX10_fewest_20 : decode cX10_fewest 20 = .ok (.bipush (-6), 2) := by decide +kernel
theorem dX10_fewest_22 : decode cX10_fewest 22 = .ok (.goto 8, 3) := by decide +kernel
theorem dX10_fewest_25 : decode cX10_fewest 25 = .ok (.aload_n 0, 1) := by decide +kernel
theorem dX10_fewest_26 : decode cX10_fewest 26 = .ok (.iload_n 1, 1) := by decide +kernel
theorem dX10_fewest_27 : decode cX10_fewest 27 = .ok (.invokevirtual 146, 3) := by decide +kernel
theorem dX10_fewest_30 : decode cX10_fewest 30 = .ok (.ireturn, 1) := by decide +kernel
theorem dX10_secondsLeft_0 : decode cX10_secondsLeft 0 = .ok (.aload_n 0, 1) := by decide +kernel
theorem dX10_secondsLeft_1 : decode cX10_secondsLeft 1 = .ok (.getfield 7, 3) := by decide +kernel
theorem dX10_secondsLeft_4 : decode cX10_secondsLeft 4 = .ok (.bipush 29, 2) := by decide +kernel
theorem dX10_secondsLeft_6 : decode cX10_secondsLeft 6 = .ok (.iaload, 1) := by decide +kernel
theorem dX10_secondsLeft_7 : decode cX10_secondsLeft 7 = .ok (.ifCond .ne 6, 3) := by decide +kernel
theorem dX10_secondsLeft_10 : decode cX10_secondsLeft 10 = .ok (.bipush (-6), 2) := by decide +kernel
theorem dX10_secondsLeft_12 : decode cX10_secondsLeft 12 = .ok (.ireturn, 1) := by decide +kernel
theorem dX10_secondsLeft_13 : decode cX10_secondsLeft 13 = .ok (.iconst 0, 1) := by decide +kernel
theorem dX10_secondsLeft_14 : decode cX10_secondsLeft 14 = .ok (.istore_n 1, 1) := by decide +kernel
theorem dX10_secondsLeft_15 : decode cX10_secondsLeft 15 = .ok (.aload_n 0, 1) := by decide +kernel
theorem dX10_secondsLeft_16 : decode cX10_secondsLeft 16 = .ok (.getfield 7, 3) := by decide +kernel
theorem dX10_secondsLeft_19 : decode cX10_secondsLeft 19 = .ok (.bipush 33, 2) := by decide +kernel
theorem dX10_secondsLeft_21 : decode cX10_secondsLeft 21 = .ok (.iaload, 1) := by decide +kernel
theorem dX10_secondsLeft_22 : decode cX10_secondsLeft 22 = .ok (.istore_n 2, 1) := by decide +kernel
theorem dX10_secondsLeft_23 : decode cX10_secondsLeft 23 = .ok (.aload_n 0, 1) := by decide +kernel
theorem dX10_secondsLeft_24 : decode cX10_secondsLeft 24 = .ok (.getfield 7, 3) := by decide +kernel
theorem dX10_secondsLeft_27 : decode cX10_secondsLeft 27 = .ok (.bipush 30, 2) := by decide +kernel
theorem dX10_secondsLeft_29 : decode cX10_secondsLeft 29 = .ok (.iaload, 1) := by decide +kernel
theorem dX10_secondsLeft_30 : decode cX10_secondsLeft 30 = .ok (.istore_n 3, 1) := by decide +kernel
theorem dX10_secondsLeft_31 : decode cX10_secondsLeft 31 = .ok (.aload_n 0, 1) := by decide +kernel
theorem dX10_secondsLeft_32 : decode cX10_secondsLeft 32 = .ok (.getfield 7, 3) := by decide +kernel
theorem dX10_secondsLeft_35 : decode cX10_secondsLeft 35 = .ok (.bipush 31, 2) := by decide +kernel
theorem dX10_secondsLeft_37 : decode cX10_secondsLeft 37 = .ok (.iaload, 1) := by decide +kernel
theorem dX10_secondsLeft_38 : decode cX10_secondsLeft 38 = .ok (.istore 4, 2) := by decide +kernel
theorem dX10_secondsLeft_40 : decode cX10_secondsLeft 40 = .ok (.iload 4, 2) := by decide +kernel
theorem dX10_secondsLeft_42 : decode cX10_secondsLeft 42 = .ok (.aload_n 0, 1) := by decide +kernel
theorem dX10_secondsLeft_43 : decode cX10_secondsLeft 43 = .ok (.iload_n 3, 1) := by decide +kernel
theorem dX10_secondsLeft_44 : decode cX10_secondsLeft 44 = .ok (.invokevirtual 48, 3) := by decide +kernel
theorem dX10_secondsLeft_47 : decode cX10_secondsLeft 47 = .ok (.if_icmp .lt 13, 3) := by decide +kernel
theorem dX10_secondsLeft_50 : decode cX10_secondsLeft 50 = .ok (.aload_n 0, 1) := by decide +kernel
theorem dX10_secondsLeft_51 : decode cX10_secondsLeft 51 = .ok (.iload_n 3, 1) := by decide +kernel
theorem dX10_secondsLeft_52 : decode cX10_secondsLeft 52 = .ok (.invokevirtual 51, 3) := by decide +kernel
theorem dX10_secondsLeft_55 : decode cX10_secondsLeft 55 = .ok (.bipush (-6), 2) := by decide +kernel
theorem dX10_secondsLeft_57 : decode cX10_secondsLeft 57 = .ok (.if_icmp .eq 90, 3) := by decide +kernel
theorem dX10_secondsLeft_60 : decode cX10_secondsLeft 60 = .ok (.aload_n 0, 1) := by decide +kernel
theorem dX10_secondsLeft_61 : decode cX10_secondsLeft 61 = .ok (.iload_n 3, 1) := by decide +kernel
theorem dX10_secondsLeft_62 : decode cX10_secondsLeft 62 = .ok (.iconst 2, 1) := by decide +kernel
theorem dX10_secondsLeft_63 : decode cX10_secondsLeft 63 = .ok (.invokevirtual 26, 3) := by decide +kernel
theorem dX10_secondsLeft_66 : decode cX10_secondsLeft 66 = .ok (.istore 5, 2) := by decide +kernel
theorem dX10_secondsLeft_68 : decode cX10_secondsLeft 68 = .ok (.iload 5, 2) := by decide +kernel
theorem dX10_secondsLeft_70 : decode cX10_secondsLeft 70 = .ok (.ifCond .ne 6, 3) := by decide +kernel
theorem dX10_secondsLeft_73 : decode cX10_secondsLeft 73 = .ok (.bipush (-6), 2) := by decide +kernel
theorem dX10_secondsLeft_75 : decode cX10_secondsLeft 75 = .ok (.ireturn, 1) := by decide +kernel
theorem dX10_secondsLeft_76 : decode cX10_secondsLeft 76 = .ok (.iload_n 1, 1) := by decide +kernel
theorem dX10_secondsLeft_77 : decode cX10_secondsLeft 77 = .ok (.iload 5, 2) := by decide +kernel
theorem dX10_secondsLeft_79 : decode cX10_secondsLeft 79 = .ok (.iload_n 2, 1) := by decide +kernel
theorem dX10_secondsLeft_80 : decode cX10_secondsLeft 80 = .ok (.isub, 1) := by decide +kernel
theorem dX10_secondsLeft_81 : decode cX10_secondsLeft 81 = .ok (.iconst 1, 1) := by decide +kernel
theorem dX10_secondsLeft_82 : decode cX10_secondsLeft 82 = .ok (.if_icmp .ge 7, 3) := by decide +kernel
theorem dX10_secondsLeft_85 : decode cX10_secondsLeft 85 = .ok (.iconst 1, 1) := by decide +kernel
theorem dX10_secondsLeft_86 : decode cX10_secondsLeft 86 = .ok (.goto 7, 3) := by decide +kernel
theorem dX10_secondsLeft_89 : decode cX10_secondsLeft 89 = .ok (.iload 5, 2) := by decide +kernel
theorem dX10_secondsLeft_91 : decode cX10_secondsLeft 91 = .ok (.iload_n 2, 1) := by decide +kernel
theorem dX10_secondsLeft_92 : decode cX10_secondsLeft 92 = .ok (.isub, 1) := by decide +kernel
theorem dX10_secondsLeft_93 : decode cX10_secondsLeft 93 = .ok (.iadd, 1) := by decide +kernel
theorem dX10_secondsLeft_94 : decode cX10_secondsLeft 94 = .ok (.istore_n 1, 1) := by decide +kernel
theorem dX10_secondsLeft_95 : decode cX10_secondsLeft 95 = .ok (.iconst 0, 1) := by decide +kernel
theorem dX10_secondsLeft_96 : decode cX10_secondsLeft 96 = .ok (.istore_n 2, 1) := by decide +kernel
theorem dX10_secondsLeft_97 : decode cX10_secondsLeft 97 = .ok (.iload 4, 2) := by decide +kernel
theorem dX10_secondsLeft_99 : decode cX10_secondsLeft 99 = .ok (.aload_n 0, 1) := by decide +kernel
theorem dX10_secondsLeft_100 : decode cX10_secondsLeft 100 = .ok (.iload_n 3, 1) := by decide +kernel
theorem dX10_secondsLeft_101 : decode cX10_secondsLeft 101 = .ok (.invokevirtual 48, 3) := by decide +kernel
theorem dX10_secondsLeft_104 : decode cX10_secondsLeft 104 = .ok (.if_icmp .ne 7, 3) := by decide +kernel
theorem dX10_secondsLeft_107 : decode cX10_secondsLeft 107 = .ok (.iconst 1, 1) := by decide +kernel
theorem dX10_secondsLeft_108 : decode cX10_secondsLeft 108 = .ok (.goto 4, 3) := by decide +kernel
theorem dX10_secondsLeft_111 : decode cX10_secondsLeft 111 = .ok (.iconst 0, 1) := by decide +kernel
theorem dX10_secondsLeft_112 : decode cX10_secondsLeft 112 = .ok (.istore 6, 2) := by decide +kernel
theorem dX10_secondsLeft_114 : decode cX10_secondsLeft 114 = .ok (.iload 6, 2) := by decide +kernel
theorem dX10_secondsLeft_116 : decode cX10_secondsLeft 116 = .ok (.ifCond .eq 11, 3) := by decide +kernel
theorem dX10_secondsLeft_119 : decode cX10_secondsLeft 119 = .ok (.aload_n 0, 1) := by decide +kernel
theorem dX10_secondsLeft_120 : decode cX10_secondsLeft 120 = .ok (.iload_n 3, 1) := by decide +kernel
theorem dX10_secondsLeft_121 : decode cX10_secondsLeft 121 = .ok (.invokevirtual 51, 3) := by decide +kernel
theorem dX10_secondsLeft_124 : decode cX10_secondsLeft 124 = .ok (.goto 4, 3) := by decide +kernel
theorem dX10_secondsLeft_127 : decode cX10_secondsLeft 127 = .ok (.iload_n 3, 1) := by decide +kernel
theorem dX10_secondsLeft_128 : decode cX10_secondsLeft 128 = .ok (.istore_n 3, 1) := by decide +kernel
theorem dX10_secondsLeft_129 : decode cX10_secondsLeft 129 = .ok (.iload 6, 2) := by decide +kernel
theorem dX10_secondsLeft_131 : decode cX10_secondsLeft 131 = .ok (.ifCond .eq 7, 3) := by decide +kernel
theorem dX10_secondsLeft_134 : decode cX10_secondsLeft 134 = .ok (.iconst 0, 1) := by decide +kernel
theorem dX10_secondsLeft_135 : decode cX10_secondsLeft 135 = .ok (.goto 7, 3) := by decide +kernel
theorem dX10_secondsLeft_138 : decode cX10_secondsLeft 138 = .ok (.iload 4, 2) := by decide +kernel
theorem dX10_secondsLeft_140 : decode cX10_secondsLeft 140 = .ok (.iconst 1, 1) := by decide +kernel
theorem dX10_secondsLeft_141 : decode cX10_secondsLeft 141 = .ok (.iadd, 1) := by decide +kernel
theorem dX10_secondsLeft_142 : decode cX10_secondsLeft 142 = .ok (.istore 4, 2) := by decide +kernel
theorem dX10_secondsLeft_144 : decode cX10_secondsLeft 144 = .ok (.goto (-104), 3) := by decide +kernel
theorem dX10_secondsLeft_147 : decode cX10_secondsLeft 147 = .ok (.iload_n 1, 1) := by decide +kernel
theorem dX10_secondsLeft_148 : decode cX10_secondsLeft 148 = .ok (.ireturn, 1) := by decide +kernel
theorem dX10_backTo_0 : decode cX10_backTo 0 = .ok (.aload_n 0, 1) := by decide +kernel
theorem dX10_backTo_1 : decode cX10_backTo 1 = .ok (.invokevirtual 98, 3) := by decide +kernel
theorem dX10_backTo_4 : decode cX10_backTo 4 = .ok (.ifCond .eq 10, 3) := by decide +kernel
theorem dX10_backTo_7 : decode cX10_backTo 7 = .ok (.aload_n 0, 1) := by decide +kernel
theorem dX10_backTo_8 : decode cX10_backTo 8 = .ok (.invokevirtual 58, 3) := by decide +kernel
theorem dX10_backTo_11 : decode cX10_backTo 11 = .ok (.goto 5, 3) := by decide +kernel
theorem dX10_backTo_14 : decode cX10_backTo 14 = .ok (.bipush (-6), 2) := by decide +kernel
theorem dX10_backTo_16 : decode cX10_backTo 16 = .ok (.istore_n 1, 1) := by decide +kernel
theorem dX10_backTo_17 : decode cX10_backTo 17 = .ok (.iload_n 1, 1) := by decide +kernel
theorem dX10_backTo_18 : decode cX10_backTo 18 = .ok (.bipush (-6), 2) := by decide +kernel
theorem dX10_backTo_20 : decode cX10_backTo 20 = .ok (.if_icmp .ne 8, 3) := by decide +kernel
theorem dX10_backTo_23 : decode cX10_backTo 23 = .ok (.bipush (-6), 2) := by decide +kernel
theorem dX10_backTo_25 : decode cX10_backTo 25 = .ok (.goto 14, 3) := by decide +kernel
theorem dX10_backTo_28 : decode cX10_backTo 28 = .ok (.aload_n 0, 1) := by decide +kernel
theorem dX10_backTo_29 : decode cX10_backTo 29 = .ok (.getfield 7, 3) := by decide +kernel
theorem dX10_backTo_32 : decode cX10_backTo 32 = .ok (.bipush 36, 2) := by decide +kernel
theorem dX10_backTo_34 : decode cX10_backTo 34 = .ok (.iconst 3, 1) := by decide +kernel
theorem dX10_backTo_35 : decode cX10_backTo 35 = .ok (.iload_n 1, 1) := by decide +kernel
theorem dX10_backTo_36 : decode cX10_backTo 36 = .ok (.imul, 1) := by decide +kernel
theorem dX10_backTo_37 : decode cX10_backTo 37 = .ok (.iadd, 1) := by decide +kernel
theorem dX10_backTo_38 : decode cX10_backTo 38 = .ok (.iaload, 1) := by decide +kernel
theorem dX10_backTo_39 : decode cX10_backTo 39 = .ok (.ireturn, 1) := by decide +kernel
