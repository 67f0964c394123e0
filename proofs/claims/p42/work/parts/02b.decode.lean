theorem dX9_init_0 : decode cX9_init 0 = .ok (.aload_n 0, 1) := by decide +kernel
theorem dX9_init_1 : decode cX9_init 1 = .ok (.invokespecial 1, 3) := by decide +kernel
theorem dX9_init_4 : decode cX9_init 4 = .ok (.aload_n 0, 1) := by decide +kernel
theorem dX9_init_5 : decode cX9_init 5 = .ok (.new 7, 3) := by decide +kernel
theorem dX9_init_8 : decode cX9_init 8 = .ok (.dup, 1) := by decide +kernel
theorem dX9_init_9 : decode cX9_init 9 = .ok (.invokespecial 9, 3) := by decide +kernel
theorem dX9_init_12 : decode cX9_init 12 = .ok (.putfield 10, 3) := by decide +kernel
theorem dX9_init_15 : decode cX9_init 15 = .ok (.aload_n 0, 1) := by decide +kernel
theorem dX9_init_16 : decode cX9_init 16 = .ok (.new 16, 3) := by decide +kernel
theorem dX9_init_19 : decode cX9_init 19 = .ok (.dup, 1) := by decide +kernel
theorem dX9_init_20 : decode cX9_init 20 = .ok (.invokespecial 18, 3) := by decide +kernel
theorem dX9_init_23 : decode cX9_init 23 = .ok (.putfield 19, 3) := by decide +kernel
theorem dX9_init_26 : decode cX9_init 26 = .ok (.aload_n 0, 1) := by decide +kernel
theorem dX9_init_27 : decode cX9_init 27 = .ok (.new 23, 3) := by decide +kernel
theorem dX9_init_30 : decode cX9_init 30 = .ok (.dup, 1) := by decide +kernel
theorem dX9_init_31 : decode cX9_init 31 = .ok (.invokespecial 25, 3) := by decide +kernel
theorem dX9_init_34 : decode cX9_init 34 = .ok (.putfield 26, 3) := by decide +kernel
theorem dX9_init_37 : decode cX9_init 37 = .ok (.aload_n 0, 1) := by decide +kernel
theorem dX9_init_38 : decode cX9_init 38 = .ok (.new 30, 3) := by decide +kernel
theorem dX9_init_41 : decode cX9_init 41 = .ok (.dup, 1) := by decide +kernel
theorem dX9_init_42 : decode cX9_init 42 = .ok (.invokespecial 32, 3) := by decide +kernel
theorem dX9_init_45 : decode cX9_init 45 = .ok (.putfield 33, 3) := by decide +kernel
theorem dX9_init_48 : decode cX9_init 48 = .ok (.aload_n 0, 1) := by decide +kernel
theorem dX9_init_49 : decode cX9_init 49 = .ok (.new 37, 3) := by decide +kernel
theorem dX9_init_52 : decode cX9_init 52 = .ok (.dup, 1) := by decide +kernel
theorem dX9_init_53 : decode cX9_init 53 = .ok (.invokespecial 39, 3) := by decide +kernel
theorem dX9_init_56 : decode cX9_init 56 = .ok (.putfield 40, 3) := by decide +kernel
theorem dX9_init_59 : decode cX9_init 59 = .ok (.return_, 1) := by decide +kernel
theorem dX9_addSlide_0 : decode cX9_addSlide 0 = .ok (.aload_n 0, 1) := by decide +kernel
theorem dX9_addSlide_1 : decode cX9_addSlide 1 = .ok (.getfield 10, 3) := by decide +kernel
theorem dX9_addSlide_4 : decode cX9_addSlide 4 = .ok (.getfield 44, 3) := by decide +kernel
theorem dX9_addSlide_7 : decode cX9_addSlide 7 = .ok (.invokevirtual 48, 3) := by decide +kernel
theorem dX9_addSlide_10 : decode cX9_addSlide 10 = .ok (.istore_n 1, 1) := by decide +kernel
theorem dX9_addSlide_11 : decode cX9_addSlide 11 = .ok (.iload_n 1, 1) := by decide +kernel
theorem dX9_addSlide_12 : decode cX9_addSlide 12 = .ok (.iconst (-1), 1) := by decide +kernel
theorem dX9_addSlide_13 : decode cX9_addSlide 13 = .ok (.if_icmp .ne 6, 3) := by decide +kernel
theorem dX9_addSlide_16 : decode cX9_addSlide 16 = .ok (.bipush (-4), 2) := by decide +kernel
theorem dX9_addSlide_18 : decode cX9_addSlide 18 = .ok (.ireturn, 1) := by decide +kernel
theorem dX9_addSlide_19 : decode cX9_addSlide 19 = .ok (.aload_n 0, 1) := by decide +kernel
theorem dX9_addSlide_20 : decode cX9_addSlide 20 = .ok (.getfield 19, 3) := by decide +kernel
theorem dX9_addSlide_23 : decode cX9_addSlide 23 = .ok (.aload_n 0, 1) := by decide +kernel
theorem dX9_addSlide_24 : decode cX9_addSlide 24 = .ok (.getfield 10, 3) := by decide +kernel
theorem dX9_addSlide_27 : decode cX9_addSlide 27 = .ok (.invokevirtual 54, 3) := by decide +kernel
theorem dX9_addSlide_30 : decode cX9_addSlide 30 = .ok (.aload_n 0, 1) := by decide +kernel
theorem dX9_addSlide_31 : decode cX9_addSlide 31 = .ok (.getfield 10, 3) := by decide +kernel
theorem dX9_addSlide_34 : decode cX9_addSlide 34 = .ok (.getfield 44, 3) := by decide +kernel
theorem dX9_addSlide_37 : decode cX9_addSlide 37 = .ok (.iload_n 1, 1) := by decide +kernel
theorem dX9_addSlide_38 : decode cX9_addSlide 38 = .ok (.invokevirtual 58, 3) := by decide +kernel
theorem dX9_addSlide_41 : decode cX9_addSlide 41 = .ok (.iload_n 1, 1) := by decide +kernel
theorem dX9_addSlide_42 : decode cX9_addSlide 42 = .ok (.ireturn, 1) := by decide +kernel
theorem dX9_removeSlide_0 : decode cX9_removeSlide 0 = .ok (.aload_n 0, 1) := by decide +kernel
theorem dX9_removeSlide_1 : decode cX9_removeSlide 1 = .ok (.getfield 10, 3) := by decide +kernel
theorem dX9_removeSlide_4 : decode cX9_removeSlide 4 = .ok (.getfield 44, 3) := by decide +kernel
theorem dX9_removeSlide_7 : decode cX9_removeSlide 7 = .ok (.iload_n 1, 1) := by decide +kernel
theorem dX9_removeSlide_8 : decode cX9_removeSlide 8 = .ok (.invokevirtual 62, 3) := by decide +kernel
theorem dX9_removeSlide_11 : decode cX9_removeSlide 11 = .ok (.ifnonnull 5, 3) := by decide +kernel
theorem dX9_removeSlide_14 : decode cX9_removeSlide 14 = .ok (.iconst (-1), 1) := by decide +kernel
theorem dX9_removeSlide_15 : decode cX9_removeSlide 15 = .ok (.ireturn, 1) := by decide +kernel
theorem dX9_removeSlide_16 : decode cX9_removeSlide 16 = .ok (.aload_n 0, 1) := by decide +kernel
theorem dX9_removeSlide_17 : decode cX9_removeSlide 17 = .ok (.getfield 10, 3) := by decide +kernel
theorem dX9_removeSlide_20 : decode cX9_removeSlide 20 = .ok (.getfield 66, 3) := by decide +kernel
theorem dX9_removeSlide_23 : decode cX9_removeSlide 23 = .ok (.getfield 70, 3) := by decide +kernel
theorem dX9_removeSlide_26 : decode cX9_removeSlide 26 = .ok (.iload_n 1, 1) := by decide +kernel
theorem dX9_removeSlide_27 : decode cX9_removeSlide 27 = .ok (.if_icmp .ne 6, 3) := by decide +kernel
theorem dX9_removeSlide_30 : decode cX9_removeSlide 30 = .ok (.bipush (-5), 2) := by decide +kernel
theorem dX9_removeSlide_32 : decode cX9_removeSlide 32 = .ok (.ireturn, 1) := by decide +kernel
theorem dX9_removeSlide_33 : decode cX9_removeSlide 33 = .ok (.aload_n 0, 1) := by decide +kernel
theorem dX9_removeSlide_34 : decode cX9_removeSlide 34 = .ok (.getfield 19, 3) := by decide +kernel
theorem dX9_removeSlide_37 : decode cX9_removeSlide 37 = .ok (.aload_n 0, 1) := by decide +kernel
theorem dX9_removeSlide_38 : decode cX9_removeSlide 38 = .ok (.getfield 10, 3) := by decide +kernel
theorem dX9_removeSlide_41 : decode cX9_removeSlide 41 = .ok (.invokevirtual 54, 3) := by decide +kernel
theorem dX9_removeSlide_44 : decode cX9_removeSlide 44 = .ok (.aload_n 0, 1) := by decide +kernel
theorem dX9_removeSlide_45 : decode cX9_removeSlide 45 = .ok (.getfield 10, 3) := by decide +kernel
theorem dX9_removeSlide_48 : decode cX9_removeSlide 48 = .ok (.getfield 44, 3) := by decide +kernel
theorem dX9_removeSlide_51 : decode cX9_removeSlide 51 = .ok (.iload_n 1, 1) := by decide +kernel
theorem dX9_removeSlide_52 : decode cX9_removeSlide 52 = .ok (.invokevirtual 76, 3) := by decide +kernel
theorem dX9_removeSlide_55 : decode cX9_removeSlide 55 = .ok (.aload_n 0, 1) := by decide +kernel
theorem dX9_removeSlide_56 : decode cX9_removeSlide 56 = .ok (.getfield 10, 3) := by decide +kernel
theorem dX9_removeSlide_59 : decode cX9_removeSlide 59 = .ok (.getfield 44, 3) := by decide +kernel
theorem dX9_removeSlide_62 : decode cX9_removeSlide 62 = .ok (.getfield 79, 3) := by decide +kernel
theorem dX9_removeSlide_65 : decode cX9_removeSlide 65 = .ok (.ireturn, 1) := by decide +kernel
theorem dX9_moveSlide_0 : decode cX9_moveSlide 0 = .ok (.aload_n 0, 1) := by decide +kernel
theorem dX9_moveSlide_1 : decode cX9_moveSlide 1 = .ok (.getfield 10, 3) := by decide +kernel
theorem dX9_moveSlide_4 : decode cX9_moveSlide 4 = .ok (.getfield 44, 3) := by decide +kernel
theorem dX9_moveSlide_7 : decode cX9_moveSlide 7 = .ok (.iload_n 1, 1) := by decide +kernel
theorem dX9_moveSlide_8 : decode cX9_moveSlide 8 = .ok (.invokevirtual 62, 3) := by decide +kernel
theorem dX9_moveSlide_11 : decode cX9_moveSlide 11 = .ok (.ifnonnull 5, 3) := by decide +kernel
theorem dX9_moveSlide_14 : decode cX9_moveSlide 14 = .ok (.iconst (-1), 1) := by decide +kernel
theorem dX9_moveSlide_15 : decode cX9_moveSlide 15 = .ok (.ireturn, 1) := by decide +kernel
theorem dX9_moveSlide_16 : decode cX9_moveSlide 16 = .ok (.iload_n 2, 1) := by decide +kernel
theorem dX9_moveSlide_17 : decode cX9_moveSlide 17 = .ok (.iconst 0, 1) := by decide +kernel
theorem dX9_moveSlide_18 : decode cX9_moveSlide 18 = .ok (.aload_n 0, 1) := by decide +kernel
theorem dX9_moveSlide_19 : decode cX9_moveSlide 19 = .ok (.getfield 10, 3) := by decide +kernel
theorem dX9_moveSlide_22 : decode cX9_moveSlide 22 = .ok (.getfield 44, 3) := by decide +kernel
theorem dX9_moveSlide_25 : decode cX9_moveSlide 25 = .ok (.getfield 79, 3) := by decide +kernel
theorem dX9_moveSlide_28 : decode cX9_moveSlide 28 = .ok (.iconst 1, 1) := by decide +kernel
theorem dX9_moveSlide_29 : decode cX9_moveSlide 29 = .ok (.isub, 1) := by decide +kernel
theorem dX9_moveSlide_30 : decode cX9_moveSlide 30 = .ok (.invokestatic 82, 3) := by decide +kernel
theorem dX9_moveSlide_33 : decode cX9_moveSlide 33 = .ok (.ifCond .ne 6, 3) := by decide +kernel
theorem dX9_moveSlide_36 : decode cX9_moveSlide 36 = .ok (.bipush (-2), 2) := by decide +kernel
theorem dX9_moveSlide_38 : decode cX9_moveSlide 38 = .ok (.ireturn, 1) := by decide +kernel
theorem dX9_moveSlide_39 : decode cX9_moveSlide 39 = .ok (.aload_n 0, 1) := by decide +kernel
theorem dX9_moveSlide_40 : decode cX9_moveSlide 40 = .ok (.getfield 19, 3) := by decide +kernel
theorem dX9_moveSlide_43 : decode cX9_moveSlide 43 = .ok (.aload_n 0, 1) := by decide +kernel
theorem dX9_moveSlide_44 : decode cX9_moveSlide 44 = .ok (.getfield 10, 3) := by decide +kernel
theorem dX9_moveSlide_47 : decode cX9_moveSlide 47 = .ok (.invokevirtual 54, 3) := by decide +kernel
theorem dX9_moveSlide_50 : decode cX9_moveSlide 50 = .ok (.aload_n 0, 1) := by decide +kernel
theorem dX9_moveSlide_51 : decode cX9_moveSlide 51 = .ok (.getfield 10, 3) := by decide +kernel
theorem dX9_moveSlide_54 : decode cX9_moveSlide 54 = .ok (.getfield 44, 3) := by decide +kernel
theorem dX9_moveSlide_57 : decode cX9_moveSlide 57 = .ok (.iload_n 1, 1) := by decide +kernel
theorem dX9_moveSlide_58 : decode cX9_moveSlide 58 = .ok (.invokevirtual 86, 3) := by decide +kernel
theorem dX9_moveSlide_61 : decode cX9_moveSlide 61 = .ok (.istore_n 3, 1) := by decide +kernel
theorem dX9_moveSlide_62 : decode cX9_moveSlide 62 = .ok (.aload_n 0, 1) := by decide +kernel
theorem dX9_moveSlide_63 : decode cX9_moveSlide 63 = .ok (.getfield 10, 3) := by decide +kernel
theorem dX9_moveSlide_66 : decode cX9_moveSlide 66 = .ok (.getfield 44, 3) := by decide +kernel
theorem dX9_moveSlide_69 : decode cX9_moveSlide 69 = .ok (.iload_n 1, 1) := by decide +kernel
theorem dX9_moveSlide_70 : decode cX9_moveSlide 70 = .ok (.invokevirtual 90, 3) := by decide +kernel
theorem dX9_moveSlide_73 : decode cX9_moveSlide 73 = .ok (.aload_n 0, 1) := by decide +kernel
theorem dX9_moveSlide_74 : decode cX9_moveSlide 74 = .ok (.getfield 10, 3) := by decide +kernel
theorem dX9_moveSlide_77 : decode cX9_moveSlide 77 = .ok (.getfield 44, 3) := by decide +kernel
theorem dX9_moveSlide_80 : decode cX9_moveSlide 80 = .ok (.iload_n 1, 1) := by decide +kernel
theorem dX9_moveSlide_81 : decode cX9_moveSlide 81 = .ok (.iload_n 2, 1) := by decide +kernel
theorem dX9_moveSlide_82 : decode cX9_moveSlide 82 = .ok (.invokevirtual 93, 3) := by decide +kernel
theorem dX9_moveSlide_85 : decode cX9_moveSlide 85 = .ok (.iload_n 3, 1) := by decide +kernel
theorem dX9_moveSlide_86 : decode cX9_moveSlide 86 = .ok (.ireturn, 1) := by decide +kernel
theorem dX9_hide_0 : decode cX9_hide 0 = .ok (.aload_n 0, 1) := by decide +kernel
theorem dX9_hide_1 : decode cX9_hide 1 = .ok (.getfield 10, 3) := by decide +kernel
theorem dX9_hide_4 : decode cX9_hide 4 = .ok (.getfield 44, 3) := by decide +kernel
theorem dX9_hide_7 : decode cX9_hide 7 = .ok (.iload_n 1, 1) := by decide +kernel
theorem dX9_hide_8 : decode cX9_hide 8 = .ok (.invokevirtual 62, 3) := by decide +kernel
theorem dX9_hide_11 : decode cX9_hide 11 = .ok (.astore_n 3, 1) := by decide +kernel
theorem dX9_hide_12 : decode cX9_hide 12 = .ok (.aload_n 3, 1) := by decide +kernel
theorem dX9_hide_13 : decode cX9_hide 13 = .ok (.ifnonnull 5, 3) := by decide +kernel
theorem dX9_hide_16 : decode cX9_hide 16 = .ok (.iconst (-1), 1) := by decide +kernel
theorem dX9_hide_17 : decode cX9_hide 17 = .ok (.ireturn, 1) := by decide +kernel
theorem dX9_hide_18 : decode cX9_hide 18 = .ok (.aload_n 0, 1) := by decide +kernel
theorem dX9_hide_19 : decode cX9_hide 19 = .ok (.getfield 19, 3) := by decide +kernel
theorem dX9_hide_22 : decode cX9_hide 22 = .ok (.aload_n 0, 1) := by decide +kernel
theorem dX9_hide_23 : decode cX9_hide 23 = .ok (.getfield 10, 3) := by decide +kernel
theorem dX9_hide_26 : decode cX9_hide 26 = .ok (.invokevirtual 54, 3) := by decide +kernel
theorem dX9_hide_29 : decode cX9_hide 29 = .ok (.aload_n 3, 1) := by decide +kernel
theorem dX9_hide_30 : decode cX9_hide 30 = .ok (.iload_n 2, 1) := by decide +kernel
theorem dX9_hide_31 : decode cX9_hide 31 = .ok (.putfield 97, 3) := by decide +kernel
theorem dX9_hide_34 : decode cX9_hide 34 = .ok (.aload_n 0, 1) := by decide +kernel
theorem dX9_hide_35 : decode cX9_hide 35 = .ok (.getfield 10, 3) := by decide +kernel
theorem dX9_hide_38 : decode cX9_hide 38 = .ok (.getfield 44, 3) := by decide +kernel
theorem dX9_hide_41 : decode cX9_hide 41 = .ok (.invokevirtual 103, 3) := by decide +kernel
theorem dX9_hide_44 : decode cX9_hide 44 = .ok (.ireturn, 1) := by decide +kernel
theorem dX9_setPause_0 : decode cX9_setPause 0 = .ok (.aload_n 0, 1) := by decide +kernel
theorem dX9_setPause_1 : decode cX9_setPause 1 = .ok (.getfield 10, 3) := by decide +kernel
theorem dX9_setPause_4 : decode cX9_setPause 4 = .ok (.getfield 44, 3) := by decide +kernel
theorem dX9_setPause_7 : decode cX9_setPause 7 = .ok (.iload_n 1, 1) := by decide +kernel
theorem dX9_setPause_8 : decode cX9_setPause 8 = .ok (.invokevirtual 62, 3) := by decide +kernel
theorem dX9_setPause_11 : decode cX9_setPause 11 = .ok (.astore_n 3, 1) := by decide +kernel
theorem dX9_setPause_12 : decode cX9_setPause 12 = .ok (.aload_n 3, 1) := by decide +kernel
theorem dX9_setPause_13 : decode cX9_setPause 13 = .ok (.ifnonnull 5, 3) := by decide +kernel
theorem dX9_setPause_16 : decode cX9_setPause 16 = .ok (.iconst (-1), 1) := by decide +kernel
theorem dX9_setPause_17 : decode cX9_setPause 17 = .ok (.ireturn, 1) := by decide +kernel
theorem dX9_setPause_18 : decode cX9_setPause 18 = .ok (.iload_n 2, 1) := by decide +kernel
theorem dX9_setPause_19 : decode cX9_setPause 19 = .ok (.iconst 0, 1) := by decide +kernel
theorem dX9_setPause_20 : decode cX9_setPause 20 = .ok (.bipush 60, 2) := by decide +kernel
theorem dX9_setPause_22 : decode cX9_setPause 22 = .ok (.invokestatic 82, 3) := by decide +kernel
theorem dX9_setPause_25 : decode cX9_setPause 25 = .ok (.ifCond .ne 6, 3) := by decide +kernel
theorem dX9_setPause_28 : decode cX9_setPause 28 = .ok (.bipush (-2), 2) := by decide +kernel
theorem dX9_setPause_30 : decode cX9_setPause 30 = .ok (.ireturn, 1) := by decide +kernel
theorem dX9_setPause_31 : decode cX9_setPause 31 = .ok (.aload_n 0, 1) := by decide +kernel
theorem dX9_setPause_32 : decode cX9_setPause 32 = .ok (.getfield 19, 3) := by decide +kernel
theorem dX9_setPause_35 : decode cX9_setPause 35 = .ok (.aload_n 0, 1) := by decide +kernel
theorem dX9_setPause_36 : decode cX9_setPause 36 = .ok (.getfield 10, 3) := by decide +kernel
theorem dX9_setPause_39 : decode cX9_setPause 39 = .ok (.invokevirtual 54, 3) := by decide +kernel
theorem dX9_setPause_42 : decode cX9_setPause 42 = .ok (.aload_n 3, 1) := by decide +kernel
theorem dX9_setPause_43 : decode cX9_setPause 43 = .ok (.getfield 106, 3) := by decide +kernel
theorem dX9_setPause_46 : decode cX9_setPause 46 = .ok (.istore 4, 2) := by decide +kernel
theorem dX9_setPause_48 : decode cX9_setPause 48 = .ok (.aload_n 3, 1) := by decide +kernel
theorem dX9_setPause_49 : decode cX9_setPause 49 = .ok (.iload_n 2, 1) := by decide +kernel
theorem dX9_setPause_50 : decode cX9_setPause 50 = .ok (.putfield 106, 3) := by decide +kernel
theorem dX9_setPause_53 : decode cX9_setPause 53 = .ok (.iload 4, 2) := by decide +kernel
theorem dX9_setPause_55 : decode cX9_setPause 55 = .ok (.ireturn, 1) := by decide +kernel
theorem dX9_addItem_0 : decode cX9_addItem 0 = .ok (.aload_n 0, 1) := by decide +kernel
theorem dX9_addItem_1 : decode cX9_addItem 1 = .ok (.getfield 10, 3) := by decide +kernel
theorem dX9_addItem_4 : decode cX9_addItem 4 = .ok (.getfield 44, 3) := by decide +kernel
theorem dX9_addItem_7 : decode cX9_addItem 7 = .ok (.iload_n 1, 1) := by decide +kernel
theorem dX9_addItem_8 : decode cX9_addItem 8 = .ok (.invokevirtual 62, 3) := by decide +kernel
theorem dX9_addItem_11 : decode cX9_addItem 11 = .ok (.astore 5, 2) := by decide +kernel
theorem dX9_addItem_13 : decode cX9_addItem 13 = .ok (.aload 5, 2) := by decide +kernel
theorem dX9_addItem_15 : decode cX9_addItem 15 = .ok (.ifnonnull 5, 3) := by decide +kernel
theorem dX9_addItem_18 : decode cX9_addItem 18 = .ok (.iconst (-1), 1) := by decide +kernel
theorem dX9_addItem_19 : decode cX9_addItem 19 = .ok (.ireturn, 1) := by decide +kernel
theorem dX9_addItem_20 : decode cX9_addItem 20 = .ok (.iload_n 2, 1) := by decide +kernel
theorem dX9_addItem_21 : decode cX9_addItem 21 = .ok (.iconst 0, 1) := by decide +kernel
theorem dX9_addItem_22 : decode cX9_addItem 22 = .ok (.bipush 9, 2) := by decide +kernel
theorem dX9_addItem_24 : decode cX9_addItem 24 = .ok (.invokestatic 82, 3) := by decide +kernel
theorem dX9_addItem_27 : decode cX9_addItem 27 = .ok (.ifCond .eq 14, 3) := by decide +kernel
theorem dX9_addItem_30 : decode cX9_addItem 30 = .ok (.iload 4, 2) := by decide +kernel
theorem dX9_addItem_32 : decode cX9_addItem 32 = .ok (.iconst 0, 1) := by decide +kernel
theorem dX9_addItem_33 : decode cX9_addItem 33 = .ok (.bipush 99, 2) := by decide +kernel
theorem dX9_addItem_35 : decode cX9_addItem 35 = .ok (.invokestatic 82, 3) := by decide +kernel
theorem dX9_addItem_38 : decode cX9_addItem 38 = .ok (.ifCond .ne 6, 3) := by decide +kernel
theorem dX9_addItem_41 : decode cX9_addItem 41 = .ok (.bipush (-2), 2) := by decide +kernel
theorem dX9_addItem_43 : decode cX9_addItem 43 = .ok (.ireturn, 1) := by decide +kernel
theorem dX9_addItem_44 : decode cX9_addItem 44 = .ok (.iload_n 3, 1) := by decide +kernel
theorem dX9_addItem_45 : decode cX9_addItem 45 = .ok (.iconst (-1), 1) := by decide +kernel
theorem dX9_addItem_46 : decode cX9_addItem 46 = .ok (.if_icmp .eq 16, 3) := by decide +kernel
theorem dX9_addItem_49 : decode cX9_addItem 49 = .ok (.iload_n 3, 1) := by decide +kernel
theorem dX9_addItem_50 : decode cX9_addItem 50 = .ok (.iload_n 2, 1) := by decide +kernel
theorem dX9_addItem_51 : decode cX9_addItem 51 = .ok (.bipush 9, 2) := by decide +kernel
theorem dX9_addItem_53 : decode cX9_addItem 53 = .ok (.invokestatic 82, 3) := by decide +kernel
theorem dX9_addItem_56 : decode cX9_addItem 56 = .ok (.ifCond .ne 6, 3) := by decide +kernel
theorem dX9_addItem_59 : decode cX9_addItem 59 = .ok (.bipush (-2), 2) := by decide +kernel
theorem dX9_addItem_61 : decode cX9_addItem 61 = .ok (.ireturn, 1) := by decide +kernel
theorem dX9_addItem_62 : decode cX9_addItem 62 = .ok (.aload 5, 2) := by decide +kernel
theorem dX9_addItem_64 : decode cX9_addItem 64 = .ok (.getfield 109, 3) := by decide +kernel
theorem dX9_addItem_67 : decode cX9_addItem 67 = .ok (.bipush 6, 2) := by decide +kernel
theorem dX9_addItem_69 : decode cX9_addItem 69 = .ok (.if_icmp .lt 6, 3) := by decide +kernel
theorem dX9_addItem_72 : decode cX9_addItem 72 = .ok (.bipush (-4), 2) := by decide +kernel
theorem dX9_addItem_74 : decode cX9_addItem 74 = .ok (.ireturn, 1) := by decide +kernel
theorem dX9_addItem_75 : decode cX9_addItem 75 = .ok (.aload_n 0, 1) := by decide +kernel
theorem dX9_addItem_76 : decode cX9_addItem 76 = .ok (.getfield 19, 3) := by decide +kernel
theorem dX9_addItem_79 : decode cX9_addItem 79 = .ok (.aload_n 0, 1) := by decide +kernel
theorem dX9_addItem_80 : decode cX9_addItem 80 = .ok (.getfield 10, 3) := by decide +kernel
theorem dX9_addItem_83 : decode cX9_addItem 83 = .ok (.invokevirtual 54, 3) := by decide +kernel
theorem dX9_addItem_86 : decode cX9_addItem 86 = .ok (.aload 5, 2) := by decide +kernel
theorem dX9_addItem_88 : decode cX9_addItem 88 = .ok (.iload_n 2, 1) := by decide +kernel
theorem dX9_addItem_89 : decode cX9_addItem 89 = .ok (.iload_n 3, 1) := by decide +kernel
theorem dX9_addItem_90 : decode cX9_addItem 90 = .ok (.iload 4, 2) := by decide +kernel
theorem dX9_addItem_92 : decode cX9_addItem 92 = .ok (.invokevirtual 112, 3) := by decide +kernel
theorem dX9_addItem_95 : decode cX9_addItem 95 = .ok (.aload 5, 2) := by decide +kernel
theorem dX9_addItem_97 : decode cX9_addItem 97 = .ok (.getfield 109, 3) := by decide +kernel
theorem dX9_addItem_100 : decode cX9_addItem 100 = .ok (.iconst 1, 1) := by decide +kernel
theorem dX9_addItem_101 : decode cX9_addItem 101 = .ok (.isub, 1) := by decide +kernel
theorem dX9_addItem_102 : decode cX9_addItem 102 = .ok (.ireturn, 1) := by decide +kernel
theorem dX9_removeItem_0 : decode cX9_removeItem 0 = .ok (.aload_n 0, 1) := by decide +kernel
theorem dX9_removeItem_1 : decode cX9_removeItem 1 = .ok (.getfield 10, 3) := by decide +kernel
theorem dX9_removeItem_4 : decode cX9_removeItem 4 = .ok (.getfield 44, 3) := by decide +kernel
theorem dX9_removeItem_7 : decode cX9_removeItem 7 = .ok (.iload_n 1, 1) := by decide +kernel
theorem dX9_removeItem_8 : decode cX9_removeItem 8 = .ok (.invokevirtual 62, 3) := by decide +kernel
theorem dX9_removeItem_11 : decode cX9_removeItem 11 = .ok (.astore_n 3, 1) := by decide +kernel
theorem dX9_removeItem_12 : decode cX9_removeItem 12 = .ok (.aload_n 3, 1) := by decide +kernel
theorem dX9_removeItem_13 : decode cX9_removeItem 13 = .ok (.ifnull 17, 3) := by decide +kernel
theorem dX9_removeItem_16 : decode cX9_removeItem 16 = .ok (.iload_n 2, 1) := by decide +kernel
theorem dX9_removeItem_17 : decode cX9_removeItem 17 = .ok (.iconst 0, 1) := by decide +kernel
theorem dX9_removeItem_18 : decode cX9_removeItem 18 = .ok (.aload_n 3, 1) := by decide +kernel
theorem dX9_removeItem_19 : decode cX9_removeItem 19 = .ok (.getfield 109, 3) := by decide +kernel
theorem dX9_removeItem_22 : decode cX9_removeItem 22 = .ok (.iconst 1, 1) := by decide +kernel
theorem dX9_removeItem_23 : decode cX9_removeItem 23 = .ok (.isub, 1) := by decide +kernel
theorem dX9_removeItem_24 : decode cX9_removeItem 24 = .ok (.invokestatic 82, 3) := by decide +kernel
theorem dX9_removeItem_27 : decode cX9_removeItem 27 = .ok (.ifCond .ne 5, 3) := by decide +kernel
theorem dX9_removeItem_30 : decode cX9_removeItem 30 = .ok (.iconst (-1), 1) := by decide +kernel
theorem dX9_removeItem_31 : decode cX9_removeItem 31 = .ok (.ireturn, 1) := by decide +kernel
theorem dX9_removeItem_32 : decode cX9_removeItem 32 = .ok (.aload_n 0, 1) := by decide +kernel
theorem dX9_removeItem_33 : decode cX9_removeItem 33 = .ok (.getfield 19, 3) := by decide +kernel
theorem dX9_removeItem_36 : decode cX9_removeItem 36 = .ok (.aload_n 0, 1) := by decide +kernel
theorem dX9_removeItem_37 : decode cX9_removeItem 37 = .ok (.getfield 10, 3) := by decide +kernel
theorem dX9_removeItem_40 : decode cX9_removeItem 40 = .ok (.invokevirtual 54, 3) := by decide +kernel
theorem dX9_removeItem_43 : decode cX9_removeItem 43 = .ok (.aload_n 3, 1) := by decide +kernel
theorem dX9_removeItem_44 : decode cX9_removeItem 44 = .ok (.iload_n 2, 1) := by decide +kernel
theorem dX9_removeItem_45 : decode cX9_removeItem 45 = .ok (.invokevirtual 116, 3) := by decide +kernel
theorem dX9_removeItem_48 : decode cX9_removeItem 48 = .ok (.aload_n 0, 1) := by decide +kernel
theorem dX9_removeItem_49 : decode cX9_removeItem 49 = .ok (.getfield 10, 3) := by decide +kernel
theorem dX9_removeItem_52 : decode cX9_removeItem 52 = .ok (.invokevirtual 119, 3) := by decide +kernel
theorem dX9_removeItem_55 : decode cX9_removeItem 55 = .ok (.aload_n 3, 1) := by decide +kernel
theorem dX9_removeItem_56 : decode cX9_removeItem 56 = .ok (.getfield 109, 3) := by decide +kernel
theorem dX9_removeItem_59 : decode cX9_removeItem 59 = .ok (.ireturn, 1) := by decide +kernel
theorem dX9_link_0 : decode cX9_link 0 = .ok (.aload_n 0, 1) := by decide +kernel
theorem dX9_link_1 : decode cX9_link 1 = .ok (.getfield 10, 3) := by decide +kernel
theorem dX9_link_4 : decode cX9_link 4 = .ok (.getfield 44, 3) := by decide +kernel
theorem dX9_link_7 : decode cX9_link 7 = .ok (.iload_n 1, 1) := by decide +kernel
theorem dX9_link_8 : decode cX9_link 8 = .ok (.invokevirtual 62, 3) := by decide +kernel
theorem dX9_link_11 : decode cX9_link 11 = .ok (.astore 4, 2) := by decide +kernel
theorem dX9_link_13 : decode cX9_link 13 = .ok (.aload 4, 2) := by decide +kernel
theorem dX9_link_15 : decode cX9_link 15 = .ok (.ifnull 17, 3) := by decide +kernel
theorem dX9_link_18 : decode cX9_link 18 = .ok (.aload_n 0, 1) := by decide +kernel
theorem dX9_link_19 : decode cX9_link 19 = .ok (.getfield 10, 3) := by decide +kernel
theorem dX9_link_22 : decode cX9_link 22 = .ok (.getfield 44, 3) := by decide +kernel
theorem dX9_link_25 : decode cX9_link 25 = .ok (.iload_n 3, 1) := by decide +kernel
theorem dX9_link_26 : decode cX9_link 26 = .ok (.invokevirtual 62, 3) := by decide +kernel
theorem dX9_link_29 : decode cX9_link 29 = .ok (.ifnonnull 5, 3) := by decide +kernel
theorem dX9_link_32 : decode cX9_link 32 = .ok (.iconst (-1), 1) := by decide +kernel
theorem dX9_link_33 : decode cX9_link 33 = .ok (.ireturn, 1) := by decide +kernel
theorem dX9_link_34 : decode cX9_link 34 = .ok (.iload_n 2, 1) := by decide +kernel
theorem dX9_link_35 : decode cX9_link 35 = .ok (.iconst 0, 1) := by decide +kernel
theorem dX9_link_36 : decode cX9_link 36 = .ok (.bipush 9, 2) := by decide +kernel
theorem dX9_link_38 : decode cX9_link 38 = .ok (.invokestatic 82, 3) := by decide +kernel
theorem dX9_link_41 : decode cX9_link 41 = .ok (.ifCond .ne 6, 3) := by decide +kernel
theorem dX9_link_44 : decode cX9_link 44 = .ok (.bipush (-2), 2) := by decide +kernel
theorem dX9_link_46 : decode cX9_link 46 = .ok (.ireturn, 1) := by decide +kernel
theorem dX9_link_47 : decode cX9_link 47 = .ok (.aload 4, 2) := by decide +kernel
theorem dX9_link_49 : decode cX9_link 49 = .ok (.iload_n 2, 1) := by decide +kernel
theorem dX9_link_50 : decode cX9_link 50 = .ok (.invokevirtual 122, 3) := by decide +kernel
theorem dX9_link_53 : decode cX9_link 53 = .ok (.iconst (-1), 1) := by decide +kernel
theorem dX9_link_54 : decode cX9_link 54 = .ok (.if_icmp .ne 15, 3) := by decide +kernel
theorem dX9_link_57 : decode cX9_link 57 = .ok (.aload 4, 2) := by decide +kernel
theorem dX9_link_59 : decode cX9_link 59 = .ok (.invokevirtual 125, 3) := by decide +kernel
theorem dX9_link_62 : decode cX9_link 62 = .ok (.iconst 3, 1) := by decide +kernel
theorem dX9_link_63 : decode cX9_link 63 = .ok (.if_icmp .lt 6, 3) := by decide +kernel
theorem dX9_link_66 : decode cX9_link 66 = .ok (.bipush (-4), 2) := by decide +kernel
theorem dX9_link_68 : decode cX9_link 68 = .ok (.ireturn, 1) := by decide +kernel
theorem dX9_link_69 : decode cX9_link 69 = .ok (.aload_n 0, 1) := by decide +kernel
theorem dX9_link_70 : decode cX9_link 70 = .ok (.getfield 19, 3) := by decide +kernel
theorem dX9_link_73 : decode cX9_link 73 = .ok (.aload_n 0, 1) := by decide +kernel
theorem dX9_link_74 : decode cX9_link 74 = .ok (.getfield 10, 3) := by decide +kernel
theorem dX9_link_77 : decode cX9_link 77 = .ok (.invokevirtual 54, 3) := by decide +kernel
theorem dX9_link_80 : decode cX9_link 80 = .ok (.aload 4, 2) := by decide +kernel
theorem dX9_link_82 : decode cX9_link 82 = .ok (.iload_n 2, 1) := by decide +kernel
theorem dX9_link_83 : decode cX9_link 83 = .ok (.iload_n 3, 1) := by decide +kernel
theorem dX9_link_84 : decode cX9_link 84 = .ok (.invokevirtual 128, 3) := by decide +kernel
theorem dX9_link_87 : decode cX9_link 87 = .ok (.aload 4, 2) := by decide +kernel
theorem dX9_link_89 : decode cX9_link 89 = .ok (.invokevirtual 125, 3) := by decide +kernel
theorem dX9_link_92 : decode cX9_link 92 = .ok (.ireturn, 1) := by decide +kernel
theorem dX9_unlink_0 : decode cX9_unlink 0 = .ok (.aload_n 0, 1) := by decide +kernel
theorem dX9_unlink_1 : decode cX9_unlink 1 = .ok (.getfield 10, 3) := by decide +kernel
theorem dX9_unlink_4 : decode cX9_unlink 4 = .ok (.getfield 44, 3) := by decide +kernel
theorem dX9_unlink_7 : decode cX9_unlink 7 = .ok (.iload_n 1, 1) := by decide +kernel
theorem dX9_unlink_8 : decode cX9_unlink 8 = .ok (.invokevirtual 62, 3) := by decide +kernel
theorem dX9_unlink_11 : decode cX9_unlink 11 = .ok (.astore_n 3, 1) := by decide +kernel
theorem dX9_unlink_12 : decode cX9_unlink 12 = .ok (.aload_n 3, 1) := by decide +kernel
theorem dX9_unlink_13 : decode cX9_unlink 13 = .ok (.ifnull 12, 3) := by decide +kernel
theorem dX9_unlink_16 : decode cX9_unlink 16 = .ok (.aload_n 3, 1) := by decide +kernel
theorem dX9_unlink_17 : decode cX9_unlink 17 = .ok (.iload_n 2, 1) := by decide +kernel
theorem dX9_unlink_18 : decode cX9_unlink 18 = .ok (.invokevirtual 122, 3) := by decide +kernel
theorem dX9_unlink_21 : decode cX9_unlink 21 = .ok (.iconst (-1), 1) := by decide +kernel
theorem dX9_unlink_22 : decode cX9_unlink 22 = .ok (.if_icmp .ne 5, 3) := by decide +kernel
theorem dX9_unlink_25 : decode cX9_unlink 25 = .ok (.iconst (-1), 1) := by decide +kernel
theorem dX9_unlink_26 : decode cX9_unlink 26 = .ok (.ireturn, 1) := by decide +kernel
theorem dX9_unlink_27 : decode cX9_unlink 27 = .ok (.aload_n 0, 1) := by decide +kernel
theorem dX9_unlink_28 : decode cX9_unlink 28 = .ok (.getfield 19, 3) := by decide +kernel
theorem dX9_unlink_31 : decode cX9_unlink 31 = .ok (.aload_n 0, 1) := by decide +kernel
theorem dX9_unlink_32 : decode cX9_unlink 32 = .ok (.getfield 10, 3) := by decide +kernel
theorem dX9_unlink_35 : decode cX9_unlink 35 = .ok (.invokevirtual 54, 3) := by decide +kernel
theorem dX9_unlink_38 : decode cX9_unlink 38 = .ok (.aload_n 3, 1) := by decide +kernel
theorem dX9_unlink_39 : decode cX9_unlink 39 = .ok (.iload_n 2, 1) := by decide +kernel
theorem dX9_unlink_40 : decode cX9_unlink 40 = .ok (.iconst (-1), 1) := by decide +kernel
theorem dX9_unlink_41 : decode cX9_unlink 41 = .ok (.invokevirtual 128, 3) := by decide +kernel
theorem dX9_unlink_44 : decode cX9_unlink 44 = .ok (.aload_n 3, 1) := by decide +kernel
theorem dX9_unlink_45 : decode cX9_unlink 45 = .ok (.invokevirtual 125, 3) := by decide +kernel
theorem dX9_unlink_48 : decode cX9_unlink 48 = .ok (.ireturn, 1) := by decide +kernel
theorem dX9_note_0 : decode cX9_note 0 = .ok (.iload_n 1, 1) := by decide +kernel
theorem dX9_note_1 : decode cX9_note 1 = .ok (.iconst 0, 1) := by decide +kernel
theorem dX9_note_2 : decode cX9_note 2 = .ok (.sipush 9999, 3) := by decide +kernel
theorem dX9_note_5 : decode cX9_note 5 = .ok (.invokestatic 82, 3) := by decide +kernel
theorem dX9_note_8 : decode cX9_note 8 = .ok (.ifCond .eq 13, 3) := by decide +kernel
theorem dX9_note_11 : decode cX9_note 11 = .ok (.iload_n 2, 1) := by decide +kernel
theorem dX9_note_12 : decode cX9_note 12 = .ok (.iconst (-1), 1) := by decide +kernel
theorem dX9_note_13 : decode cX9_note 13 = .ok (.bipush 99, 2) := by decide +kernel
theorem dX9_note_15 : decode cX9_note 15 = .ok (.invokestatic 82, 3) := by decide +kernel
theorem dX9_note_18 : decode cX9_note 18 = .ok (.ifCond .ne 6, 3) := by decide +kernel
theorem dX9_note_21 : decode cX9_note 21 = .ok (.bipush (-2), 2) := by decide +kernel
theorem dX9_note_23 : decode cX9_note 23 = .ok (.ireturn, 1) := by decide +kernel
theorem dX9_note_24 : decode cX9_note 24 = .ok (.aload_n 0, 1) := by decide +kernel
theorem dX9_note_25 : decode cX9_note 25 = .ok (.getfield 10, 3) := by decide +kernel
theorem dX9_note_28 : decode cX9_note 28 = .ok (.getfield 131, 3) := by decide +kernel
theorem dX9_note_31 : decode cX9_note 31 = .ok (.iload_n 1, 1) := by decide +kernel
theorem dX9_note_32 : decode cX9_note 32 = .ok (.invokevirtual 135, 3) := by decide +kernel
theorem dX9_note_35 : decode cX9_note 35 = .ok (.istore_n 3, 1) := by decide +kernel
theorem dX9_note_36 : decode cX9_note 36 = .ok (.iload_n 2, 1) := by decide +kernel
theorem dX9_note_37 : decode cX9_note 37 = .ok (.iconst (-1), 1) := by decide +kernel
theorem dX9_note_38 : decode cX9_note 38 = .ok (.if_icmp .ne 10, 3) := by decide +kernel
theorem dX9_note_41 : decode cX9_note 41 = .ok (.iload_n 3, 1) := by decide +kernel
theorem dX9_note_42 : decode cX9_note 42 = .ok (.iconst (-1), 1) := by decide +kernel
theorem dX9_note_43 : decode cX9_note 43 = .ok (.if_icmp .ne 5, 3) := by decide +kernel
theorem dX9_note_46 : decode cX9_note 46 = .ok (.iconst (-1), 1) := by decide +kernel
theorem dX9_note_47 : decode cX9_note 47 = .ok (.ireturn, 1) := by decide +kernel
theorem dX9_note_48 : decode cX9_note 48 = .ok (.iload_n 3, 1) := by decide +kernel
theorem dX9_note_49 : decode cX9_note 49 = .ok (.iconst (-1), 1) := by decide +kernel
theorem dX9_note_50 : decode cX9_note 50 = .ok (.if_icmp .ne 21, 3) := by decide +kernel
theorem dX9_note_53 : decode cX9_note 53 = .ok (.aload_n 0, 1) := by decide +kernel
theorem dX9_note_54 : decode cX9_note 54 = .ok (.getfield 10, 3) := by decide +kernel
theorem dX9_note_57 : decode cX9_note 57 = .ok (.getfield 131, 3) := by decide +kernel
theorem dX9_note_60 : decode cX9_note 60 = .ok (.getfield 138, 3) := by decide +kernel
theorem dX9_note_63 : decode cX9_note 63 = .ok (.bipush 8, 2) := by decide +kernel
theorem dX9_note_65 : decode cX9_note 65 = .ok (.if_icmp .lt 6, 3) := by decide +kernel
theorem dX9_note_68 : decode cX9_note 68 = .ok (.bipush (-4), 2) := by decide +kernel
theorem dX9_note_70 : decode cX9_note 70 = .ok (.ireturn, 1) := by decide +kernel
theorem dX9_note_71 : decode cX9_note 71 = .ok (.aload_n 0, 1) := by decide +kernel
theorem dX9_note_72 : decode cX9_note 72 = .ok (.getfield 19, 3) := by decide +kernel
theorem dX9_note_75 : decode cX9_note 75 = .ok (.aload_n 0, 1) := by decide +kernel
theorem dX9_note_76 : decode cX9_note 76 = .ok (.getfield 10, 3) := by decide +kernel
theorem dX9_note_79 : decode cX9_note 79 = .ok (.invokevirtual 54, 3) := by decide +kernel
theorem dX9_note_82 : decode cX9_note 82 = .ok (.iload_n 2, 1) := by decide +kernel
theorem dX9_note_83 : decode cX9_note 83 = .ok (.iconst (-1), 1) := by decide +kernel
theorem dX9_note_84 : decode cX9_note 84 = .ok (.if_icmp .ne 17, 3) := by decide +kernel
theorem dX9_note_87 : decode cX9_note 87 = .ok (.aload_n 0, 1) := by decide +kernel
theorem dX9_note_88 : decode cX9_note 88 = .ok (.getfield 10, 3) := by decide +kernel
theorem dX9_note_91 : decode cX9_note 91 = .ok (.getfield 131, 3) := by decide +kernel
theorem dX9_note_94 : decode cX9_note 94 = .ok (.iload_n 3, 1) := by decide +kernel
theorem dX9_note_95 : decode cX9_note 95 = .ok (.invokevirtual 139, 3) := by decide +kernel
theorem dX9_note_98 : decode cX9_note 98 = .ok (.goto 16, 3) := by decide +kernel
theorem dX9_note_101 : decode cX9_note 101 = .ok (.aload_n 0, 1) := by decide +kernel
theorem dX9_note_102 : decode cX9_note 102 = .ok (.getfield 10, 3) := by decide +kernel
theorem dX9_note_105 : decode cX9_note 105 = .ok (.getfield 131, 3) := by decide +kernel
theorem dX9_note_108 : decode cX9_note 108 = .ok (.iload_n 3, 1) := by decide +kernel
theorem dX9_note_109 : decode cX9_note 109 = .ok (.iload_n 1, 1) := by decide +kernel
theorem dX9_note_110 : decode cX9_note 110 = .ok (.iload_n 2, 1) := by decide +kernel
theorem dX9_note_111 : decode cX9_note 111 = .ok (.invokevirtual 142, 3) := by decide +kernel
theorem dX9_note_114 : decode cX9_note 114 = .ok (.aload_n 0, 1) := by decide +kernel
theorem dX9_note_115 : decode cX9_note 115 = .ok (.getfield 10, 3) := by decide +kernel
theorem dX9_note_118 : decode cX9_note 118 = .ok (.getfield 131, 3) := by decide +kernel
theorem dX9_note_121 : decode cX9_note 121 = .ok (.getfield 138, 3) := by decide +kernel
theorem dX9_note_124 : decode cX9_note 124 = .ok (.ireturn, 1) := by decide +kernel
theorem dX9_setEnd_0 : decode cX9_setEnd 0 = .ok (.iload_n 1, 1) := by decide +kernel
theorem dX9_setEnd_1 : decode cX9_setEnd 1 = .ok (.iconst 0, 1) := by decide +kernel
theorem dX9_setEnd_2 : decode cX9_setEnd 2 = .ok (.sipush 9999, 3) := by decide +kernel
theorem dX9_setEnd_5 : decode cX9_setEnd 5 = .ok (.invokestatic 82, 3) := by decide +kernel
theorem dX9_setEnd_8 : decode cX9_setEnd 8 = .ok (.ifCond .ne 6, 3) := by decide +kernel
theorem dX9_setEnd_11 : decode cX9_setEnd 11 = .ok (.bipush (-2), 2) := by decide +kernel
theorem dX9_setEnd_13 : decode cX9_setEnd 13 = .ok (.ireturn, 1) := by decide +kernel
theorem dX9_setEnd_14 : decode cX9_setEnd 14 = .ok (.aload_n 0, 1) := by decide +kernel
theorem dX9_setEnd_15 : decode cX9_setEnd 15 = .ok (.getfield 19, 3) := by decide +kernel
theorem dX9_setEnd_18 : decode cX9_setEnd 18 = .ok (.aload_n 0, 1) := by decide +kernel
theorem dX9_setEnd_19 : decode cX9_setEnd 19 = .ok (.getfield 10, 3) := by decide +kernel
theorem dX9_setEnd_22 : decode cX9_setEnd 22 = .ok (.invokevirtual 54, 3) := by decide +kernel
theorem dX9_setEnd_25 : decode cX9_setEnd 25 = .ok (.aload_n 0, 1) := by decide +kernel
theorem dX9_setEnd_26 : decode cX9_setEnd 26 = .ok (.getfield 10, 3) := by decide +kernel
theorem dX9_setEnd_29 : decode cX9_setEnd 29 = .ok (.getfield 145, 3) := by decide +kernel
theorem dX9_setEnd_32 : decode cX9_setEnd 32 = .ok (.istore_n 2, 1) := by decide +kernel
theorem dX9_setEnd_33 : decode cX9_setEnd 33 = .ok (.aload_n 0, 1) := by decide +kernel
theorem dX9_setEnd_34 : decode cX9_setEnd 34 = .ok (.getfield 10, 3) := by decide +kernel
theorem dX9_setEnd_37 : decode cX9_setEnd 37 = .ok (.iload_n 1, 1) := by decide +kernel
theorem dX9_setEnd_38 : decode cX9_setEnd 38 = .ok (.putfield 145, 3) := by decide +kernel
theorem dX9_setEnd_41 : decode cX9_setEnd 41 = .ok (.iload_n 2, 1) := by decide +kernel
theorem dX9_setEnd_42 : decode cX9_setEnd 42 = .ok (.ireturn, 1) := by decide +kernel
theorem dX9_start_0 : decode cX9_start 0 = .ok (.aload_n 0, 1) := by decide +kernel
theorem dX9_start_1 : decode cX9_start 1 = .ok (.getfield 10, 3) := by decide +kernel
theorem dX9_start_4 : decode cX9_start 4 = .ok (.getfield 44, 3) := by decide +kernel
theorem dX9_start_7 : decode cX9_start 7 = .ok (.iconst (-1), 1) := by decide +kernel
theorem dX9_start_8 : decode cX9_start 8 = .ok (.invokevirtual 148, 3) := by decide +kernel
theorem dX9_start_11 : decode cX9_start 11 = .ok (.istore_n 1, 1) := by decide +kernel
theorem dX9_start_12 : decode cX9_start 12 = .ok (.iload_n 1, 1) := by decide +kernel
theorem dX9_start_13 : decode cX9_start 13 = .ok (.iconst (-1), 1) := by decide +kernel
theorem dX9_start_14 : decode cX9_start 14 = .ok (.if_icmp .ne 6, 3) := by decide +kernel
theorem dX9_start_17 : decode cX9_start 17 = .ok (.bipush (-5), 2) := by decide +kernel
theorem dX9_start_19 : decode cX9_start 19 = .ok (.ireturn, 1) := by decide +kernel
theorem dX9_start_20 : decode cX9_start 20 = .ok (.aload_n 0, 1) := by decide +kernel
theorem dX9_start_21 : decode cX9_start 21 = .ok (.getfield 19, 3) := by decide +kernel
theorem dX9_start_24 : decode cX9_start 24 = .ok (.aload_n 0, 1) := by decide +kernel
theorem dX9_start_25 : decode cX9_start 25 = .ok (.getfield 10, 3) := by decide +kernel
theorem dX9_start_28 : decode cX9_start 28 = .ok (.invokevirtual 54, 3) := by decide +kernel
theorem dX9_start_31 : decode cX9_start 31 = .ok (.aload_n 0, 1) := by decide +kernel
theorem dX9_start_32 : decode cX9_start 32 = .ok (.getfield 10, 3) := by decide +kernel
theorem dX9_start_35 : decode cX9_start 35 = .ok (.getfield 66, 3) := by decide +kernel
theorem dX9_start_38 : decode cX9_start 38 = .ok (.iload_n 1, 1) := by decide +kernel
theorem dX9_start_39 : decode cX9_start 39 = .ok (.invokevirtual 151, 3) := by decide +kernel
theorem dX9_start_42 : decode cX9_start 42 = .ok (.iload_n 1, 1) := by decide +kernel
theorem dX9_start_43 : decode cX9_start 43 = .ok (.ireturn, 1) := by decide +kernel
theorem dX9_stop_0 : decode cX9_stop 0 = .ok (.aload_n 0, 1) := by decide +kernel
theorem dX9_stop_1 : decode cX9_stop 1 = .ok (.getfield 10, 3) := by decide +kernel
theorem dX9_stop_4 : decode cX9_stop 4 = .ok (.invokevirtual 154, 3) := by decide +kernel
theorem dX9_stop_7 : decode cX9_stop 7 = .ok (.ifnonnull 6, 3) := by decide +kernel
theorem dX9_stop_10 : decode cX9_stop 10 = .ok (.bipush (-5), 2) := by decide +kernel
theorem dX9_stop_12 : decode cX9_stop 12 = .ok (.ireturn, 1) := by decide +kernel
theorem dX9_stop_13 : decode cX9_stop 13 = .ok (.aload_n 0, 1) := by decide +kernel
theorem dX9_stop_14 : decode cX9_stop 14 = .ok (.getfield 19, 3) := by decide +kernel
theorem dX9_stop_17 : decode cX9_stop 17 = .ok (.aload_n 0, 1) := by decide +kernel
theorem dX9_stop_18 : decode cX9_stop 18 = .ok (.getfield 10, 3) := by decide +kernel
theorem dX9_stop_21 : decode cX9_stop 21 = .ok (.invokevirtual 54, 3) := by decide +kernel
theorem dX9_stop_24 : decode cX9_stop 24 = .ok (.aload_n 0, 1) := by decide +kernel
theorem dX9_stop_25 : decode cX9_stop 25 = .ok (.getfield 10, 3) := by decide +kernel
theorem dX9_stop_28 : decode cX9_stop 28 = .ok (.getfield 66, 3) := by decide +kernel
theorem dX9_stop_31 : decode cX9_stop 31 = .ok (.getfield 158, 3) := by decide +kernel
theorem dX9_stop_34 : decode cX9_stop 34 = .ok (.istore_n 1, 1) := by decide +kernel
theorem dX9_stop_35 : decode cX9_stop 35 = .ok (.aload_n 0, 1) := by decide +kernel
theorem dX9_stop_36 : decode cX9_stop 36 = .ok (.getfield 10, 3) := by decide +kernel
theorem dX9_stop_39 : decode cX9_stop 39 = .ok (.getfield 66, 3) := by decide +kernel
theorem dX9_stop_42 : decode cX9_stop 42 = .ok (.invokevirtual 161, 3) := by decide +kernel
theorem dX9_stop_45 : decode cX9_stop 45 = .ok (.iload_n 1, 1) := by decide +kernel
theorem dX9_stop_46 : decode cX9_stop 46 = .ok (.ireturn, 1) := by decide +kernel
theorem dX9_forward_0 : decode cX9_forward 0 = .ok (.aload_n 0, 1) := by decide +kernel
theorem dX9_forward_1 : decode cX9_forward 1 = .ok (.getfield 10, 3) := by decide +kernel
theorem dX9_forward_4 : decode cX9_forward 4 = .ok (.bipush 102, 2) := by decide +kernel
theorem dX9_forward_6 : decode cX9_forward 6 = .ok (.iconst 0, 1) := by decide +kernel
theorem dX9_forward_7 : decode cX9_forward 7 = .ok (.invokevirtual 164, 3) := by decide +kernel
theorem dX9_forward_10 : decode cX9_forward 10 = .ok (.ifCond .ne 6, 3) := by decide +kernel
theorem dX9_forward_13 : decode cX9_forward 13 = .ok (.bipush (-5), 2) := by decide +kernel
theorem dX9_forward_15 : decode cX9_forward 15 = .ok (.ireturn, 1) := by decide +kernel
theorem dX9_forward_16 : decode cX9_forward 16 = .ok (.aload_n 0, 1) := by decide +kernel
theorem dX9_forward_17 : decode cX9_forward 17 = .ok (.getfield 19, 3) := by decide +kernel
theorem dX9_forward_20 : decode cX9_forward 20 = .ok (.aload_n 0, 1) := by decide +kernel
theorem dX9_forward_21 : decode cX9_forward 21 = .ok (.getfield 10, 3) := by decide +kernel
theorem dX9_forward_24 : decode cX9_forward 24 = .ok (.invokevirtual 54, 3) := by decide +kernel
theorem dX9_forward_27 : decode cX9_forward 27 = .ok (.aload_n 0, 1) := by decide +kernel
theorem dX9_forward_28 : decode cX9_forward 28 = .ok (.getfield 10, 3) := by decide +kernel
theorem dX9_forward_31 : decode cX9_forward 31 = .ok (.bipush 102, 2) := by decide +kernel
theorem dX9_forward_33 : decode cX9_forward 33 = .ok (.iconst 0, 1) := by decide +kernel
theorem dX9_forward_34 : decode cX9_forward 34 = .ok (.invokevirtual 168, 3) := by decide +kernel
theorem dX9_forward_37 : decode cX9_forward 37 = .ok (.aload_n 0, 1) := by decide +kernel
theorem dX9_forward_38 : decode cX9_forward 38 = .ok (.getfield 10, 3) := by decide +kernel
theorem dX9_forward_41 : decode cX9_forward 41 = .ok (.getfield 66, 3) := by decide +kernel
theorem dX9_forward_44 : decode cX9_forward 44 = .ok (.getfield 172, 3) := by decide +kernel
theorem dX9_forward_47 : decode cX9_forward 47 = .ok (.ireturn, 1) := by decide +kernel
theorem dX9_back_0 : decode cX9_back 0 = .ok (.aload_n 0, 1) := by decide +kernel
theorem dX9_back_1 : decode cX9_back 1 = .ok (.getfield 10, 3) := by decide +kernel
theorem dX9_back_4 : decode cX9_back 4 = .ok (.bipush 98, 2) := by decide +kernel
theorem dX9_back_6 : decode cX9_back 6 = .ok (.iconst 0, 1) := by decide +kernel
theorem dX9_back_7 : decode cX9_back 7 = .ok (.invokevirtual 164, 3) := by decide +kernel
theorem dX9_back_10 : decode cX9_back 10 = .ok (.ifCond .ne 6, 3) := by decide +kernel
theorem dX9_back_13 : decode cX9_back 13 = .ok (.bipush (-5), 2) := by decide +kernel
theorem dX9_back_15 : decode cX9_back 15 = .ok (.ireturn, 1) := by decide +kernel
theorem dX9_back_16 : decode cX9_back 16 = .ok (.aload_n 0, 1) := by decide +kernel
theorem dX9_back_17 : decode cX9_back 17 = .ok (.getfield 19, 3) := by decide +kernel
theorem dX9_back_20 : decode cX9_back 20 = .ok (.aload_n 0, 1) := by decide +kernel
theorem dX9_back_21 : decode cX9_back 21 = .ok (.getfield 10, 3) := by decide +kernel
theorem dX9_back_24 : decode cX9_back 24 = .ok (.invokevirtual 54, 3) := by decide +kernel
theorem dX9_back_27 : decode cX9_back 27 = .ok (.aload_n 0, 1) := by decide +kernel
theorem dX9_back_28 : decode cX9_back 28 = .ok (.getfield 10, 3) := by decide +kernel
theorem dX9_back_31 : decode cX9_back 31 = .ok (.bipush 98, 2) := by decide +kernel
theorem dX9_back_33 : decode cX9_back 33 = .ok (.iconst 0, 1) := by decide +kernel
theorem dX9_back_34 : decode cX9_back 34 = .ok (.invokevirtual 168, 3) := by decide +kernel
theorem dX9_back_37 : decode cX9_back 37 = .ok (.aload_n 0, 1) := by decide +kernel
theorem dX9_back_38 : decode cX9_back 38 = .ok (.getfield 10, 3) := by decide +kernel
theorem dX9_back_41 : decode cX9_back 41 = .ok (.getfield 66, 3) := by decide +kernel
theorem dX9_back_44 : decode cX9_back 44 = .ok (.getfield 172, 3) := by decide +kernel
theorem dX9_back_47 : decode cX9_back 47 = .ok (.ireturn, 1) := by decide +kernel
theorem dX9_press_0 : decode cX9_press 0 = .ok (.iload_n 1, 1) := by decide +kernel
theorem dX9_press_1 : decode cX9_press 1 = .ok (.iconst 0, 1) := by decide +kernel
theorem dX9_press_2 : decode cX9_press 2 = .ok (.bipush 9, 2) := by decide +kernel
theorem dX9_press_4 : decode cX9_press 4 = .ok (.invokestatic 82, 3) := by decide +kernel
theorem dX9_press_7 : decode cX9_press 7 = .ok (.ifCond .ne 6, 3) := by decide +kernel
theorem dX9_press_10 : decode cX9_press 10 = .ok (.bipush (-2), 2) := by decide +kernel
theorem dX9_press_12 : decode cX9_press 12 = .ok (.ireturn, 1) := by decide +kernel
theorem dX9_press_13 : decode cX9_press 13 = .ok (.aload_n 0, 1) := by decide +kernel
theorem dX9_press_14 : decode cX9_press 14 = .ok (.getfield 10, 3) := by decide +kernel
theorem dX9_press_17 : decode cX9_press 17 = .ok (.bipush 107, 2) := by decide +kernel
theorem dX9_press_19 : decode cX9_press 19 = .ok (.iload_n 1, 1) := by decide +kernel
theorem dX9_press_20 : decode cX9_press 20 = .ok (.invokevirtual 164, 3) := by decide +kernel
theorem dX9_press_23 : decode cX9_press 23 = .ok (.ifCond .ne 6, 3) := by decide +kernel
theorem dX9_press_26 : decode cX9_press 26 = .ok (.bipush (-5), 2) := by decide +kernel
theorem dX9_press_28 : decode cX9_press 28 = .ok (.ireturn, 1) := by decide +kernel
theorem dX9_press_29 : decode cX9_press 29 = .ok (.aload_n 0, 1) := by decide +kernel
theorem dX9_press_30 : decode cX9_press 30 = .ok (.getfield 19, 3) := by decide +kernel
theorem dX9_press_33 : decode cX9_press 33 = .ok (.aload_n 0, 1) := by decide +kernel
theorem dX9_press_34 : decode cX9_press 34 = .ok (.getfield 10, 3) := by decide +kernel
theorem dX9_press_37 : decode cX9_press 37 = .ok (.invokevirtual 54, 3) := by decide +kernel
theorem dX9_press_40 : decode cX9_press 40 = .ok (.aload_n 0, 1) := by decide +kernel
theorem dX9_press_41 : decode cX9_press 41 = .ok (.getfield 10, 3) := by decide +kernel
theorem dX9_press_44 : decode cX9_press 44 = .ok (.bipush 107, 2) := by decide +kernel
theorem dX9_press_46 : decode cX9_press 46 = .ok (.iload_n 1, 1) := by decide +kernel
theorem dX9_press_47 : decode cX9_press 47 = .ok (.invokevirtual 168, 3) := by decide +kernel
theorem dX9_press_50 : decode cX9_press 50 = .ok (.aload_n 0, 1) := by decide +kernel
theorem dX9_press_51 : decode cX9_press 51 = .ok (.getfield 10, 3) := by decide +kernel
theorem dX9_press_54 : decode cX9_press 54 = .ok (.getfield 66, 3) := by decide +kernel
theorem dX9_press_57 : decode cX9_press 57 = .ok (.getfield 70, 3) := by decide +kernel
theorem dX9_press_60 : decode cX9_press 60 = .ok (.ireturn, 1) := by decide +kernel
theorem dX9_tick_0 : decode cX9_tick 0 = .ok (.iload_n 1, 1) := by decide +kernel
theorem dX9_tick_1 : decode cX9_tick 1 = .ok (.iconst 1, 1) := by decide +kernel
theorem dX9_tick_2 : decode cX9_tick 2 = .ok (.bipush 99, 2) := by decide +kernel
theorem dX9_tick_4 : decode cX9_tick 4 = .ok (.invokestatic 82, 3) := by decide +kernel
theorem dX9_tick_7 : decode cX9_tick 7 = .ok (.ifCond .ne 6, 3) := by decide +kernel
theorem dX9_tick_10 : decode cX9_tick 10 = .ok (.bipush (-2), 2) := by decide +kernel
theorem dX9_tick_12 : decode cX9_tick 12 = .ok (.ireturn, 1) := by decide +kernel
theorem dX9_tick_13 : decode cX9_tick 13 = .ok (.aload_n 0, 1) := by decide +kernel
theorem dX9_tick_14 : decode cX9_tick 14 = .ok (.getfield 10, 3) := by decide +kernel
theorem dX9_tick_17 : decode cX9_tick 17 = .ok (.bipush 116, 2) := by decide +kernel
theorem dX9_tick_19 : decode cX9_tick 19 = .ok (.iload_n 1, 1) := by decide +kernel
theorem dX9_tick_20 : decode cX9_tick 20 = .ok (.invokevirtual 164, 3) := by decide +kernel
theorem dX9_tick_23 : decode cX9_tick 23 = .ok (.ifCond .ne 6, 3) := by decide +kernel
theorem dX9_tick_26 : decode cX9_tick 26 = .ok (.bipush (-5), 2) := by decide +kernel
theorem dX9_tick_28 : decode cX9_tick 28 = .ok (.ireturn, 1) := by decide +kernel
theorem dX9_tick_29 : decode cX9_tick 29 = .ok (.aload_n 0, 1) := by decide +kernel
theorem dX9_tick_30 : decode cX9_tick 30 = .ok (.getfield 19, 3) := by decide +kernel
theorem dX9_tick_33 : decode cX9_tick 33 = .ok (.aload_n 0, 1) := by decide +kernel
theorem dX9_tick_34 : decode cX9_tick 34 = .ok (.getfield 10, 3) := by decide +kernel
theorem dX9_tick_37 : decode cX9_tick 37 = .ok (.invokevirtual 54, 3) := by decide +kernel
theorem dX9_tick_40 : decode cX9_tick 40 = .ok (.aload_n 0, 1) := by decide +kernel
theorem dX9_tick_41 : decode cX9_tick 41 = .ok (.getfield 10, 3) := by decide +kernel
theorem dX9_tick_44 : decode cX9_tick 44 = .ok (.iload_n 1, 1) := by decide +kernel
theorem dX9_tick_45 : decode cX9_tick 45 = .ok (.invokevirtual 175, 3) := by decide +kernel
theorem dX9_tick_48 : decode cX9_tick 48 = .ok (.ireturn, 1) := by decide +kernel
theorem dX9_undo_0 : decode cX9_undo 0 = .ok (.aload_n 0, 1) := by decide +kernel
theorem dX9_undo_1 : decode cX9_undo 1 = .ok (.getfield 19, 3) := by decide +kernel
theorem dX9_undo_4 : decode cX9_undo 4 = .ok (.getfield 212, 3) := by decide +kernel
theorem dX9_undo_7 : decode cX9_undo 7 = .ok (.ifCond .ne 6, 3) := by decide +kernel
theorem dX9_undo_10 : decode cX9_undo 10 = .ok (.bipush (-6), 2) := by decide +kernel
theorem dX9_undo_12 : decode cX9_undo 12 = .ok (.ireturn, 1) := by decide +kernel
theorem dX9_undo_13 : decode cX9_undo 13 = .ok (.aload_n 0, 1) := by decide +kernel
theorem dX9_undo_14 : decode cX9_undo 14 = .ok (.getfield 19, 3) := by decide +kernel
theorem dX9_undo_17 : decode cX9_undo 17 = .ok (.aload_n 0, 1) := by decide +kernel
theorem dX9_undo_18 : decode cX9_undo 18 = .ok (.getfield 10, 3) := by decide +kernel
theorem dX9_undo_21 : decode cX9_undo 21 = .ok (.invokevirtual 213, 3) := by decide +kernel
theorem dX9_undo_24 : decode cX9_undo 24 = .ok (.aload_n 0, 1) := by decide +kernel
theorem dX9_undo_25 : decode cX9_undo 25 = .ok (.getfield 19, 3) := by decide +kernel
theorem dX9_undo_28 : decode cX9_undo 28 = .ok (.getfield 212, 3) := by decide +kernel
theorem dX9_undo_31 : decode cX9_undo 31 = .ok (.ireturn, 1) := by decide +kernel
theorem dX9_slides_0 : decode cX9_slides 0 = .ok (.aload_n 0, 1) := by decide +kernel
theorem dX9_slides_1 : decode cX9_slides 1 = .ok (.getfield 10, 3) := by decide +kernel
theorem dX9_slides_4 : decode cX9_slides 4 = .ok (.getfield 44, 3) := by decide +kernel
theorem dX9_slides_7 : decode cX9_slides 7 = .ok (.getfield 79, 3) := by decide +kernel
theorem dX9_slides_10 : decode cX9_slides 10 = .ok (.ireturn, 1) := by decide +kernel
theorem dX9_slideAt_0 : decode cX9_slideAt 0 = .ok (.iload_n 1, 1) := by decide +kernel
theorem dX9_slideAt_1 : decode cX9_slideAt 1 = .ok (.ifCond .ge 6, 3) := by decide +kernel
theorem dX9_slideAt_4 : decode cX9_slideAt 4 = .ok (.bipush (-2), 2) := by decide +kernel
theorem dX9_slideAt_6 : decode cX9_slideAt 6 = .ok (.ireturn, 1) := by decide +kernel
theorem dX9_slideAt_7 : decode cX9_slideAt 7 = .ok (.aload_n 0, 1) := by decide +kernel
theorem dX9_slideAt_8 : decode cX9_slideAt 8 = .ok (.getfield 10, 3) := by decide +kernel
theorem dX9_slideAt_11 : decode cX9_slideAt 11 = .ok (.getfield 44, 3) := by decide +kernel
theorem dX9_slideAt_14 : decode cX9_slideAt 14 = .ok (.iload_n 1, 1) := by decide +kernel
theorem dX9_slideAt_15 : decode cX9_slideAt 15 = .ok (.invokevirtual 216, 3) := by decide +kernel
theorem dX9_slideAt_18 : decode cX9_slideAt 18 = .ok (.istore_n 2, 1) := by decide +kernel
theorem dX9_slideAt_19 : decode cX9_slideAt 19 = .ok (.iload_n 2, 1) := by decide +kernel
theorem dX9_slideAt_20 : decode cX9_slideAt 20 = .ok (.iconst (-1), 1) := by decide +kernel
theorem dX9_slideAt_21 : decode cX9_slideAt 21 = .ok (.if_icmp .ne 8, 3) := by decide +kernel
theorem dX9_slideAt_24 : decode cX9_slideAt 24 = .ok (.bipush (-6), 2) := by decide +kernel
theorem dX9_slideAt_26 : decode cX9_slideAt 26 = .ok (.goto 4, 3) := by decide +kernel
theorem dX9_slideAt_29 : decode cX9_slideAt 29 = .ok (.iload_n 2, 1) := by decide +kernel
theorem dX9_slideAt_30 : decode cX9_slideAt 30 = .ok (.ireturn, 1) := by decide +kernel
theorem dX9_slide_0 : decode cX9_slide 0 = .ok (.aload_n 0, 1) := by decide +kernel
theorem dX9_slide_1 : decode cX9_slide 1 = .ok (.getfield 10, 3) := by decide +kernel
theorem dX9_slide_4 : decode cX9_slide 4 = .ok (.getfield 44, 3) := by decide +kernel
theorem dX9_slide_7 : decode cX9_slide 7 = .ok (.iload_n 1, 1) := by decide +kernel
theorem dX9_slide_8 : decode cX9_slide 8 = .ok (.invokevirtual 62, 3) := by decide +kernel
theorem dX9_slide_11 : decode cX9_slide 11 = .ok (.astore_n 3, 1) := by decide +kernel
theorem dX9_slide_12 : decode cX9_slide 12 = .ok (.aload_n 3, 1) := by decide +kernel
theorem dX9_slide_13 : decode cX9_slide 13 = .ok (.ifnonnull 5, 3) := by decide +kernel
theorem dX9_slide_16 : decode cX9_slide 16 = .ok (.iconst (-1), 1) := by decide +kernel
theorem dX9_slide_17 : decode cX9_slide 17 = .ok (.ireturn, 1) := by decide +kernel
theorem dX9_slide_18 : decode cX9_slide 18 = .ok (.iload_n 2, 1) := by decide +kernel
theorem dX9_slide_19 : decode cX9_slide 19 = .ok (.tableswitch 77 0 5 #[37, 49, 57, 62, 67, 72], 37) := by decide +kernel
theorem dX9_slide_56 : decode cX9_slide 56 = .ok (.aload_n 0, 1) := by decide +kernel
theorem dX9_slide_57 : decode cX9_slide 57 = .ok (.getfield 10, 3) := by decide +kernel
theorem dX9_slide_60 : decode cX9_slide 60 = .ok (.getfield 44, 3) := by decide +kernel
theorem dX9_slide_63 : decode cX9_slide 63 = .ok (.iload_n 1, 1) := by decide +kernel
theorem dX9_slide_64 : decode cX9_slide 64 = .ok (.invokevirtual 86, 3) := by decide +kernel
theorem dX9_slide_67 : decode cX9_slide 67 = .ok (.ireturn, 1) := by decide +kernel
theorem dX9_slide_68 : decode cX9_slide 68 = .ok (.aload_n 3, 1) := by decide +kernel
theorem dX9_slide_69 : decode cX9_slide 69 = .ok (.getfield 97, 3) := by decide +kernel
theorem dX9_slide_72 : decode cX9_slide 72 = .ok (.invokestatic 219, 3) := by decide +kernel
theorem dX9_slide_75 : decode cX9_slide 75 = .ok (.ireturn, 1) := by decide +kernel
theorem dX9_slide_76 : decode cX9_slide 76 = .ok (.aload_n 3, 1) := by decide +kernel
theorem dX9_slide_77 : decode cX9_slide 77 = .ok (.getfield 106, 3) := by decide +kernel
theorem dX9_slide_80 : decode cX9_slide 80 = .ok (.ireturn, 1) := by decide +kernel
theorem dX9_slide_81 : decode cX9_slide 81 = .ok (.aload_n 3, 1) := by decide +kernel
theorem dX9_slide_82 : decode cX9_slide 82 = .ok (.getfield 109, 3) := by decide +kernel
theorem dX9_slide_85 : decode cX9_slide 85 = .ok (.ireturn, 1) := by decide +kernel
theorem dX9_slide_86 : decode cX9_slide 86 = .ok (.aload_n 3, 1) := by decide +kernel
theorem dX9_slide_87 : decode cX9_slide 87 = .ok (.invokevirtual 223, 3) := by decide +kernel
theorem dX9_slide_90 : decode cX9_slide 90 = .ok (.ireturn, 1) := by decide +kernel
theorem dX9_slide_91 : decode cX9_slide 91 = .ok (.aload_n 3, 1) := by decide +kernel
theorem dX9_slide_92 : decode cX9_slide 92 = .ok (.invokevirtual 125, 3) := by decide +kernel
theorem dX9_slide_95 : decode cX9_slide 95 = .ok (.ireturn, 1) := by decide +kernel
theorem dX9_slide_96 : decode cX9_slide 96 = .ok (.bipush (-2), 2) := by decide +kernel
theorem dX9_slide_98 : decode cX9_slide 98 = .ok (.ireturn, 1) := by decide +kernel
theorem dX9_target_0 : decode cX9_target 0 = .ok (.aload_n 0, 1) := by decide +kernel
theorem dX9_target_1 : decode cX9_target 1 = .ok (.getfield 10, 3) := by decide +kernel
theorem dX9_target_4 : decode cX9_target 4 = .ok (.getfield 44, 3) := by decide +kernel
theorem dX9_target_7 : decode cX9_target 7 = .ok (.iload_n 1, 1) := by decide +kernel
theorem dX9_target_8 : decode cX9_target 8 = .ok (.invokevirtual 62, 3) := by decide +kernel
theorem dX9_target_11 : decode cX9_target 11 = .ok (.astore_n 3, 1) := by decide +kernel
theorem dX9_target_12 : decode cX9_target 12 = .ok (.aload_n 3, 1) := by decide +kernel
theorem dX9_target_13 : decode cX9_target 13 = .ok (.ifnonnull 5, 3) := by decide +kernel
theorem dX9_target_16 : decode cX9_target 16 = .ok (.iconst (-1), 1) := by decide +kernel
theorem dX9_target_17 : decode cX9_target 17 = .ok (.ireturn, 1) := by decide +kernel
theorem dX9_target_18 : decode cX9_target 18 = .ok (.iload_n 2, 1) := by decide +kernel
theorem dX9_target_19 : decode cX9_target 19 = .ok (.iconst 0, 1) := by decide +kernel
theorem dX9_target_20 : decode cX9_target 20 = .ok (.bipush 9, 2) := by decide +kernel
theorem dX9_target_22 : decode cX9_target 22 = .ok (.invokestatic 82, 3) := by decide +kernel
theorem dX9_target_25 : decode cX9_target 25 = .ok (.ifCond .ne 6, 3) := by decide +kernel
theorem dX9_target_28 : decode cX9_target 28 = .ok (.bipush (-2), 2) := by decide +kernel
theorem dX9_target_30 : decode cX9_target 30 = .ok (.ireturn, 1) := by decide +kernel
theorem dX9_target_31 : decode cX9_target 31 = .ok (.aload_n 3, 1) := by decide +kernel
theorem dX9_target_32 : decode cX9_target 32 = .ok (.iload_n 2, 1) := by decide +kernel
theorem dX9_target_33 : decode cX9_target 33 = .ok (.invokevirtual 122, 3) := by decide +kernel
theorem dX9_target_36 : decode cX9_target 36 = .ok (.istore 4, 2) := by decide +kernel
theorem dX9_target_38 : decode cX9_target 38 = .ok (.iload 4, 2) := by decide +kernel
theorem dX9_target_40 : decode cX9_target 40 = .ok (.iconst (-1), 1) := by decide +kernel
theorem dX9_target_41 : decode cX9_target 41 = .ok (.if_icmp .ne 8, 3) := by decide +kernel
theorem dX9_target_44 : decode cX9_target 44 = .ok (.bipush (-6), 2) := by decide +kernel
theorem dX9_target_46 : decode cX9_target 46 = .ok (.goto 5, 3) := by decide +kernel
theorem dX9_target_49 : decode cX9_target 49 = .ok (.iload 4, 2) := by decide +kernel
theorem dX9_target_51 : decode cX9_target 51 = .ok (.ireturn, 1) := by decide +kernel
theorem dX9_picture_0 : decode cX9_picture 0 = .ok (.aload_n 0, 1) := by decide +kernel
theorem dX9_picture_1 : decode cX9_picture 1 = .ok (.getfield 10, 3) := by decide +kernel
theorem dX9_picture_4 : decode cX9_picture 4 = .ok (.getfield 44, 3) := by decide +kernel
theorem dX9_picture_7 : decode cX9_picture 7 = .ok (.iload_n 1, 1) := by decide +kernel
theorem dX9_picture_8 : decode cX9_picture 8 = .ok (.invokevirtual 62, 3) := by decide +kernel
theorem dX9_picture_11 : decode cX9_picture 11 = .ok (.astore_n 3, 1) := by decide +kernel
theorem dX9_picture_12 : decode cX9_picture 12 = .ok (.aload_n 3, 1) := by decide +kernel
theorem dX9_picture_13 : decode cX9_picture 13 = .ok (.ifnonnull 5, 3) := by decide +kernel
theorem dX9_picture_16 : decode cX9_picture 16 = .ok (.iconst (-1), 1) := by decide +kernel
theorem dX9_picture_17 : decode cX9_picture 17 = .ok (.ireturn, 1) := by decide +kernel
theorem dX9_picture_18 : decode cX9_picture 18 = .ok (.iload_n 2, 1) := by decide +kernel
theorem dX9_picture_19 : decode cX9_picture 19 = .ok (.iconst 0, 1) := by decide +kernel
theorem dX9_picture_20 : decode cX9_picture 20 = .ok (.bipush 9, 2) := by decide +kernel
theorem dX9_picture_22 : decode cX9_picture 22 = .ok (.invokestatic 82, 3) := by decide +kernel
theorem dX9_picture_25 : decode cX9_picture 25 = .ok (.ifCond .eq 11, 3) := by decide +kernel
theorem dX9_picture_28 : decode cX9_picture 28 = .ok (.aload_n 3, 1) := by decide +kernel
theorem dX9_picture_29 : decode cX9_picture 29 = .ok (.iload_n 2, 1) := by decide +kernel
theorem dX9_picture_30 : decode cX9_picture 30 = .ok (.invokevirtual 236, 3) := by decide +kernel
theorem dX9_picture_33 : decode cX9_picture 33 = .ok (.goto 5, 3) := by decide +kernel
theorem dX9_picture_36 : decode cX9_picture 36 = .ok (.bipush (-2), 2) := by decide +kernel
theorem dX9_picture_38 : decode cX9_picture 38 = .ok (.ireturn, 1) := by decide +kernel
theorem dX9_now_0 : decode cX9_now 0 = .ok (.iload_n 1, 1) := by decide +kernel
theorem dX9_now_1 : decode cX9_now 1 = .ok (.iconst 0, 1) := by decide +kernel
theorem dX9_now_2 : decode cX9_now 2 = .ok (.bipush 6, 2) := by decide +kernel
theorem dX9_now_4 : decode cX9_now 4 = .ok (.invokestatic 82, 3) := by decide +kernel
theorem dX9_now_7 : decode cX9_now 7 = .ok (.ifCond .ne 6, 3) := by decide +kernel
theorem dX9_now_10 : decode cX9_now 10 = .ok (.bipush (-2), 2) := by decide +kernel
theorem dX9_now_12 : decode cX9_now 12 = .ok (.ireturn, 1) := by decide +kernel
theorem dX9_now_13 : decode cX9_now 13 = .ok (.aload_n 0, 1) := by decide +kernel
theorem dX9_now_14 : decode cX9_now 14 = .ok (.getfield 10, 3) := by decide +kernel
theorem dX9_now_17 : decode cX9_now 17 = .ok (.invokevirtual 154, 3) := by decide +kernel
theorem dX9_now_20 : decode cX9_now 20 = .ok (.ifnonnull 6, 3) := by decide +kernel
theorem dX9_now_23 : decode cX9_now 23 = .ok (.bipush (-6), 2) := by decide +kernel
theorem dX9_now_25 : decode cX9_now 25 = .ok (.ireturn, 1) := by decide +kernel
theorem dX9_now_26 : decode cX9_now 26 = .ok (.iload_n 1, 1) := by decide +kernel
theorem dX9_now_27 : decode cX9_now 27 = .ok (.tableswitch 103 0 5 #[37, 48, 59, 70, 81, 92], 37) := by decide +kernel
theorem dX9_now_64 : decode cX9_now 64 = .ok (.aload_n 0, 1) := by decide +kernel
theorem dX9_now_65 : decode cX9_now 65 = .ok (.getfield 10, 3) := by decide +kernel
theorem dX9_now_68 : decode cX9_now 68 = .ok (.getfield 66, 3) := by decide +kernel
theorem dX9_now_71 : decode cX9_now 71 = .ok (.getfield 70, 3) := by decide +kernel
theorem dX9_now_74 : decode cX9_now 74 = .ok (.ireturn, 1) := by decide +kernel
theorem dX9_now_75 : decode cX9_now 75 = .ok (.aload_n 0, 1) := by decide +kernel
theorem dX9_now_76 : decode cX9_now 76 = .ok (.getfield 10, 3) := by decide +kernel
theorem dX9_now_79 : decode cX9_now 79 = .ok (.getfield 66, 3) := by decide +kernel
theorem dX9_now_82 : decode cX9_now 82 = .ok (.getfield 172, 3) := by decide +kernel
theorem dX9_now_85 : decode cX9_now 85 = .ok (.ireturn, 1) := by decide +kernel
theorem dX9_now_86 : decode cX9_now 86 = .ok (.aload_n 0, 1) := by decide +kernel
theorem dX9_now_87 : decode cX9_now 87 = .ok (.getfield 10, 3) := by decide +kernel
theorem dX9_now_90 : decode cX9_now 90 = .ok (.getfield 66, 3) := by decide +kernel
theorem dX9_now_93 : decode cX9_now 93 = .ok (.getfield 158, 3) := by decide +kernel
theorem dX9_now_96 : decode cX9_now 96 = .ok (.ireturn, 1) := by decide +kernel
theorem dX9_now_97 : decode cX9_now 97 = .ok (.aload_n 0, 1) := by decide +kernel
theorem dX9_now_98 : decode cX9_now 98 = .ok (.getfield 10, 3) := by decide +kernel
theorem dX9_now_101 : decode cX9_now 101 = .ok (.getfield 66, 3) := by decide +kernel
theorem dX9_now_104 : decode cX9_now 104 = .ok (.getfield 239, 3) := by decide +kernel
theorem dX9_now_107 : decode cX9_now 107 = .ok (.ireturn, 1) := by decide +kernel
theorem dX9_now_108 : decode cX9_now 108 = .ok (.aload_n 0, 1) := by decide +kernel
theorem dX9_now_109 : decode cX9_now 109 = .ok (.getfield 10, 3) := by decide +kernel
theorem dX9_now_112 : decode cX9_now 112 = .ok (.getfield 66, 3) := by decide +kernel
theorem dX9_now_115 : decode cX9_now 115 = .ok (.getfield 242, 3) := by decide +kernel
theorem dX9_now_118 : decode cX9_now 118 = .ok (.ireturn, 1) := by decide +kernel
theorem dX9_now_119 : decode cX9_now 119 = .ok (.aload_n 0, 1) := by decide +kernel
theorem dX9_now_120 : decode cX9_now 120 = .ok (.getfield 10, 3) := by decide +kernel
theorem dX9_now_123 : decode cX9_now 123 = .ok (.invokevirtual 245, 3) := by decide +kernel
theorem dX9_now_126 : decode cX9_now 126 = .ok (.invokestatic 219, 3) := by decide +kernel
theorem dX9_now_129 : decode cX9_now 129 = .ok (.ireturn, 1) := by decide +kernel
theorem dX9_now_130 : decode cX9_now 130 = .ok (.aload_n 0, 1) := by decide +kernel
theorem dX9_now_131 : decode cX9_now 131 = .ok (.getfield 10, 3) := by decide +kernel
theorem dX9_now_134 : decode cX9_now 134 = .ok (.getfield 66, 3) := by decide +kernel
theorem dX9_now_137 : decode cX9_now 137 = .ok (.getfield 249, 3) := by decide +kernel
theorem dX9_now_140 : decode cX9_now 140 = .ok (.ireturn, 1) := by decide +kernel
theorem dX9_trail_0 : decode cX9_trail 0 = .ok (.iload_n 1, 1) := by decide +kernel
theorem dX9_trail_1 : decode cX9_trail 1 = .ok (.ifCond .lt 12, 3) := by decide +kernel
theorem dX9_trail_4 : decode cX9_trail 4 = .ok (.iload_n 2, 1) := by decide +kernel
theorem dX9_trail_5 : decode cX9_trail 5 = .ok (.iconst 0, 1) := by decide +kernel
theorem dX9_trail_6 : decode cX9_trail 6 = .ok (.iconst 2, 1) := by decide +kernel
theorem dX9_trail_7 : decode cX9_trail 7 = .ok (.invokestatic 82, 3) := by decide +kernel
theorem dX9_trail_10 : decode cX9_trail 10 = .ok (.ifCond .ne 6, 3) := by decide +kernel
theorem dX9_trail_13 : decode cX9_trail 13 = .ok (.bipush (-2), 2) := by decide +kernel
theorem dX9_trail_15 : decode cX9_trail 15 = .ok (.ireturn, 1) := by decide +kernel
theorem dX9_trail_16 : decode cX9_trail 16 = .ok (.aload_n 0, 1) := by decide +kernel
theorem dX9_trail_17 : decode cX9_trail 17 = .ok (.getfield 10, 3) := by decide +kernel
theorem dX9_trail_20 : decode cX9_trail 20 = .ok (.invokevirtual 154, 3) := by decide +kernel
theorem dX9_trail_23 : decode cX9_trail 23 = .ok (.ifnull 17, 3) := by decide +kernel
theorem dX9_trail_26 : decode cX9_trail 26 = .ok (.iload_n 1, 1) := by decide +kernel
theorem dX9_trail_27 : decode cX9_trail 27 = .ok (.aload_n 0, 1) := by decide +kernel
theorem dX9_trail_28 : decode cX9_trail 28 = .ok (.getfield 10, 3) := by decide +kernel
theorem dX9_trail_31 : decode cX9_trail 31 = .ok (.getfield 66, 3) := by decide +kernel
theorem dX9_trail_34 : decode cX9_trail 34 = .ok (.getfield 242, 3) := by decide +kernel
theorem dX9_trail_37 : decode cX9_trail 37 = .ok (.if_icmp .lt 6, 3) := by decide +kernel
theorem dX9_trail_40 : decode cX9_trail 40 = .ok (.bipush (-6), 2) := by decide +kernel
theorem dX9_trail_42 : decode cX9_trail 42 = .ok (.ireturn, 1) := by decide +kernel
theorem dX9_trail_43 : decode cX9_trail 43 = .ok (.aload_n 0, 1) := by decide +kernel
theorem dX9_trail_44 : decode cX9_trail 44 = .ok (.getfield 10, 3) := by decide +kernel
theorem dX9_trail_47 : decode cX9_trail 47 = .ok (.getfield 66, 3) := by decide +kernel
theorem dX9_trail_50 : decode cX9_trail 50 = .ok (.aload_n 0, 1) := by decide +kernel
theorem dX9_trail_51 : decode cX9_trail 51 = .ok (.getfield 10, 3) := by decide +kernel
theorem dX9_trail_54 : decode cX9_trail 54 = .ok (.getfield 66, 3) := by decide +kernel
theorem dX9_trail_57 : decode cX9_trail 57 = .ok (.getfield 242, 3) := by decide +kernel
theorem dX9_trail_60 : decode cX9_trail 60 = .ok (.iconst 1, 1) := by decide +kernel
theorem dX9_trail_61 : decode cX9_trail 61 = .ok (.isub, 1) := by decide +kernel
theorem dX9_trail_62 : decode cX9_trail 62 = .ok (.iload_n 1, 1) := by decide +kernel
theorem dX9_trail_63 : decode cX9_trail 63 = .ok (.isub, 1) := by decide +kernel
theorem dX9_trail_64 : decode cX9_trail 64 = .ok (.iload_n 2, 1) := by decide +kernel
theorem dX9_trail_65 : decode cX9_trail 65 = .ok (.invokevirtual 252, 3) := by decide +kernel
theorem dX9_trail_68 : decode cX9_trail 68 = .ok (.ireturn, 1) := by decide +kernel
theorem dX9_labels_0 : decode cX9_labels 0 = .ok (.aload_n 0, 1) := by decide +kernel
theorem dX9_labels_1 : decode cX9_labels 1 = .ok (.getfield 10, 3) := by decide +kernel
theorem dX9_labels_4 : decode cX9_labels 4 = .ok (.invokevirtual 154, 3) := by decide +kernel
theorem dX9_labels_7 : decode cX9_labels 7 = .ok (.astore_n 1, 1) := by decide +kernel
theorem dX9_labels_8 : decode cX9_labels 8 = .ok (.aload_n 1, 1) := by decide +kernel
theorem dX9_labels_9 : decode cX9_labels 9 = .ok (.ifnonnull 8, 3) := by decide +kernel
theorem dX9_labels_12 : decode cX9_labels 12 = .ok (.bipush (-6), 2) := by decide +kernel
theorem dX9_labels_14 : decode cX9_labels 14 = .ok (.goto 17, 3) := by decide +kernel
theorem dX9_labels_17 : decode cX9_labels 17 = .ok (.aload_n 1, 1) := by decide +kernel
theorem dX9_labels_18 : decode cX9_labels 18 = .ok (.aload_n 0, 1) := by decide +kernel
theorem dX9_labels_19 : decode cX9_labels 19 = .ok (.getfield 10, 3) := by decide +kernel
theorem dX9_labels_22 : decode cX9_labels 22 = .ok (.getfield 66, 3) := by decide +kernel
theorem dX9_labels_25 : decode cX9_labels 25 = .ok (.getfield 172, 3) := by decide +kernel
theorem dX9_labels_28 : decode cX9_labels 28 = .ok (.invokevirtual 256, 3) := by decide +kernel
theorem dX9_labels_31 : decode cX9_labels 31 = .ok (.ireturn, 1) := by decide +kernel
theorem dX9_noteNow_0 : decode cX9_noteNow 0 = .ok (.aload_n 0, 1) := by decide +kernel
theorem dX9_noteNow_1 : decode cX9_noteNow 1 = .ok (.getfield 10, 3) := by decide +kernel
theorem dX9_noteNow_4 : decode cX9_noteNow 4 = .ok (.invokevirtual 154, 3) := by decide +kernel
theorem dX9_noteNow_7 : decode cX9_noteNow 7 = .ok (.ifnonnull 8, 3) := by decide +kernel
theorem dX9_noteNow_10 : decode cX9_noteNow 10 = .ok (.bipush (-6), 2) := by decide +kernel
theorem dX9_noteNow_12 : decode cX9_noteNow 12 = .ok (.goto 23, 3) := by decide +kernel
theorem dX9_noteNow_15 : decode cX9_noteNow 15 = .ok (.aload_n 0, 1) := by decide +kernel
theorem dX9_noteNow_16 : decode cX9_noteNow 16 = .ok (.getfield 10, 3) := by decide +kernel
theorem dX9_noteNow_19 : decode cX9_noteNow 19 = .ok (.getfield 131, 3) := by decide +kernel
theorem dX9_noteNow_22 : decode cX9_noteNow 22 = .ok (.aload_n 0, 1) := by decide +kernel
theorem dX9_noteNow_23 : decode cX9_noteNow 23 = .ok (.getfield 10, 3) := by decide +kernel
theorem dX9_noteNow_26 : decode cX9_noteNow 26 = .ok (.getfield 66, 3) := by decide +kernel
theorem dX9_noteNow_29 : decode cX9_noteNow 29 = .ok (.getfield 158, 3) := by decide +kernel
theorem dX9_noteNow_32 : decode cX9_noteNow 32 = .ok (.invokevirtual 259, 3) := by decide +kernel
theorem dX9_noteNow_35 : decode cX9_noteNow 35 = .ok (.ireturn, 1) := by decide +kernel
theorem dX9_end_0 : decode cX9_end 0 = .ok (.aload_n 0, 1) := by decide +kernel
theorem dX9_end_1 : decode cX9_end 1 = .ok (.getfield 10, 3) := by decide +kernel
theorem dX9_end_4 : decode cX9_end 4 = .ok (.getfield 145, 3) := by decide +kernel
theorem dX9_end_7 : decode cX9_end 7 = .ok (.ireturn, 1) := by decide +kernel
theorem dX9_meanSteps_0 : decode cX9_meanSteps 0 = .ok (.aload_n 0, 1) := by decide +kernel
theorem dX9_meanSteps_1 : decode cX9_meanSteps 1 = .ok (.getfield 10, 3) := by decide +kernel
theorem dX9_meanSteps_4 : decode cX9_meanSteps 4 = .ok (.getfield 44, 3) := by decide +kernel
theorem dX9_meanSteps_7 : decode cX9_meanSteps 7 = .ok (.getfield 79, 3) := by decide +kernel
theorem dX9_meanSteps_10 : decode cX9_meanSteps 10 = .ok (.istore_n 1, 1) := by decide +kernel
theorem dX9_meanSteps_11 : decode cX9_meanSteps 11 = .ok (.iload_n 1, 1) := by decide +kernel
theorem dX9_meanSteps_12 : decode cX9_meanSteps 12 = .ok (.ifCond .gt 7, 3) := by decide +kernel
theorem dX9_meanSteps_15 : decode cX9_meanSteps 15 = .ok (.fconst 0, 1) := by decide +kernel
theorem dX9_meanSteps_16 : decode cX9_meanSteps 16 = .ok (.goto 17, 3) := by decide +kernel
theorem dX9_meanSteps_19 : decode cX9_meanSteps 19 = .ok (.aload_n 0, 1) := by decide +kernel
theorem dX9_meanSteps_20 : decode cX9_meanSteps 20 = .ok (.getfield 10, 3) := by decide +kernel
theorem dX9_meanSteps_23 : decode cX9_meanSteps 23 = .ok (.getfield 44, 3) := by decide +kernel
theorem dX9_meanSteps_26 : decode cX9_meanSteps 26 = .ok (.invokevirtual 262, 3) := by decide +kernel
theorem dX9_meanSteps_29 : decode cX9_meanSteps 29 = .ok (.i2f, 1) := by decide +kernel
theorem dX9_meanSteps_30 : decode cX9_meanSteps 30 = .ok (.iload_n 1, 1) := by decide +kernel
theorem dX9_meanSteps_31 : decode cX9_meanSteps 31 = .ok (.i2f, 1) := by decide +kernel
theorem dX9_meanSteps_32 : decode cX9_meanSteps 32 = .ok (.fdiv, 1) := by decide +kernel
theorem dX9_meanSteps_33 : decode cX9_meanSteps 33 = .ok (.freturn, 1) := by decide +kernel
theorem dX9_movesLeft_0 : decode cX9_movesLeft 0 = .ok (.aload_n 0, 1) := by decide +kernel
theorem dX9_movesLeft_1 : decode cX9_movesLeft 1 = .ok (.getfield 40, 3) := by decide +kernel
theorem dX9_movesLeft_4 : decode cX9_movesLeft 4 = .ok (.aload_n 0, 1) := by decide +kernel
theorem dX9_movesLeft_5 : decode cX9_movesLeft 5 = .ok (.getfield 10, 3) := by decide +kernel
theorem dX9_movesLeft_8 : decode cX9_movesLeft 8 = .ok (.invokevirtual 265, 3) := by decide +kernel
theorem dX9_movesLeft_11 : decode cX9_movesLeft 11 = .ok (.ireturn, 1) := by decide +kernel
theorem dX9_fewest_0 : decode cX9_fewest 0 = .ok (.aload_n 0, 1) := by decide +kernel
theorem dX9_fewest_1 : decode cX9_fewest 1 = .ok (.getfield 10, 3) := by decide +kernel
theorem dX9_fewest_4 : decode cX9_fewest 4 = .ok (.getfield 44, 3) := by decide +kernel
theorem dX9_fewest_7 : decode cX9_fewest 7 = .ok (.iload_n 1, 1) := by decide +kernel
theorem dX9_fewest_8 : decode cX9_fewest 8 = .ok (.invokevirtual 62, 3) := by decide +kernel
theorem dX9_fewest_11 : decode cX9_fewest 11 = .ok (.ifnonnull 7, 3) := by decide +kernel
theorem dX9_fewest_14 : decode cX9_fewest 14 = .ok (.iconst (-1), 1) := by decide +kernel
theorem dX9_fewest_15 : decode cX9_fewest 15 = .ok (.goto 15, 3) := by decide +kernel
theorem dX9_fewest_18 : decode cX9_fewest 18 = .ok (.aload_n 0, 1) := by decide +kernel
theorem dX9_fewest_19 : decode cX9_fewest 19 = .ok (.getfield 40, 3) := by decide +kernel
theorem dX9_fewest_22 : decode cX9_fewest 22 = .ok (.aload_n 0, 1) := by decide +kernel
theorem dX9_fewest_23 : decode cX9_fewest 23 = .ok (.getfield 10, 3) := by decide +kernel
theorem dX9_fewest_26 : decode cX9_fewest 26 = .ok (.iload_n 1, 1) := by decide +kernel
theorem dX9_fewest_27 : decode cX9_fewest 27 = .ok (.invokevirtual 269, 3) := by decide +kernel
theorem dX9_fewest_30 : decode cX9_fewest 30 = .ok (.ireturn, 1) := by decide +kernel
theorem dX9_secondsLeft_0 : decode cX9_secondsLeft 0 = .ok (.aload_n 0, 1) := by decide +kernel
theorem dX9_secondsLeft_1 : decode cX9_secondsLeft 1 = .ok (.getfield 40, 3) := by decide +kernel
theorem dX9_secondsLeft_4 : decode cX9_secondsLeft 4 = .ok (.aload_n 0, 1) := by decide +kernel
theorem dX9_secondsLeft_5 : decode cX9_secondsLeft 5 = .ok (.getfield 10, 3) := by decide +kernel
theorem dX9_secondsLeft_8 : decode cX9_secondsLeft 8 = .ok (.invokevirtual 273, 3) := by decide +kernel
theorem dX9_secondsLeft_11 : decode cX9_secondsLeft 11 = .ok (.ireturn, 1) := by decide +kernel
theorem dX9_backTo_0 : decode cX9_backTo 0 = .ok (.aload_n 0, 1) := by decide +kernel
theorem dX9_backTo_1 : decode cX9_backTo 1 = .ok (.getfield 10, 3) := by decide +kernel
theorem dX9_backTo_4 : decode cX9_backTo 4 = .ok (.bipush 98, 2) := by decide +kernel
theorem dX9_backTo_6 : decode cX9_backTo 6 = .ok (.iconst 0, 1) := by decide +kernel
theorem dX9_backTo_7 : decode cX9_backTo 7 = .ok (.invokevirtual 164, 3) := by decide +kernel
theorem dX9_backTo_10 : decode cX9_backTo 10 = .ok (.ifCond .eq 24, 3) := by decide +kernel
theorem dX9_backTo_13 : decode cX9_backTo 13 = .ok (.aload_n 0, 1) := by decide +kernel
theorem dX9_backTo_14 : decode cX9_backTo 14 = .ok (.getfield 10, 3) := by decide +kernel
theorem dX9_backTo_17 : decode cX9_backTo 17 = .ok (.getfield 66, 3) := by decide +kernel
theorem dX9_backTo_20 : decode cX9_backTo 20 = .ok (.aload_n 0, 1) := by decide +kernel
theorem dX9_backTo_21 : decode cX9_backTo 21 = .ok (.getfield 10, 3) := by decide +kernel
theorem dX9_backTo_24 : decode cX9_backTo 24 = .ok (.invokevirtual 276, 3) := by decide +kernel
theorem dX9_backTo_27 : decode cX9_backTo 27 = .ok (.iconst 0, 1) := by decide +kernel
theorem dX9_backTo_28 : decode cX9_backTo 28 = .ok (.invokevirtual 252, 3) := by decide +kernel
theorem dX9_backTo_31 : decode cX9_backTo 31 = .ok (.goto 5, 3) := by decide +kernel
theorem dX9_backTo_34 : decode cX9_backTo 34 = .ok (.bipush (-6), 2) := by decide +kernel
theorem dX9_backTo_36 : decode cX9_backTo 36 = .ok (.ireturn, 1) := by decide +kernel
theorem dX9_isWithin_0 : decode cX9_isWithin 0 = .ok (.iload_n 0, 1) := by decide +kernel
theorem dX9_isWithin_1 : decode cX9_isWithin 1 = .ok (.iload_n 1, 1) := by decide +kernel
theorem dX9_isWithin_2 : decode cX9_isWithin 2 = .ok (.if_icmp .lt 12, 3) := by decide +kernel
theorem dX9_isWithin_5 : decode cX9_isWithin 5 = .ok (.iload_n 0, 1) := by decide +kernel
theorem dX9_isWithin_6 : decode cX9_isWithin 6 = .ok (.iload_n 2, 1) := by decide +kernel
theorem dX9_isWithin_7 : decode cX9_isWithin 7 = .ok (.if_icmp .gt 7, 3) := by decide +kernel
theorem dX9_isWithin_10 : decode cX9_isWithin 10 = .ok (.iconst 1, 1) := by decide +kernel
theorem dX9_isWithin_11 : decode cX9_isWithin 11 = .ok (.goto 4, 3) := by decide +kernel
theorem dX9_isWithin_14 : decode cX9_isWithin 14 = .ok (.iconst 0, 1) := by decide +kernel
theorem dX9_isWithin_15 : decode cX9_isWithin 15 = .ok (.ireturn, 1) := by decide +kernel
theorem dX9_asNumber_0 : decode cX9_asNumber 0 = .ok (.iload_n 0, 1) := by decide +kernel
theorem dX9_asNumber_1 : decode cX9_asNumber 1 = .ok (.ifCond .eq 7, 3) := by decide +kernel
theorem dX9_asNumber_4 : decode cX9_asNumber 4 = .ok (.iconst 1, 1) := by decide +kernel
theorem dX9_asNumber_5 : decode cX9_asNumber 5 = .ok (.goto 4, 3) := by decide +kernel
theorem dX9_asNumber_8 : decode cX9_asNumber 8 = .ok (.iconst 0, 1) := by decide +kernel
theorem dX9_asNumber_9 : decode cX9_asNumber 9 = .ok (.ireturn, 1) := by decide +kernel
