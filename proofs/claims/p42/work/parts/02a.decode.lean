theorem dX0_init_0 : decode cX0_init 0 = .ok (.aload_n 0, 1) := by decide +kernel
theorem dX0_init_1 : decode cX0_init 1 = .ok (.invokespecial 3, 3) := by decide +kernel
theorem dX0_init_4 : decode cX0_init 4 = .ok (.aload_n 0, 1) := by decide +kernel
theorem dX0_init_5 : decode cX0_init 5 = .ok (.bipush 10, 2) := by decide +kernel
theorem dX0_init_7 : decode cX0_init 7 = .ok (.newarray .int, 2) := by decide +kernel
theorem dX0_init_9 : decode cX0_init 9 = .ok (.putfield 9, 3) := by decide +kernel
theorem dX0_init_12 : decode cX0_init 12 = .ok (.aload_n 0, 1) := by decide +kernel
theorem dX0_init_13 : decode cX0_init 13 = .ok (.bipush 10, 2) := by decide +kernel
theorem dX0_init_15 : decode cX0_init 15 = .ok (.anewarray 15, 3) := by decide +kernel
theorem dX0_init_18 : decode cX0_init 18 = .ok (.putfield 17, 3) := by decide +kernel
theorem dX0_init_21 : decode cX0_init 21 = .ok (.iconst 0, 1) := by decide +kernel
theorem dX0_init_22 : decode cX0_init 22 = .ok (.istore_n 1, 1) := by decide +kernel
theorem dX0_init_23 : decode cX0_init 23 = .ok (.iload_n 1, 1) := by decide +kernel
theorem dX0_init_24 : decode cX0_init 24 = .ok (.aload_n 0, 1) := by decide +kernel
theorem dX0_init_25 : decode cX0_init 25 = .ok (.getfield 17, 3) := by decide +kernel
theorem dX0_init_28 : decode cX0_init 28 = .ok (.arraylength, 1) := by decide +kernel
theorem dX0_init_29 : decode cX0_init 29 = .ok (.if_icmp .ge 28, 3) := by decide +kernel
theorem dX0_init_32 : decode cX0_init 32 = .ok (.new 15, 3) := by decide +kernel
theorem dX0_init_35 : decode cX0_init 35 = .ok (.dup, 1) := by decide +kernel
theorem dX0_init_36 : decode cX0_init 36 = .ok (.invokespecial 21, 3) := by decide +kernel
theorem dX0_init_39 : decode cX0_init 39 = .ok (.astore_n 2, 1) := by decide +kernel
theorem dX0_init_40 : decode cX0_init 40 = .ok (.aload_n 2, 1) := by decide +kernel
theorem dX0_init_41 : decode cX0_init 41 = .ok (.invokevirtual 22, 3) := by decide +kernel
theorem dX0_init_44 : decode cX0_init 44 = .ok (.aload_n 0, 1) := by decide +kernel
theorem dX0_init_45 : decode cX0_init 45 = .ok (.getfield 17, 3) := by decide +kernel
theorem dX0_init_48 : decode cX0_init 48 = .ok (.iload_n 1, 1) := by decide +kernel
theorem dX0_init_49 : decode cX0_init 49 = .ok (.aload_n 2, 1) := by decide +kernel
theorem dX0_init_50 : decode cX0_init 50 = .ok (.aastore, 1) := by decide +kernel
theorem dX0_init_51 : decode cX0_init 51 = .ok (.iinc 1 1, 3) := by decide +kernel
theorem dX0_init_54 : decode cX0_init 54 = .ok (.goto (-31), 3) := by decide +kernel
theorem dX0_init_57 : decode cX0_init 57 = .ok (.return_, 1) := by decide +kernel
theorem dX0_copyFrom_0 : decode cX0_copyFrom 0 = .ok (.aload_n 0, 1) := by decide +kernel
theorem dX0_copyFrom_1 : decode cX0_copyFrom 1 = .ok (.aload_n 1, 1) := by decide +kernel
theorem dX0_copyFrom_2 : decode cX0_copyFrom 2 = .ok (.getfield 25, 3) := by decide +kernel
theorem dX0_copyFrom_5 : decode cX0_copyFrom 5 = .ok (.putfield 25, 3) := by decide +kernel
theorem dX0_copyFrom_8 : decode cX0_copyFrom 8 = .ok (.aload_n 1, 1) := by decide +kernel
theorem dX0_copyFrom_9 : decode cX0_copyFrom 9 = .ok (.getfield 9, 3) := by decide +kernel
theorem dX0_copyFrom_12 : decode cX0_copyFrom 12 = .ok (.iconst 0, 1) := by decide +kernel
theorem dX0_copyFrom_13 : decode cX0_copyFrom 13 = .ok (.aload_n 0, 1) := by decide +kernel
theorem dX0_copyFrom_14 : decode cX0_copyFrom 14 = .ok (.getfield 9, 3) := by decide +kernel
theorem dX0_copyFrom_17 : decode cX0_copyFrom 17 = .ok (.iconst 0, 1) := by decide +kernel
theorem dX0_copyFrom_18 : decode cX0_copyFrom 18 = .ok (.bipush 10, 2) := by decide +kernel
theorem dX0_copyFrom_20 : decode cX0_copyFrom 20 = .ok (.invokestatic 29, 3) := by decide +kernel
theorem dX0_copyFrom_23 : decode cX0_copyFrom 23 = .ok (.iconst 0, 1) := by decide +kernel
theorem dX0_copyFrom_24 : decode cX0_copyFrom 24 = .ok (.istore_n 2, 1) := by decide +kernel
theorem dX0_copyFrom_25 : decode cX0_copyFrom 25 = .ok (.iload_n 2, 1) := by decide +kernel
theorem dX0_copyFrom_26 : decode cX0_copyFrom 26 = .ok (.bipush 10, 2) := by decide +kernel
theorem dX0_copyFrom_28 : decode cX0_copyFrom 28 = .ok (.if_icmp .ge 24, 3) := by decide +kernel
theorem dX0_copyFrom_31 : decode cX0_copyFrom 31 = .ok (.aload_n 0, 1) := by decide +kernel
theorem dX0_copyFrom_32 : decode cX0_copyFrom 32 = .ok (.getfield 17, 3) := by decide +kernel
theorem dX0_copyFrom_35 : decode cX0_copyFrom 35 = .ok (.iload_n 2, 1) := by decide +kernel
theorem dX0_copyFrom_36 : decode cX0_copyFrom 36 = .ok (.aaload, 1) := by decide +kernel
theorem dX0_copyFrom_37 : decode cX0_copyFrom 37 = .ok (.aload_n 1, 1) := by decide +kernel
theorem dX0_copyFrom_38 : decode cX0_copyFrom 38 = .ok (.getfield 17, 3) := by decide +kernel
theorem dX0_copyFrom_41 : decode cX0_copyFrom 41 = .ok (.iload_n 2, 1) := by decide +kernel
theorem dX0_copyFrom_42 : decode cX0_copyFrom 42 = .ok (.aaload, 1) := by decide +kernel
theorem dX0_copyFrom_43 : decode cX0_copyFrom 43 = .ok (.invokevirtual 35, 3) := by decide +kernel
theorem dX0_copyFrom_46 : decode cX0_copyFrom 46 = .ok (.iinc 2 1, 3) := by decide +kernel
theorem dX0_copyFrom_49 : decode cX0_copyFrom 49 = .ok (.goto (-24), 3) := by decide +kernel
theorem dX0_copyFrom_52 : decode cX0_copyFrom 52 = .ok (.return_, 1) := by decide +kernel
theorem dX0_find_0 : decode cX0_find 0 = .ok (.iload_n 1, 1) := by decide +kernel
theorem dX0_find_1 : decode cX0_find 1 = .ok (.ifCond .lt 9, 3) := by decide +kernel
theorem dX0_find_4 : decode cX0_find 4 = .ok (.iload_n 1, 1) := by decide +kernel
theorem dX0_find_5 : decode cX0_find 5 = .ok (.bipush 10, 2) := by decide +kernel
theorem dX0_find_7 : decode cX0_find 7 = .ok (.if_icmp .lt 5, 3) := by decide +kernel
theorem dX0_find_10 : decode cX0_find 10 = .ok (.aconst_null, 1) := by decide +kernel
theorem dX0_find_11 : decode cX0_find 11 = .ok (.areturn, 1) := by decide +kernel
theorem dX0_find_12 : decode cX0_find 12 = .ok (.aload_n 0, 1) := by decide +kernel
theorem dX0_find_13 : decode cX0_find 13 = .ok (.getfield 17, 3) := by decide +kernel
theorem dX0_find_16 : decode cX0_find 16 = .ok (.iload_n 1, 1) := by decide +kernel
theorem dX0_find_17 : decode cX0_find 17 = .ok (.aaload, 1) := by decide +kernel
theorem dX0_find_18 : decode cX0_find 18 = .ok (.astore_n 2, 1) := by decide +kernel
theorem dX0_find_19 : decode cX0_find 19 = .ok (.aload_n 2, 1) := by decide +kernel
theorem dX0_find_20 : decode cX0_find 20 = .ok (.getfield 39, 3) := by decide +kernel
theorem dX0_find_23 : decode cX0_find 23 = .ok (.ifCond .eq 7, 3) := by decide +kernel
theorem dX0_find_26 : decode cX0_find 26 = .ok (.aload_n 2, 1) := by decide +kernel
theorem dX0_find_27 : decode cX0_find 27 = .ok (.goto 4, 3) := by decide +kernel
theorem dX0_find_30 : decode cX0_find 30 = .ok (.aconst_null, 1) := by decide +kernel
theorem dX0_find_31 : decode cX0_find 31 = .ok (.areturn, 1) := by decide +kernel
theorem dX0_lowestFree_0 : decode cX0_lowestFree 0 = .ok (.iconst 0, 1) := by decide +kernel
theorem dX0_lowestFree_1 : decode cX0_lowestFree 1 = .ok (.istore_n 1, 1) := by decide +kernel
theorem dX0_lowestFree_2 : decode cX0_lowestFree 2 = .ok (.iload_n 1, 1) := by decide +kernel
theorem dX0_lowestFree_3 : decode cX0_lowestFree 3 = .ok (.bipush 10, 2) := by decide +kernel
theorem dX0_lowestFree_5 : decode cX0_lowestFree 5 = .ok (.if_icmp .ge 23, 3) := by decide +kernel
theorem dX0_lowestFree_8 : decode cX0_lowestFree 8 = .ok (.aload_n 0, 1) := by decide +kernel
theorem dX0_lowestFree_9 : decode cX0_lowestFree 9 = .ok (.getfield 17, 3) := by decide +kernel
theorem dX0_lowestFree_12 : decode cX0_lowestFree 12 = .ok (.iload_n 1, 1) := by decide +kernel
theorem dX0_lowestFree_13 : decode cX0_lowestFree 13 = .ok (.aaload, 1) := by decide +kernel
theorem dX0_lowestFree_14 : decode cX0_lowestFree 14 = .ok (.getfield 39, 3) := by decide +kernel
theorem dX0_lowestFree_17 : decode cX0_lowestFree 17 = .ok (.ifCond .ne 5, 3) := by decide +kernel
theorem dX0_lowestFree_20 : decode cX0_lowestFree 20 = .ok (.iload_n 1, 1) := by decide +kernel
theorem dX0_lowestFree_21 : decode cX0_lowestFree 21 = .ok (.ireturn, 1) := by decide +kernel
theorem dX0_lowestFree_22 : decode cX0_lowestFree 22 = .ok (.iinc 1 1, 3) := by decide +kernel
theorem dX0_lowestFree_25 : decode cX0_lowestFree 25 = .ok (.goto (-23), 3) := by decide +kernel
theorem dX0_lowestFree_28 : decode cX0_lowestFree 28 = .ok (.iconst (-1), 1) := by decide +kernel
theorem dX0_lowestFree_29 : decode cX0_lowestFree 29 = .ok (.ireturn, 1) := by decide +kernel
theorem dX0_putSlide_0 : decode cX0_putSlide 0 = .ok (.iload_n 1, 1) := by decide +kernel
theorem dX0_putSlide_1 : decode cX0_putSlide 1 = .ok (.iconst 0, 1) := by decide +kernel
theorem dX0_putSlide_2 : decode cX0_putSlide 2 = .ok (.bipush 9, 2) := by decide +kernel
theorem dX0_putSlide_4 : decode cX0_putSlide 4 = .ok (.invokestatic 43, 3) := by decide +kernel
theorem dX0_putSlide_7 : decode cX0_putSlide 7 = .ok (.ifCond .eq 22, 3) := by decide +kernel
theorem dX0_putSlide_10 : decode cX0_putSlide 10 = .ok (.aload_n 0, 1) := by decide +kernel
theorem dX0_putSlide_11 : decode cX0_putSlide 11 = .ok (.getfield 17, 3) := by decide +kernel
theorem dX0_putSlide_14 : decode cX0_putSlide 14 = .ok (.iload_n 1, 1) := by decide +kernel
theorem dX0_putSlide_15 : decode cX0_putSlide 15 = .ok (.aaload, 1) := by decide +kernel
theorem dX0_putSlide_16 : decode cX0_putSlide 16 = .ok (.iconst 1, 1) := by decide +kernel
theorem dX0_putSlide_17 : decode cX0_putSlide 17 = .ok (.putfield 39, 3) := by decide +kernel
theorem dX0_putSlide_20 : decode cX0_putSlide 20 = .ok (.aload_n 0, 1) := by decide +kernel
theorem dX0_putSlide_21 : decode cX0_putSlide 21 = .ok (.iload_n 1, 1) := by decide +kernel
theorem dX0_putSlide_22 : decode cX0_putSlide 22 = .ok (.aload_n 0, 1) := by decide +kernel
theorem dX0_putSlide_23 : decode cX0_putSlide 23 = .ok (.getfield 25, 3) := by decide +kernel
theorem dX0_putSlide_26 : decode cX0_putSlide 26 = .ok (.invokevirtual 47, 3) := by decide +kernel
theorem dX0_putSlide_29 : decode cX0_putSlide 29 = .ok (.return_, 1) := by decide +kernel
theorem dX0_dropSlide_0 : decode cX0_dropSlide 0 = .ok (.aload_n 0, 1) := by decide +kernel
theorem dX0_dropSlide_1 : decode cX0_dropSlide 1 = .ok (.iload_n 1, 1) := by decide +kernel
theorem dX0_dropSlide_2 : decode cX0_dropSlide 2 = .ok (.invokevirtual 51, 3) := by decide +kernel
theorem dX0_dropSlide_5 : decode cX0_dropSlide 5 = .ok (.astore_n 2, 1) := by decide +kernel
theorem dX0_dropSlide_6 : decode cX0_dropSlide 6 = .ok (.aload_n 2, 1) := by decide +kernel
theorem dX0_dropSlide_7 : decode cX0_dropSlide 7 = .ok (.ifnonnull 4, 3) := by decide +kernel
theorem dX0_dropSlide_10 : decode cX0_dropSlide 10 = .ok (.return_, 1) := by decide +kernel
theorem dX0_dropSlide_11 : decode cX0_dropSlide 11 = .ok (.aload_n 2, 1) := by decide +kernel
theorem dX0_dropSlide_12 : decode cX0_dropSlide 12 = .ok (.invokevirtual 22, 3) := by decide +kernel
theorem dX0_dropSlide_15 : decode cX0_dropSlide 15 = .ok (.aload_n 0, 1) := by decide +kernel
theorem dX0_dropSlide_16 : decode cX0_dropSlide 16 = .ok (.iload_n 1, 1) := by decide +kernel
theorem dX0_dropSlide_17 : decode cX0_dropSlide 17 = .ok (.invokevirtual 55, 3) := by decide +kernel
theorem dX0_dropSlide_20 : decode cX0_dropSlide 20 = .ok (.aload_n 0, 1) := by decide +kernel
theorem dX0_dropSlide_21 : decode cX0_dropSlide 21 = .ok (.getfield 17, 3) := by decide +kernel
theorem dX0_dropSlide_24 : decode cX0_dropSlide 24 = .ok (.astore_n 3, 1) := by decide +kernel
theorem dX0_dropSlide_25 : decode cX0_dropSlide 25 = .ok (.aload_n 3, 1) := by decide +kernel
theorem dX0_dropSlide_26 : decode cX0_dropSlide 26 = .ok (.arraylength, 1) := by decide +kernel
theorem dX0_dropSlide_27 : decode cX0_dropSlide 27 = .ok (.istore 4, 2) := by decide +kernel
theorem dX0_dropSlide_29 : decode cX0_dropSlide 29 = .ok (.iconst 0, 1) := by decide +kernel
theorem dX0_dropSlide_30 : decode cX0_dropSlide 30 = .ok (.istore 5, 2) := by decide +kernel
theorem dX0_dropSlide_32 : decode cX0_dropSlide 32 = .ok (.iload 5, 2) := by decide +kernel
theorem dX0_dropSlide_34 : decode cX0_dropSlide 34 = .ok (.iload 4, 2) := by decide +kernel
theorem dX0_dropSlide_36 : decode cX0_dropSlide 36 = .ok (.if_icmp .ge 21, 3) := by decide +kernel
theorem dX0_dropSlide_39 : decode cX0_dropSlide 39 = .ok (.aload_n 3, 1) := by decide +kernel
theorem dX0_dropSlide_40 : decode cX0_dropSlide 40 = .ok (.iload 5, 2) := by decide +kernel
theorem dX0_dropSlide_42 : decode cX0_dropSlide 42 = .ok (.aaload, 1) := by decide +kernel
theorem dX0_dropSlide_43 : decode cX0_dropSlide 43 = .ok (.astore 6, 2) := by decide +kernel
theorem dX0_dropSlide_45 : decode cX0_dropSlide 45 = .ok (.aload 6, 2) := by decide +kernel
theorem dX0_dropSlide_47 : decode cX0_dropSlide 47 = .ok (.iload_n 1, 1) := by decide +kernel
theorem dX0_dropSlide_48 : decode cX0_dropSlide 48 = .ok (.invokevirtual 59, 3) := by decide +kernel
theorem dX0_dropSlide_51 : decode cX0_dropSlide 51 = .ok (.iinc 5 1, 3) := by decide +kernel
theorem dX0_dropSlide_54 : decode cX0_dropSlide 54 = .ok (.goto (-22), 3) := by decide +kernel
theorem dX0_dropSlide_57 : decode cX0_dropSlide 57 = .ok (.return_, 1) := by decide +kernel
theorem dX0_putInOrder_0 : decode cX0_putInOrder 0 = .ok (.aload_n 0, 1) := by decide +kernel
theorem dX0_putInOrder_1 : decode cX0_putInOrder 1 = .ok (.getfield 25, 3) := by decide +kernel
theorem dX0_putInOrder_4 : decode cX0_putInOrder 4 = .ok (.bipush 10, 2) := by decide +kernel
theorem dX0_putInOrder_6 : decode cX0_putInOrder 6 = .ok (.if_icmp .ge 15, 3) := by decide +kernel
theorem dX0_putInOrder_9 : decode cX0_putInOrder 9 = .ok (.iload_n 2, 1) := by decide +kernel
theorem dX0_putInOrder_10 : decode cX0_putInOrder 10 = .ok (.iconst 0, 1) := by decide +kernel
theorem dX0_putInOrder_11 : decode cX0_putInOrder 11 = .ok (.aload_n 0, 1) := by decide +kernel
theorem dX0_putInOrder_12 : decode cX0_putInOrder 12 = .ok (.getfield 25, 3) := by decide +kernel
theorem dX0_putInOrder_15 : decode cX0_putInOrder 15 = .ok (.invokestatic 43, 3) := by decide +kernel
theorem dX0_putInOrder_18 : decode cX0_putInOrder 18 = .ok (.ifCond .ne 4, 3) := by decide +kernel
theorem dX0_putInOrder_21 : decode cX0_putInOrder 21 = .ok (.return_, 1) := by decide +kernel
theorem dX0_putInOrder_22 : decode cX0_putInOrder 22 = .ok (.aload_n 0, 1) := by decide +kernel
theorem dX0_putInOrder_23 : decode cX0_putInOrder 23 = .ok (.getfield 25, 3) := by decide +kernel
theorem dX0_putInOrder_26 : decode cX0_putInOrder 26 = .ok (.istore_n 3, 1) := by decide +kernel
theorem dX0_putInOrder_27 : decode cX0_putInOrder 27 = .ok (.iload_n 3, 1) := by decide +kernel
theorem dX0_putInOrder_28 : decode cX0_putInOrder 28 = .ok (.iload_n 2, 1) := by decide +kernel
theorem dX0_putInOrder_29 : decode cX0_putInOrder 29 = .ok (.if_icmp .le 23, 3) := by decide +kernel
theorem dX0_putInOrder_32 : decode cX0_putInOrder 32 = .ok (.aload_n 0, 1) := by decide +kernel
theorem dX0_putInOrder_33 : decode cX0_putInOrder 33 = .ok (.getfield 9, 3) := by decide +kernel
theorem dX0_putInOrder_36 : decode cX0_putInOrder 36 = .ok (.iload_n 3, 1) := by decide +kernel
theorem dX0_putInOrder_37 : decode cX0_putInOrder 37 = .ok (.aload_n 0, 1) := by decide +kernel
theorem dX0_putInOrder_38 : decode cX0_putInOrder 38 = .ok (.getfield 9, 3) := by decide +kernel
theorem dX0_putInOrder_41 : decode cX0_putInOrder 41 = .ok (.iload_n 3, 1) := by decide +kernel
theorem dX0_putInOrder_42 : decode cX0_putInOrder 42 = .ok (.iconst 1, 1) := by decide +kernel
theorem dX0_putInOrder_43 : decode cX0_putInOrder 43 = .ok (.isub, 1) := by decide +kernel
theorem dX0_putInOrder_44 : decode cX0_putInOrder 44 = .ok (.iaload, 1) := by decide +kernel
theorem dX0_putInOrder_45 : decode cX0_putInOrder 45 = .ok (.iastore, 1) := by decide +kernel
theorem dX0_putInOrder_46 : decode cX0_putInOrder 46 = .ok (.iinc 3 (-1), 3) := by decide +kernel
theorem dX0_putInOrder_49 : decode cX0_putInOrder 49 = .ok (.goto (-22), 3) := by decide +kernel
theorem dX0_putInOrder_52 : decode cX0_putInOrder 52 = .ok (.aload_n 0, 1) := by decide +kernel
theorem dX0_putInOrder_53 : decode cX0_putInOrder 53 = .ok (.getfield 9, 3) := by decide +kernel
theorem dX0_putInOrder_56 : decode cX0_putInOrder 56 = .ok (.iload_n 2, 1) := by decide +kernel
theorem dX0_putInOrder_57 : decode cX0_putInOrder 57 = .ok (.iload_n 1, 1) := by decide +kernel
theorem dX0_putInOrder_58 : decode cX0_putInOrder 58 = .ok (.iastore, 1) := by decide +kernel
theorem dX0_putInOrder_59 : decode cX0_putInOrder 59 = .ok (.aload_n 0, 1) := by decide +kernel
theorem dX0_putInOrder_60 : decode cX0_putInOrder 60 = .ok (.dup, 1) := by decide +kernel
theorem dX0_putInOrder_61 : decode cX0_putInOrder 61 = .ok (.getfield 25, 3) := by decide +kernel
theorem dX0_putInOrder_64 : decode cX0_putInOrder 64 = .ok (.iconst 1, 1) := by decide +kernel
theorem dX0_putInOrder_65 : decode cX0_putInOrder 65 = .ok (.iadd, 1) := by decide +kernel
theorem dX0_putInOrder_66 : decode cX0_putInOrder 66 = .ok (.putfield 25, 3) := by decide +kernel
theorem dX0_putInOrder_69 : decode cX0_putInOrder 69 = .ok (.return_, 1) := by decide +kernel
theorem dX0_dropFromOrder_0 : decode cX0_dropFromOrder 0 = .ok (.aload_n 0, 1) := by decide +kernel
theorem dX0_dropFromOrder_1 : decode cX0_dropFromOrder 1 = .ok (.iload_n 1, 1) := by decide +kernel
theorem dX0_dropFromOrder_2 : decode cX0_dropFromOrder 2 = .ok (.invokevirtual 62, 3) := by decide +kernel
theorem dX0_dropFromOrder_5 : decode cX0_dropFromOrder 5 = .ok (.istore_n 2, 1) := by decide +kernel
theorem dX0_dropFromOrder_6 : decode cX0_dropFromOrder 6 = .ok (.iload_n 2, 1) := by decide +kernel
theorem dX0_dropFromOrder_7 : decode cX0_dropFromOrder 7 = .ok (.iconst (-1), 1) := by decide +kernel
theorem dX0_dropFromOrder_8 : decode cX0_dropFromOrder 8 = .ok (.if_icmp .ne 4, 3) := by decide +kernel
theorem dX0_dropFromOrder_11 : decode cX0_dropFromOrder 11 = .ok (.return_, 1) := by decide +kernel
theorem dX0_dropFromOrder_12 : decode cX0_dropFromOrder 12 = .ok (.aload_n 0, 1) := by decide +kernel
theorem dX0_dropFromOrder_13 : decode cX0_dropFromOrder 13 = .ok (.dup, 1) := by decide +kernel
theorem dX0_dropFromOrder_14 : decode cX0_dropFromOrder 14 = .ok (.getfield 25, 3) := by decide +kernel
theorem dX0_dropFromOrder_17 : decode cX0_dropFromOrder 17 = .ok (.iconst 1, 1) := by decide +kernel
theorem dX0_dropFromOrder_18 : decode cX0_dropFromOrder 18 = .ok (.isub, 1) := by decide +kernel
theorem dX0_dropFromOrder_19 : decode cX0_dropFromOrder 19 = .ok (.putfield 25, 3) := by decide +kernel
theorem dX0_dropFromOrder_22 : decode cX0_dropFromOrder 22 = .ok (.iload_n 2, 1) := by decide +kernel
theorem dX0_dropFromOrder_23 : decode cX0_dropFromOrder 23 = .ok (.istore_n 3, 1) := by decide +kernel
theorem dX0_dropFromOrder_24 : decode cX0_dropFromOrder 24 = .ok (.iload_n 3, 1) := by decide +kernel
theorem dX0_dropFromOrder_25 : decode cX0_dropFromOrder 25 = .ok (.aload_n 0, 1) := by decide +kernel
theorem dX0_dropFromOrder_26 : decode cX0_dropFromOrder 26 = .ok (.getfield 25, 3) := by decide +kernel
theorem dX0_dropFromOrder_29 : decode cX0_dropFromOrder 29 = .ok (.if_icmp .ge 23, 3) := by decide +kernel
theorem dX0_dropFromOrder_32 : decode cX0_dropFromOrder 32 = .ok (.aload_n 0, 1) := by decide +kernel
theorem dX0_dropFromOrder_33 : decode cX0_dropFromOrder 33 = .ok (.getfield 9, 3) := by decide +kernel
theorem dX0_dropFromOrder_36 : decode cX0_dropFromOrder 36 = .ok (.iload_n 3, 1) := by decide +kernel
theorem dX0_dropFromOrder_37 : decode cX0_dropFromOrder 37 = .ok (.aload_n 0, 1) := by decide +kernel
theorem dX0_dropFromOrder_38 : decode cX0_dropFromOrder 38 = .ok (.getfield 9, 3) := by decide +kernel
theorem dX0_dropFromOrder_41 : decode cX0_dropFromOrder 41 = .ok (.iload_n 3, 1) := by decide +kernel
theorem dX0_dropFromOrder_42 : decode cX0_dropFromOrder 42 = .ok (.iconst 1, 1) := by decide +kernel
theorem dX0_dropFromOrder_43 : decode cX0_dropFromOrder 43 = .ok (.iadd, 1) := by decide +kernel
theorem dX0_dropFromOrder_44 : decode cX0_dropFromOrder 44 = .ok (.iaload, 1) := by decide +kernel
theorem dX0_dropFromOrder_45 : decode cX0_dropFromOrder 45 = .ok (.iastore, 1) := by decide +kernel
theorem dX0_dropFromOrder_46 : decode cX0_dropFromOrder 46 = .ok (.iinc 3 1, 3) := by decide +kernel
theorem dX0_dropFromOrder_49 : decode cX0_dropFromOrder 49 = .ok (.goto (-25), 3) := by decide +kernel
theorem dX0_dropFromOrder_52 : decode cX0_dropFromOrder 52 = .ok (.return_, 1) := by decide +kernel
theorem dX0_placeOf_0 : decode cX0_placeOf 0 = .ok (.iconst 0, 1) := by decide +kernel
theorem dX0_placeOf_1 : decode cX0_placeOf 1 = .ok (.istore_n 2, 1) := by decide +kernel
theorem dX0_placeOf_2 : decode cX0_placeOf 2 = .ok (.iload_n 2, 1) := by decide +kernel
theorem dX0_placeOf_3 : decode cX0_placeOf 3 = .ok (.aload_n 0, 1) := by decide +kernel
theorem dX0_placeOf_4 : decode cX0_placeOf 4 = .ok (.getfield 25, 3) := by decide +kernel
theorem dX0_placeOf_7 : decode cX0_placeOf 7 = .ok (.if_icmp .ge 21, 3) := by decide +kernel
theorem dX0_placeOf_10 : decode cX0_placeOf 10 = .ok (.aload_n 0, 1) := by decide +kernel
theorem dX0_placeOf_11 : decode cX0_placeOf 11 = .ok (.getfield 9, 3) := by decide +kernel
theorem dX0_placeOf_14 : decode cX0_placeOf 14 = .ok (.iload_n 2, 1) := by decide +kernel
theorem dX0_placeOf_15 : decode cX0_placeOf 15 = .ok (.iaload, 1) := by decide +kernel
theorem dX0_placeOf_16 : decode cX0_placeOf 16 = .ok (.iload_n 1, 1) := by decide +kernel
theorem dX0_placeOf_17 : decode cX0_placeOf 17 = .ok (.if_icmp .ne 5, 3) := by decide +kernel
theorem dX0_placeOf_20 : decode cX0_placeOf 20 = .ok (.iload_n 2, 1) := by decide +kernel
theorem dX0_placeOf_21 : decode cX0_placeOf 21 = .ok (.ireturn, 1) := by decide +kernel
theorem dX0_placeOf_22 : decode cX0_placeOf 22 = .ok (.iinc 2 1, 3) := by decide +kernel
theorem dX0_placeOf_25 : decode cX0_placeOf 25 = .ok (.goto (-23), 3) := by decide +kernel
theorem dX0_placeOf_28 : decode cX0_placeOf 28 = .ok (.iconst (-1), 1) := by decide +kernel
theorem dX0_placeOf_29 : decode cX0_placeOf 29 = .ok (.ireturn, 1) := by decide +kernel
theorem dX0_numberAt_0 : decode cX0_numberAt 0 = .ok (.iload_n 1, 1) := by decide +kernel
theorem dX0_numberAt_1 : decode cX0_numberAt 1 = .ok (.ifCond .lt 20, 3) := by decide +kernel
theorem dX0_numberAt_4 : decode cX0_numberAt 4 = .ok (.iload_n 1, 1) := by decide +kernel
theorem dX0_numberAt_5 : decode cX0_numberAt 5 = .ok (.aload_n 0, 1) := by decide +kernel
theorem dX0_numberAt_6 : decode cX0_numberAt 6 = .ok (.getfield 25, 3) := by decide +kernel
theorem dX0_numberAt_9 : decode cX0_numberAt 9 = .ok (.if_icmp .ge 12, 3) := by decide +kernel
theorem dX0_numberAt_12 : decode cX0_numberAt 12 = .ok (.aload_n 0, 1) := by decide +kernel
theorem dX0_numberAt_13 : decode cX0_numberAt 13 = .ok (.getfield 9, 3) := by decide +kernel
theorem dX0_numberAt_16 : decode cX0_numberAt 16 = .ok (.iload_n 1, 1) := by decide +kernel
theorem dX0_numberAt_17 : decode cX0_numberAt 17 = .ok (.iaload, 1) := by decide +kernel
theorem dX0_numberAt_18 : decode cX0_numberAt 18 = .ok (.goto 4, 3) := by decide +kernel
theorem dX0_numberAt_21 : decode cX0_numberAt 21 = .ok (.iconst (-1), 1) := by decide +kernel
theorem dX0_numberAt_22 : decode cX0_numberAt 22 = .ok (.ireturn, 1) := by decide +kernel
theorem dX0_nextShown_0 : decode cX0_nextShown 0 = .ok (.iload_n 1, 1) := by decide +kernel
theorem dX0_nextShown_1 : decode cX0_nextShown 1 = .ok (.iconst 1, 1) := by decide +kernel
theorem dX0_nextShown_2 : decode cX0_nextShown 2 = .ok (.iadd, 1) := by decide +kernel
theorem dX0_nextShown_3 : decode cX0_nextShown 3 = .ok (.istore_n 2, 1) := by decide +kernel
theorem dX0_nextShown_4 : decode cX0_nextShown 4 = .ok (.iload_n 2, 1) := by decide +kernel
theorem dX0_nextShown_5 : decode cX0_nextShown 5 = .ok (.aload_n 0, 1) := by decide +kernel
theorem dX0_nextShown_6 : decode cX0_nextShown 6 = .ok (.getfield 25, 3) := by decide +kernel
theorem dX0_nextShown_9 : decode cX0_nextShown 9 = .ok (.if_icmp .ge 37, 3) := by decide +kernel
theorem dX0_nextShown_12 : decode cX0_nextShown 12 = .ok (.aload_n 0, 1) := by decide +kernel
theorem dX0_nextShown_13 : decode cX0_nextShown 13 = .ok (.iload_n 2, 1) := by decide +kernel
theorem dX0_nextShown_14 : decode cX0_nextShown 14 = .ok (.invokevirtual 66, 3) := by decide +kernel
theorem dX0_nextShown_17 : decode cX0_nextShown 17 = .ok (.istore_n 3, 1) := by decide +kernel
theorem dX0_nextShown_18 : decode cX0_nextShown 18 = .ok (.aload_n 0, 1) := by decide +kernel
theorem dX0_nextShown_19 : decode cX0_nextShown 19 = .ok (.iload_n 3, 1) := by decide +kernel
theorem dX0_nextShown_20 : decode cX0_nextShown 20 = .ok (.invokevirtual 51, 3) := by decide +kernel
theorem dX0_nextShown_23 : decode cX0_nextShown 23 = .ok (.astore 4, 2) := by decide +kernel
theorem dX0_nextShown_25 : decode cX0_nextShown 25 = .ok (.aload 4, 2) := by decide +kernel
theorem dX0_nextShown_27 : decode cX0_nextShown 27 = .ok (.ifnull 13, 3) := by decide +kernel
theorem dX0_nextShown_30 : decode cX0_nextShown 30 = .ok (.aload 4, 2) := by decide +kernel
theorem dX0_nextShown_32 : decode cX0_nextShown 32 = .ok (.getfield 69, 3) := by decide +kernel
theorem dX0_nextShown_35 : decode cX0_nextShown 35 = .ok (.ifCond .ne 5, 3) := by decide +kernel
theorem dX0_nextShown_38 : decode cX0_nextShown 38 = .ok (.iload_n 3, 1) := by decide +kernel
theorem dX0_nextShown_39 : decode cX0_nextShown 39 = .ok (.ireturn, 1) := by decide +kernel
theorem dX0_nextShown_40 : decode cX0_nextShown 40 = .ok (.iinc 2 1, 3) := by decide +kernel
theorem dX0_nextShown_43 : decode cX0_nextShown 43 = .ok (.goto (-39), 3) := by decide +kernel
theorem dX0_nextShown_46 : decode cX0_nextShown 46 = .ok (.iconst (-1), 1) := by decide +kernel
theorem dX0_nextShown_47 : decode cX0_nextShown 47 = .ok (.ireturn, 1) := by decide +kernel
theorem dX0_countHidden_0 : decode cX0_countHidden 0 = .ok (.iconst 0, 1) := by decide +kernel
theorem dX0_countHidden_1 : decode cX0_countHidden 1 = .ok (.istore_n 1, 1) := by decide +kernel
theorem dX0_countHidden_2 : decode cX0_countHidden 2 = .ok (.aload_n 0, 1) := by decide +kernel
theorem dX0_countHidden_3 : decode cX0_countHidden 3 = .ok (.getfield 17, 3) := by decide +kernel
theorem dX0_countHidden_6 : decode cX0_countHidden 6 = .ok (.astore_n 2, 1) := by decide +kernel
theorem dX0_countHidden_7 : decode cX0_countHidden 7 = .ok (.aload_n 2, 1) := by decide +kernel
theorem dX0_countHidden_8 : decode cX0_countHidden 8 = .ok (.arraylength, 1) := by decide +kernel
theorem dX0_countHidden_9 : decode cX0_countHidden 9 = .ok (.istore_n 3, 1) := by decide +kernel
theorem dX0_countHidden_10 : decode cX0_countHidden 10 = .ok (.iconst 0, 1) := by decide +kernel
theorem dX0_countHidden_11 : decode cX0_countHidden 11 = .ok (.istore 4, 2) := by decide +kernel
theorem dX0_countHidden_13 : decode cX0_countHidden 13 = .ok (.iload 4, 2) := by decide +kernel
theorem dX0_countHidden_15 : decode cX0_countHidden 15 = .ok (.iload_n 3, 1) := by decide +kernel
theorem dX0_countHidden_16 : decode cX0_countHidden 16 = .ok (.if_icmp .ge 26, 3) := by decide +kernel
theorem dX0_countHidden_19 : decode cX0_countHidden 19 = .ok (.aload_n 2, 1) := by decide +kernel
theorem dX0_countHidden_20 : decode cX0_countHidden 20 = .ok (.iload 4, 2) := by decide +kernel
theorem dX0_countHidden_22 : decode cX0_countHidden 22 = .ok (.aaload, 1) := by decide +kernel
theorem dX0_countHidden_23 : decode cX0_countHidden 23 = .ok (.astore 5, 2) := by decide +kernel
theorem dX0_countHidden_25 : decode cX0_countHidden 25 = .ok (.aload 5, 2) := by decide +kernel
theorem dX0_countHidden_27 : decode cX0_countHidden 27 = .ok (.getfield 69, 3) := by decide +kernel
theorem dX0_countHidden_30 : decode cX0_countHidden 30 = .ok (.ifCond .eq 6, 3) := by decide +kernel
theorem dX0_countHidden_33 : decode cX0_countHidden 33 = .ok (.iinc 1 1, 3) := by decide +kernel
theorem dX0_countHidden_36 : decode cX0_countHidden 36 = .ok (.iinc 4 1, 3) := by decide +kernel
theorem dX0_countHidden_39 : decode cX0_countHidden 39 = .ok (.goto (-26), 3) := by decide +kernel
theorem dX0_countHidden_42 : decode cX0_countHidden 42 = .ok (.iload_n 1, 1) := by decide +kernel
theorem dX0_countHidden_43 : decode cX0_countHidden 43 = .ok (.ireturn, 1) := by decide +kernel
theorem dX0_sumSteps_0 : decode cX0_sumSteps 0 = .ok (.iconst 0, 1) := by decide +kernel
theorem dX0_sumSteps_1 : decode cX0_sumSteps 1 = .ok (.istore_n 1, 1) := by decide +kernel
theorem dX0_sumSteps_2 : decode cX0_sumSteps 2 = .ok (.aload_n 0, 1) := by decide +kernel
theorem dX0_sumSteps_3 : decode cX0_sumSteps 3 = .ok (.getfield 17, 3) := by decide +kernel
theorem dX0_sumSteps_6 : decode cX0_sumSteps 6 = .ok (.astore_n 2, 1) := by decide +kernel
theorem dX0_sumSteps_7 : decode cX0_sumSteps 7 = .ok (.aload_n 2, 1) := by decide +kernel
theorem dX0_sumSteps_8 : decode cX0_sumSteps 8 = .ok (.arraylength, 1) := by decide +kernel
theorem dX0_sumSteps_9 : decode cX0_sumSteps 9 = .ok (.istore_n 3, 1) := by decide +kernel
theorem dX0_sumSteps_10 : decode cX0_sumSteps 10 = .ok (.iconst 0, 1) := by decide +kernel
theorem dX0_sumSteps_11 : decode cX0_sumSteps 11 = .ok (.istore 4, 2) := by decide +kernel
theorem dX0_sumSteps_13 : decode cX0_sumSteps 13 = .ok (.iload 4, 2) := by decide +kernel
theorem dX0_sumSteps_15 : decode cX0_sumSteps 15 = .ok (.iload_n 3, 1) := by decide +kernel
theorem dX0_sumSteps_16 : decode cX0_sumSteps 16 = .ok (.if_icmp .ge 33, 3) := by decide +kernel
theorem dX0_sumSteps_19 : decode cX0_sumSteps 19 = .ok (.aload_n 2, 1) := by decide +kernel
theorem dX0_sumSteps_20 : decode cX0_sumSteps 20 = .ok (.iload 4, 2) := by decide +kernel
theorem dX0_sumSteps_22 : decode cX0_sumSteps 22 = .ok (.aaload, 1) := by decide +kernel
theorem dX0_sumSteps_23 : decode cX0_sumSteps 23 = .ok (.astore 5, 2) := by decide +kernel
theorem dX0_sumSteps_25 : decode cX0_sumSteps 25 = .ok (.aload 5, 2) := by decide +kernel
theorem dX0_sumSteps_27 : decode cX0_sumSteps 27 = .ok (.getfield 39, 3) := by decide +kernel
theorem dX0_sumSteps_30 : decode cX0_sumSteps 30 = .ok (.ifCond .eq 13, 3) := by decide +kernel
theorem dX0_sumSteps_33 : decode cX0_sumSteps 33 = .ok (.iload_n 1, 1) := by decide +kernel
theorem dX0_sumSteps_34 : decode cX0_sumSteps 34 = .ok (.aload 5, 2) := by decide +kernel
theorem dX0_sumSteps_36 : decode cX0_sumSteps 36 = .ok (.invokevirtual 72, 3) := by decide +kernel
theorem dX0_sumSteps_39 : decode cX0_sumSteps 39 = .ok (.iconst 1, 1) := by decide +kernel
theorem dX0_sumSteps_40 : decode cX0_sumSteps 40 = .ok (.iadd, 1) := by decide +kernel
theorem dX0_sumSteps_41 : decode cX0_sumSteps 41 = .ok (.iadd, 1) := by decide +kernel
theorem dX0_sumSteps_42 : decode cX0_sumSteps 42 = .ok (.istore_n 1, 1) := by decide +kernel
theorem dX0_sumSteps_43 : decode cX0_sumSteps 43 = .ok (.iinc 4 1, 3) := by decide +kernel
theorem dX0_sumSteps_46 : decode cX0_sumSteps 46 = .ok (.goto (-33), 3) := by decide +kernel
theorem dX0_sumSteps_49 : decode cX0_sumSteps 49 = .ok (.iload_n 1, 1) := by decide +kernel
theorem dX0_sumSteps_50 : decode cX0_sumSteps 50 = .ok (.ireturn, 1) := by decide +kernel
theorem dX1_init_0 : decode cX1_init 0 = .ok (.aload_n 0, 1) := by decide +kernel
theorem dX1_init_1 : decode cX1_init 1 = .ok (.invokespecial 3, 3) := by decide +kernel
theorem dX1_init_4 : decode cX1_init 4 = .ok (.aload_n 0, 1) := by decide +kernel
theorem dX1_init_5 : decode cX1_init 5 = .ok (.bipush 10, 2) := by decide +kernel
theorem dX1_init_7 : decode cX1_init 7 = .ok (.newarray .int, 2) := by decide +kernel
theorem dX1_init_9 : decode cX1_init 9 = .ok (.putfield 9, 3) := by decide +kernel
theorem dX1_init_12 : decode cX1_init 12 = .ok (.return_, 1) := by decide +kernel
theorem dX1_countMoves_0 : decode cX1_countMoves 0 = .ok (.aload_n 1, 1) := by decide +kernel
theorem dX1_countMoves_1 : decode cX1_countMoves 1 = .ok (.invokevirtual 15, 3) := by decide +kernel
theorem dX1_countMoves_4 : decode cX1_countMoves 4 = .ok (.ifnonnull 6, 3) := by decide +kernel
theorem dX1_countMoves_7 : decode cX1_countMoves 7 = .ok (.bipush (-6), 2) := by decide +kernel
theorem dX1_countMoves_9 : decode cX1_countMoves 9 = .ok (.ireturn, 1) := by decide +kernel
theorem dX1_countMoves_10 : decode cX1_countMoves 10 = .ok (.iconst 0, 1) := by decide +kernel
theorem dX1_countMoves_11 : decode cX1_countMoves 11 = .ok (.istore_n 2, 1) := by decide +kernel
theorem dX1_countMoves_12 : decode cX1_countMoves 12 = .ok (.aload_n 1, 1) := by decide +kernel
theorem dX1_countMoves_13 : decode cX1_countMoves 13 = .ok (.getfield 21, 3) := by decide +kernel
theorem dX1_countMoves_16 : decode cX1_countMoves 16 = .ok (.aload_n 1, 1) := by decide +kernel
theorem dX1_countMoves_17 : decode cX1_countMoves 17 = .ok (.getfield 25, 3) := by decide +kernel
theorem dX1_countMoves_20 : decode cX1_countMoves 20 = .ok (.getfield 29, 3) := by decide +kernel
theorem dX1_countMoves_23 : decode cX1_countMoves 23 = .ok (.invokevirtual 35, 3) := by decide +kernel
theorem dX1_countMoves_26 : decode cX1_countMoves 26 = .ok (.istore_n 3, 1) := by decide +kernel
theorem dX1_countMoves_27 : decode cX1_countMoves 27 = .ok (.iload_n 3, 1) := by decide +kernel
theorem dX1_countMoves_28 : decode cX1_countMoves 28 = .ok (.aload_n 1, 1) := by decide +kernel
theorem dX1_countMoves_29 : decode cX1_countMoves 29 = .ok (.getfield 21, 3) := by decide +kernel
theorem dX1_countMoves_32 : decode cX1_countMoves 32 = .ok (.getfield 41, 3) := by decide +kernel
theorem dX1_countMoves_35 : decode cX1_countMoves 35 = .ok (.if_icmp .ge 17, 3) := by decide +kernel
theorem dX1_countMoves_38 : decode cX1_countMoves 38 = .ok (.iload_n 2, 1) := by decide +kernel
theorem dX1_countMoves_39 : decode cX1_countMoves 39 = .ok (.aload_n 1, 1) := by decide +kernel
theorem dX1_countMoves_40 : decode cX1_countMoves 40 = .ok (.iload_n 3, 1) := by decide +kernel
theorem dX1_countMoves_41 : decode cX1_countMoves 41 = .ok (.invokestatic 44, 3) := by decide +kernel
theorem dX1_countMoves_44 : decode cX1_countMoves 44 = .ok (.iadd, 1) := by decide +kernel
theorem dX1_countMoves_45 : decode cX1_countMoves 45 = .ok (.istore_n 2, 1) := by decide +kernel
theorem dX1_countMoves_46 : decode cX1_countMoves 46 = .ok (.iinc 3 1, 3) := by decide +kernel
theorem dX1_countMoves_49 : decode cX1_countMoves 49 = .ok (.goto (-22), 3) := by decide +kernel
theorem dX1_countMoves_52 : decode cX1_countMoves 52 = .ok (.iload_n 2, 1) := by decide +kernel
theorem dX1_countMoves_53 : decode cX1_countMoves 53 = .ok (.ireturn, 1) := by decide +kernel
theorem dX1_countSeconds_0 : decode cX1_countSeconds 0 = .ok (.aload_n 1, 1) := by decide +kernel
theorem dX1_countSeconds_1 : decode cX1_countSeconds 1 = .ok (.invokevirtual 15, 3) := by decide +kernel
theorem dX1_countSeconds_4 : decode cX1_countSeconds 4 = .ok (.ifnonnull 6, 3) := by decide +kernel
theorem dX1_countSeconds_7 : decode cX1_countSeconds 7 = .ok (.bipush (-6), 2) := by decide +kernel
theorem dX1_countSeconds_9 : decode cX1_countSeconds 9 = .ok (.ireturn, 1) := by decide +kernel
theorem dX1_countSeconds_10 : decode cX1_countSeconds 10 = .ok (.aload_n 1, 1) := by decide +kernel
theorem dX1_countSeconds_11 : decode cX1_countSeconds 11 = .ok (.getfield 21, 3) := by decide +kernel
theorem dX1_countSeconds_14 : decode cX1_countSeconds 14 = .ok (.aload_n 1, 1) := by decide +kernel
theorem dX1_countSeconds_15 : decode cX1_countSeconds 15 = .ok (.getfield 25, 3) := by decide +kernel
theorem dX1_countSeconds_18 : decode cX1_countSeconds 18 = .ok (.getfield 29, 3) := by decide +kernel
theorem dX1_countSeconds_21 : decode cX1_countSeconds 21 = .ok (.invokevirtual 35, 3) := by decide +kernel
theorem dX1_countSeconds_24 : decode cX1_countSeconds 24 = .ok (.istore_n 2, 1) := by decide +kernel
theorem dX1_countSeconds_25 : decode cX1_countSeconds 25 = .ok (.iconst 0, 1) := by decide +kernel
theorem dX1_countSeconds_26 : decode cX1_countSeconds 26 = .ok (.istore_n 3, 1) := by decide +kernel
theorem dX1_countSeconds_27 : decode cX1_countSeconds 27 = .ok (.iload_n 2, 1) := by decide +kernel
theorem dX1_countSeconds_28 : decode cX1_countSeconds 28 = .ok (.istore 4, 2) := by decide +kernel
theorem dX1_countSeconds_30 : decode cX1_countSeconds 30 = .ok (.iload 4, 2) := by decide +kernel
theorem dX1_countSeconds_32 : decode cX1_countSeconds 32 = .ok (.aload_n 1, 1) := by decide +kernel
theorem dX1_countSeconds_33 : decode cX1_countSeconds 33 = .ok (.getfield 21, 3) := by decide +kernel
theorem dX1_countSeconds_36 : decode cX1_countSeconds 36 = .ok (.getfield 41, 3) := by decide +kernel
theorem dX1_countSeconds_39 : decode cX1_countSeconds 39 = .ok (.if_icmp .ge 102, 3) := by decide +kernel
theorem dX1_countSeconds_42 : decode cX1_countSeconds 42 = .ok (.aload_n 1, 1) := by decide +kernel
theorem dX1_countSeconds_43 : decode cX1_countSeconds 43 = .ok (.getfield 21, 3) := by decide +kernel
theorem dX1_countSeconds_46 : decode cX1_countSeconds 46 = .ok (.aload_n 1, 1) := by decide +kernel
theorem dX1_countSeconds_47 : decode cX1_countSeconds 47 = .ok (.getfield 21, 3) := by decide +kernel
theorem dX1_countSeconds_50 : decode cX1_countSeconds 50 = .ok (.iload 4, 2) := by decide +kernel
theorem dX1_countSeconds_52 : decode cX1_countSeconds 52 = .ok (.invokevirtual 48, 3) := by decide +kernel
theorem dX1_countSeconds_55 : decode cX1_countSeconds 55 = .ok (.invokevirtual 51, 3) := by decide +kernel
theorem dX1_countSeconds_58 : decode cX1_countSeconds 58 = .ok (.astore 5, 2) := by decide +kernel
theorem dX1_countSeconds_60 : decode cX1_countSeconds 60 = .ok (.aload_n 1, 1) := by decide +kernel
theorem dX1_countSeconds_61 : decode cX1_countSeconds 61 = .ok (.iload 4, 2) := by decide +kernel
theorem dX1_countSeconds_63 : decode cX1_countSeconds 63 = .ok (.invokestatic 44, 3) := by decide +kernel
theorem dX1_countSeconds_66 : decode cX1_countSeconds 66 = .ok (.istore 6, 2) := by decide +kernel
theorem dX1_countSeconds_68 : decode cX1_countSeconds 68 = .ok (.aload 5, 2) := by decide +kernel
theorem dX1_countSeconds_70 : decode cX1_countSeconds 70 = .ok (.ifnull 65, 3) := by decide +kernel
theorem dX1_countSeconds_73 : decode cX1_countSeconds 73 = .ok (.iload 6, 2) := by decide +kernel
theorem dX1_countSeconds_75 : decode cX1_countSeconds 75 = .ok (.ifCond .ne 6, 3) := by decide +kernel
theorem dX1_countSeconds_78 : decode cX1_countSeconds 78 = .ok (.goto 57, 3) := by decide +kernel
theorem dX1_countSeconds_81 : decode cX1_countSeconds 81 = .ok (.aload 5, 2) := by decide +kernel
theorem dX1_countSeconds_83 : decode cX1_countSeconds 83 = .ok (.getfield 55, 3) := by decide +kernel
theorem dX1_countSeconds_86 : decode cX1_countSeconds 86 = .ok (.ifCond .ne 6, 3) := by decide +kernel
theorem dX1_countSeconds_89 : decode cX1_countSeconds 89 = .ok (.bipush (-6), 2) := by decide +kernel
theorem dX1_countSeconds_91 : decode cX1_countSeconds 91 = .ok (.ireturn, 1) := by decide +kernel
theorem dX1_countSeconds_92 : decode cX1_countSeconds 92 = .ok (.iload_n 3, 1) := by decide +kernel
theorem dX1_countSeconds_93 : decode cX1_countSeconds 93 = .ok (.iload 6, 2) := by decide +kernel
theorem dX1_countSeconds_95 : decode cX1_countSeconds 95 = .ok (.aload 5, 2) := by decide +kernel
theorem dX1_countSeconds_97 : decode cX1_countSeconds 97 = .ok (.getfield 55, 3) := by decide +kernel
theorem dX1_countSeconds_100 : decode cX1_countSeconds 100 = .ok (.imul, 1) := by decide +kernel
theorem dX1_countSeconds_101 : decode cX1_countSeconds 101 = .ok (.iadd, 1) := by decide +kernel
theorem dX1_countSeconds_102 : decode cX1_countSeconds 102 = .ok (.istore_n 3, 1) := by decide +kernel
theorem dX1_countSeconds_103 : decode cX1_countSeconds 103 = .ok (.iload 4, 2) := by decide +kernel
theorem dX1_countSeconds_105 : decode cX1_countSeconds 105 = .ok (.iload_n 2, 1) := by decide +kernel
theorem dX1_countSeconds_106 : decode cX1_countSeconds 106 = .ok (.if_icmp .ne 29, 3) := by decide +kernel
theorem dX1_countSeconds_109 : decode cX1_countSeconds 109 = .ok (.iload_n 3, 1) := by decide +kernel
theorem dX1_countSeconds_110 : decode cX1_countSeconds 110 = .ok (.iconst 1, 1) := by decide +kernel
theorem dX1_countSeconds_111 : decode cX1_countSeconds 111 = .ok (.aload 5, 2) := by decide +kernel
theorem dX1_countSeconds_113 : decode cX1_countSeconds 113 = .ok (.getfield 55, 3) := by decide +kernel
theorem dX1_countSeconds_116 : decode cX1_countSeconds 116 = .ok (.aload_n 1, 1) := by decide +kernel
theorem dX1_countSeconds_117 : decode cX1_countSeconds 117 = .ok (.getfield 25, 3) := by decide +kernel
theorem dX1_countSeconds_120 : decode cX1_countSeconds 120 = .ok (.getfield 60, 3) := by decide +kernel
theorem dX1_countSeconds_123 : decode cX1_countSeconds 123 = .ok (.isub, 1) := by decide +kernel
theorem dX1_countSeconds_124 : decode cX1_countSeconds 124 = .ok (.invokestatic 63, 3) := by decide +kernel
theorem dX1_countSeconds_127 : decode cX1_countSeconds 127 = .ok (.aload 5, 2) := by decide +kernel
theorem dX1_countSeconds_129 : decode cX1_countSeconds 129 = .ok (.getfield 55, 3) := by decide +kernel
theorem dX1_countSeconds_132 : decode cX1_countSeconds 132 = .ok (.isub, 1) := by decide +kernel
theorem dX1_countSeconds_133 : decode cX1_countSeconds 133 = .ok (.iadd, 1) := by decide +kernel
theorem dX1_countSeconds_134 : decode cX1_countSeconds 134 = .ok (.istore_n 3, 1) := by decide +kernel
theorem dX1_countSeconds_135 : decode cX1_countSeconds 135 = .ok (.iinc 4 1, 3) := by decide +kernel
theorem dX1_countSeconds_138 : decode cX1_countSeconds 138 = .ok (.goto (-108), 3) := by decide +kernel
theorem dX1_countSeconds_141 : decode cX1_countSeconds 141 = .ok (.iload_n 3, 1) := by decide +kernel
theorem dX1_countSeconds_142 : decode cX1_countSeconds 142 = .ok (.ireturn, 1) := by decide +kernel
theorem dX1_movesOn_0 : decode cX1_movesOn 0 = .ok (.aload_n 0, 1) := by decide +kernel
theorem dX1_movesOn_1 : decode cX1_movesOn 1 = .ok (.getfield 21, 3) := by decide +kernel
theorem dX1_movesOn_4 : decode cX1_movesOn 4 = .ok (.iload_n 1, 1) := by decide +kernel
theorem dX1_movesOn_5 : decode cX1_movesOn 5 = .ok (.invokevirtual 48, 3) := by decide +kernel
theorem dX1_movesOn_8 : decode cX1_movesOn 8 = .ok (.istore_n 2, 1) := by decide +kernel
theorem dX1_movesOn_9 : decode cX1_movesOn 9 = .ok (.aload_n 0, 1) := by decide +kernel
theorem dX1_movesOn_10 : decode cX1_movesOn 10 = .ok (.getfield 21, 3) := by decide +kernel
theorem dX1_movesOn_13 : decode cX1_movesOn 13 = .ok (.iload_n 2, 1) := by decide +kernel
theorem dX1_movesOn_14 : decode cX1_movesOn 14 = .ok (.invokevirtual 51, 3) := by decide +kernel
theorem dX1_movesOn_17 : decode cX1_movesOn 17 = .ok (.astore_n 3, 1) := by decide +kernel
theorem dX1_movesOn_18 : decode cX1_movesOn 18 = .ok (.iload_n 2, 1) := by decide +kernel
theorem dX1_movesOn_19 : decode cX1_movesOn 19 = .ok (.aload_n 0, 1) := by decide +kernel
theorem dX1_movesOn_20 : decode cX1_movesOn 20 = .ok (.getfield 25, 3) := by decide +kernel
theorem dX1_movesOn_23 : decode cX1_movesOn 23 = .ok (.getfield 29, 3) := by decide +kernel
theorem dX1_movesOn_26 : decode cX1_movesOn 26 = .ok (.if_icmp .ne 7, 3) := by decide +kernel
theorem dX1_movesOn_29 : decode cX1_movesOn 29 = .ok (.iconst 1, 1) := by decide +kernel
theorem dX1_movesOn_30 : decode cX1_movesOn 30 = .ok (.goto 4, 3) := by decide +kernel
theorem dX1_movesOn_33 : decode cX1_movesOn 33 = .ok (.iconst 0, 1) := by decide +kernel
theorem dX1_movesOn_34 : decode cX1_movesOn 34 = .ok (.istore 4, 2) := by decide +kernel
theorem dX1_movesOn_36 : decode cX1_movesOn 36 = .ok (.aload_n 3, 1) := by decide +kernel
theorem dX1_movesOn_37 : decode cX1_movesOn 37 = .ok (.ifnull 15, 3) := by decide +kernel
theorem dX1_movesOn_40 : decode cX1_movesOn 40 = .ok (.aload_n 3, 1) := by decide +kernel
theorem dX1_movesOn_41 : decode cX1_movesOn 41 = .ok (.getfield 69, 3) := by decide +kernel
theorem dX1_movesOn_44 : decode cX1_movesOn 44 = .ok (.ifCond .eq 10, 3) := by decide +kernel
theorem dX1_movesOn_47 : decode cX1_movesOn 47 = .ok (.iload 4, 2) := by decide +kernel
theorem dX1_movesOn_49 : decode cX1_movesOn 49 = .ok (.ifCond .ne 5, 3) := by decide +kernel
theorem dX1_movesOn_52 : decode cX1_movesOn 52 = .ok (.iconst 0, 1) := by decide +kernel
theorem dX1_movesOn_53 : decode cX1_movesOn 53 = .ok (.ireturn, 1) := by decide +kernel
theorem dX1_movesOn_54 : decode cX1_movesOn 54 = .ok (.aload_n 3, 1) := by decide +kernel
theorem dX1_movesOn_55 : decode cX1_movesOn 55 = .ok (.invokevirtual 73, 3) := by decide +kernel
theorem dX1_movesOn_58 : decode cX1_movesOn 58 = .ok (.iload 4, 2) := by decide +kernel
theorem dX1_movesOn_60 : decode cX1_movesOn 60 = .ok (.ifCond .eq 13, 3) := by decide +kernel
theorem dX1_movesOn_63 : decode cX1_movesOn 63 = .ok (.aload_n 0, 1) := by decide +kernel
theorem dX1_movesOn_64 : decode cX1_movesOn 64 = .ok (.getfield 25, 3) := by decide +kernel
theorem dX1_movesOn_67 : decode cX1_movesOn 67 = .ok (.getfield 77, 3) := by decide +kernel
theorem dX1_movesOn_70 : decode cX1_movesOn 70 = .ok (.goto 4, 3) := by decide +kernel
theorem dX1_movesOn_73 : decode cX1_movesOn 73 = .ok (.iconst 0, 1) := by decide +kernel
theorem dX1_movesOn_74 : decode cX1_movesOn 74 = .ok (.isub, 1) := by decide +kernel
theorem dX1_movesOn_75 : decode cX1_movesOn 75 = .ok (.istore 5, 2) := by decide +kernel
theorem dX1_movesOn_77 : decode cX1_movesOn 77 = .ok (.aload_n 0, 1) := by decide +kernel
theorem dX1_movesOn_78 : decode cX1_movesOn 78 = .ok (.getfield 21, 3) := by decide +kernel
theorem dX1_movesOn_81 : decode cX1_movesOn 81 = .ok (.iload_n 1, 1) := by decide +kernel
theorem dX1_movesOn_82 : decode cX1_movesOn 82 = .ok (.invokevirtual 80, 3) := by decide +kernel
theorem dX1_movesOn_85 : decode cX1_movesOn 85 = .ok (.iconst (-1), 1) := by decide +kernel
theorem dX1_movesOn_86 : decode cX1_movesOn 86 = .ok (.if_icmp .ne 8, 3) := by decide +kernel
theorem dX1_movesOn_89 : decode cX1_movesOn 89 = .ok (.iload 5, 2) := by decide +kernel
theorem dX1_movesOn_91 : decode cX1_movesOn 91 = .ok (.goto 7, 3) := by decide +kernel
theorem dX1_movesOn_94 : decode cX1_movesOn 94 = .ok (.iload 5, 2) := by decide +kernel
theorem dX1_movesOn_96 : decode cX1_movesOn 96 = .ok (.iconst 1, 1) := by decide +kernel
theorem dX1_movesOn_97 : decode cX1_movesOn 97 = .ok (.iadd, 1) := by decide +kernel
theorem dX1_movesOn_98 : decode cX1_movesOn 98 = .ok (.ireturn, 1) := by decide +kernel
theorem dX1_leastMoves_0 : decode cX1_leastMoves 0 = .ok (.aload_n 1, 1) := by decide +kernel
theorem dX1_leastMoves_1 : decode cX1_leastMoves 1 = .ok (.invokevirtual 15, 3) := by decide +kernel
theorem dX1_leastMoves_4 : decode cX1_leastMoves 4 = .ok (.ifnull 13, 3) := by decide +kernel
theorem dX1_leastMoves_7 : decode cX1_leastMoves 7 = .ok (.iload_n 2, 1) := by decide +kernel
theorem dX1_leastMoves_8 : decode cX1_leastMoves 8 = .ok (.iconst 0, 1) := by decide +kernel
theorem dX1_leastMoves_9 : decode cX1_leastMoves 9 = .ok (.bipush 9, 2) := by decide +kernel
theorem dX1_leastMoves_11 : decode cX1_leastMoves 11 = .ok (.invokestatic 83, 3) := by decide +kernel
theorem dX1_leastMoves_14 : decode cX1_leastMoves 14 = .ok (.ifCond .ne 6, 3) := by decide +kernel
theorem dX1_leastMoves_17 : decode cX1_leastMoves 17 = .ok (.bipush (-6), 2) := by decide +kernel
theorem dX1_leastMoves_19 : decode cX1_leastMoves 19 = .ok (.ireturn, 1) := by decide +kernel
theorem dX1_leastMoves_20 : decode cX1_leastMoves 20 = .ok (.iconst 0, 1) := by decide +kernel
theorem dX1_leastMoves_21 : decode cX1_leastMoves 21 = .ok (.istore_n 3, 1) := by decide +kernel
theorem dX1_leastMoves_22 : decode cX1_leastMoves 22 = .ok (.iload_n 3, 1) := by decide +kernel
theorem dX1_leastMoves_23 : decode cX1_leastMoves 23 = .ok (.aload_n 0, 1) := by decide +kernel
theorem dX1_leastMoves_24 : decode cX1_leastMoves 24 = .ok (.getfield 9, 3) := by decide +kernel
theorem dX1_leastMoves_27 : decode cX1_leastMoves 27 = .ok (.arraylength, 1) := by decide +kernel
theorem dX1_leastMoves_28 : decode cX1_leastMoves 28 = .ok (.if_icmp .ge 17, 3) := by decide +kernel
theorem dX1_leastMoves_31 : decode cX1_leastMoves 31 = .ok (.aload_n 0, 1) := by decide +kernel
theorem dX1_leastMoves_32 : decode cX1_leastMoves 32 = .ok (.getfield 9, 3) := by decide +kernel
theorem dX1_leastMoves_35 : decode cX1_leastMoves 35 = .ok (.iload_n 3, 1) := by decide +kernel
theorem dX1_leastMoves_36 : decode cX1_leastMoves 36 = .ok (.ldc 87, 2) := by decide +kernel
theorem dX1_leastMoves_38 : decode cX1_leastMoves 38 = .ok (.iastore, 1) := by decide +kernel
theorem dX1_leastMoves_39 : decode cX1_leastMoves 39 = .ok (.iinc 3 1, 3) := by decide +kernel
theorem dX1_leastMoves_42 : decode cX1_leastMoves 42 = .ok (.goto (-20), 3) := by decide +kernel
theorem dX1_leastMoves_45 : decode cX1_leastMoves 45 = .ok (.aload_n 0, 1) := by decide +kernel
theorem dX1_leastMoves_46 : decode cX1_leastMoves 46 = .ok (.aload_n 1, 1) := by decide +kernel
theorem dX1_leastMoves_47 : decode cX1_leastMoves 47 = .ok (.getfield 25, 3) := by decide +kernel
theorem dX1_leastMoves_50 : decode cX1_leastMoves 50 = .ok (.getfield 29, 3) := by decide +kernel
theorem dX1_leastMoves_53 : decode cX1_leastMoves 53 = .ok (.iconst 0, 1) := by decide +kernel
theorem dX1_leastMoves_54 : decode cX1_leastMoves 54 = .ok (.invokevirtual 88, 3) := by decide +kernel
theorem dX1_leastMoves_57 : decode cX1_leastMoves 57 = .ok (.iconst 0, 1) := by decide +kernel
theorem dX1_leastMoves_58 : decode cX1_leastMoves 58 = .ok (.istore_n 3, 1) := by decide +kernel
theorem dX1_leastMoves_59 : decode cX1_leastMoves 59 = .ok (.iload_n 3, 1) := by decide +kernel
theorem dX1_leastMoves_60 : decode cX1_leastMoves 60 = .ok (.bipush 10, 2) := by decide +kernel
theorem dX1_leastMoves_62 : decode cX1_leastMoves 62 = .ok (.if_icmp .ge 37, 3) := by decide +kernel
theorem dX1_leastMoves_65 : decode cX1_leastMoves 65 = .ok (.iconst 0, 1) := by decide +kernel
theorem dX1_leastMoves_66 : decode cX1_leastMoves 66 = .ok (.istore 4, 2) := by decide +kernel
theorem dX1_leastMoves_68 : decode cX1_leastMoves 68 = .ok (.iload 4, 2) := by decide +kernel
theorem dX1_leastMoves_70 : decode cX1_leastMoves 70 = .ok (.aload_n 1, 1) := by decide +kernel
theorem dX1_leastMoves_71 : decode cX1_leastMoves 71 = .ok (.getfield 21, 3) := by decide +kernel
theorem dX1_leastMoves_74 : decode cX1_leastMoves 74 = .ok (.getfield 41, 3) := by decide +kernel
theorem dX1_leastMoves_77 : decode cX1_leastMoves 77 = .ok (.if_icmp .ge 16, 3) := by decide +kernel
theorem dX1_leastMoves_80 : decode cX1_leastMoves 80 = .ok (.aload_n 0, 1) := by decide +kernel
theorem dX1_leastMoves_81 : decode cX1_leastMoves 81 = .ok (.aload_n 1, 1) := by decide +kernel
theorem dX1_leastMoves_82 : decode cX1_leastMoves 82 = .ok (.iload 4, 2) := by decide +kernel
theorem dX1_leastMoves_84 : decode cX1_leastMoves 84 = .ok (.invokevirtual 92, 3) := by decide +kernel
theorem dX1_leastMoves_87 : decode cX1_leastMoves 87 = .ok (.iinc 4 1, 3) := by decide +kernel
theorem dX1_leastMoves_90 : decode cX1_leastMoves 90 = .ok (.goto (-22), 3) := by decide +kernel
theorem dX1_leastMoves_93 : decode cX1_leastMoves 93 = .ok (.iinc 3 1, 3) := by decide +kernel
theorem dX1_leastMoves_96 : decode cX1_leastMoves 96 = .ok (.goto (-37), 3) := by decide +kernel
theorem dX1_leastMoves_99 : decode cX1_leastMoves 99 = .ok (.aload_n 0, 1) := by decide +kernel
theorem dX1_leastMoves_100 : decode cX1_leastMoves 100 = .ok (.getfield 9, 3) := by decide +kernel
theorem dX1_leastMoves_103 : decode cX1_leastMoves 103 = .ok (.iload_n 2, 1) := by decide +kernel
theorem dX1_leastMoves_104 : decode cX1_leastMoves 104 = .ok (.iaload, 1) := by decide +kernel
theorem dX1_leastMoves_105 : decode cX1_leastMoves 105 = .ok (.ldc 87, 2) := by decide +kernel
theorem dX1_leastMoves_107 : decode cX1_leastMoves 107 = .ok (.if_icmp .ge 12, 3) := by decide +kernel
theorem dX1_leastMoves_110 : decode cX1_leastMoves 110 = .ok (.aload_n 0, 1) := by decide +kernel
theorem dX1_leastMoves_111 : decode cX1_leastMoves 111 = .ok (.getfield 9, 3) := by decide +kernel
theorem dX1_leastMoves_114 : decode cX1_leastMoves 114 = .ok (.iload_n 2, 1) := by decide +kernel
theorem dX1_leastMoves_115 : decode cX1_leastMoves 115 = .ok (.iaload, 1) := by decide +kernel
theorem dX1_leastMoves_116 : decode cX1_leastMoves 116 = .ok (.goto 5, 3) := by decide +kernel
theorem dX1_leastMoves_119 : decode cX1_leastMoves 119 = .ok (.bipush (-6), 2) := by decide +kernel
theorem dX1_leastMoves_121 : decode cX1_leastMoves 121 = .ok (.ireturn, 1) := by decide +kernel
theorem dX1_spreadFrom_0 : decode cX1_spreadFrom 0 = .ok (.aload_n 1, 1) := by decide +kernel
theorem dX1_spreadFrom_1 : decode cX1_spreadFrom 1 = .ok (.getfield 21, 3) := by decide +kernel
theorem dX1_spreadFrom_4 : decode cX1_spreadFrom 4 = .ok (.iload_n 2, 1) := by decide +kernel
theorem dX1_spreadFrom_5 : decode cX1_spreadFrom 5 = .ok (.invokevirtual 48, 3) := by decide +kernel
theorem dX1_spreadFrom_8 : decode cX1_spreadFrom 8 = .ok (.istore_n 3, 1) := by decide +kernel
theorem dX1_spreadFrom_9 : decode cX1_spreadFrom 9 = .ok (.aload_n 1, 1) := by decide +kernel
theorem dX1_spreadFrom_10 : decode cX1_spreadFrom 10 = .ok (.getfield 21, 3) := by decide +kernel
theorem dX1_spreadFrom_13 : decode cX1_spreadFrom 13 = .ok (.iload_n 3, 1) := by decide +kernel
theorem dX1_spreadFrom_14 : decode cX1_spreadFrom 14 = .ok (.invokevirtual 51, 3) := by decide +kernel
theorem dX1_spreadFrom_17 : decode cX1_spreadFrom 17 = .ok (.astore 4, 2) := by decide +kernel
theorem dX1_spreadFrom_19 : decode cX1_spreadFrom 19 = .ok (.aload 4, 2) := by decide +kernel
theorem dX1_spreadFrom_21 : decode cX1_spreadFrom 21 = .ok (.ifnull 14, 3) := by decide +kernel
theorem dX1_spreadFrom_24 : decode cX1_spreadFrom 24 = .ok (.aload_n 0, 1) := by decide +kernel
theorem dX1_spreadFrom_25 : decode cX1_spreadFrom 25 = .ok (.getfield 9, 3) := by decide +kernel
theorem dX1_spreadFrom_28 : decode cX1_spreadFrom 28 = .ok (.iload_n 3, 1) := by decide +kernel
theorem dX1_spreadFrom_29 : decode cX1_spreadFrom 29 = .ok (.iaload, 1) := by decide +kernel
theorem dX1_spreadFrom_30 : decode cX1_spreadFrom 30 = .ok (.ldc 87, 2) := by decide +kernel
theorem dX1_spreadFrom_32 : decode cX1_spreadFrom 32 = .ok (.if_icmp .lt 4, 3) := by decide +kernel
theorem dX1_spreadFrom_35 : decode cX1_spreadFrom 35 = .ok (.return_, 1) := by decide +kernel
theorem dX1_spreadFrom_36 : decode cX1_spreadFrom 36 = .ok (.aload 4, 2) := by decide +kernel
theorem dX1_spreadFrom_38 : decode cX1_spreadFrom 38 = .ok (.getfield 96, 3) := by decide +kernel
theorem dX1_spreadFrom_41 : decode cX1_spreadFrom 41 = .ok (.astore 5, 2) := by decide +kernel
theorem dX1_spreadFrom_43 : decode cX1_spreadFrom 43 = .ok (.aload 5, 2) := by decide +kernel
theorem dX1_spreadFrom_45 : decode cX1_spreadFrom 45 = .ok (.arraylength, 1) := by decide +kernel
theorem dX1_spreadFrom_46 : decode cX1_spreadFrom 46 = .ok (.istore 6, 2) := by decide +kernel
theorem dX1_spreadFrom_48 : decode cX1_spreadFrom 48 = .ok (.iconst 0, 1) := by decide +kernel
theorem dX1_spreadFrom_49 : decode cX1_spreadFrom 49 = .ok (.istore 7, 2) := by decide +kernel
theorem dX1_spreadFrom_51 : decode cX1_spreadFrom 51 = .ok (.iload 7, 2) := by decide +kernel
theorem dX1_spreadFrom_53 : decode cX1_spreadFrom 53 = .ok (.iload 6, 2) := by decide +kernel
theorem dX1_spreadFrom_55 : decode cX1_spreadFrom 55 = .ok (.if_icmp .ge 30, 3) := by decide +kernel
theorem dX1_spreadFrom_58 : decode cX1_spreadFrom 58 = .ok (.aload 5, 2) := by decide +kernel
theorem dX1_spreadFrom_60 : decode cX1_spreadFrom 60 = .ok (.iload 7, 2) := by decide +kernel
theorem dX1_spreadFrom_62 : decode cX1_spreadFrom 62 = .ok (.iaload, 1) := by decide +kernel
theorem dX1_spreadFrom_63 : decode cX1_spreadFrom 63 = .ok (.istore 8, 2) := by decide +kernel
theorem dX1_spreadFrom_65 : decode cX1_spreadFrom 65 = .ok (.aload_n 0, 1) := by decide +kernel
theorem dX1_spreadFrom_66 : decode cX1_spreadFrom 66 = .ok (.iload 8, 2) := by decide +kernel
theorem dX1_spreadFrom_68 : decode cX1_spreadFrom 68 = .ok (.aload_n 0, 1) := by decide +kernel
theorem dX1_spreadFrom_69 : decode cX1_spreadFrom 69 = .ok (.getfield 9, 3) := by decide +kernel
theorem dX1_spreadFrom_72 : decode cX1_spreadFrom 72 = .ok (.iload_n 3, 1) := by decide +kernel
theorem dX1_spreadFrom_73 : decode cX1_spreadFrom 73 = .ok (.iaload, 1) := by decide +kernel
theorem dX1_spreadFrom_74 : decode cX1_spreadFrom 74 = .ok (.iconst 1, 1) := by decide +kernel
theorem dX1_spreadFrom_75 : decode cX1_spreadFrom 75 = .ok (.iadd, 1) := by decide +kernel
theorem dX1_spreadFrom_76 : decode cX1_spreadFrom 76 = .ok (.invokevirtual 88, 3) := by decide +kernel
theorem dX1_spreadFrom_79 : decode cX1_spreadFrom 79 = .ok (.iinc 7 1, 3) := by decide +kernel
theorem dX1_spreadFrom_82 : decode cX1_spreadFrom 82 = .ok (.goto (-31), 3) := by decide +kernel
theorem dX1_spreadFrom_85 : decode cX1_spreadFrom 85 = .ok (.iload_n 3, 1) := by decide +kernel
theorem dX1_spreadFrom_86 : decode cX1_spreadFrom 86 = .ok (.aload_n 1, 1) := by decide +kernel
theorem dX1_spreadFrom_87 : decode cX1_spreadFrom 87 = .ok (.getfield 25, 3) := by decide +kernel
theorem dX1_spreadFrom_90 : decode cX1_spreadFrom 90 = .ok (.getfield 29, 3) := by decide +kernel
theorem dX1_spreadFrom_93 : decode cX1_spreadFrom 93 = .ok (.if_icmp .ne 13, 3) := by decide +kernel
theorem dX1_spreadFrom_96 : decode cX1_spreadFrom 96 = .ok (.aload_n 1, 1) := by decide +kernel
theorem dX1_spreadFrom_97 : decode cX1_spreadFrom 97 = .ok (.getfield 25, 3) := by decide +kernel
theorem dX1_spreadFrom_100 : decode cX1_spreadFrom 100 = .ok (.getfield 77, 3) := by decide +kernel
theorem dX1_spreadFrom_103 : decode cX1_spreadFrom 103 = .ok (.goto 4, 3) := by decide +kernel
theorem dX1_spreadFrom_106 : decode cX1_spreadFrom 106 = .ok (.iconst 0, 1) := by decide +kernel
theorem dX1_spreadFrom_107 : decode cX1_spreadFrom 107 = .ok (.istore 5, 2) := by decide +kernel
theorem dX1_spreadFrom_109 : decode cX1_spreadFrom 109 = .ok (.aload_n 0, 1) := by decide +kernel
theorem dX1_spreadFrom_110 : decode cX1_spreadFrom 110 = .ok (.aload_n 1, 1) := by decide +kernel
theorem dX1_spreadFrom_111 : decode cX1_spreadFrom 111 = .ok (.getfield 21, 3) := by decide +kernel
theorem dX1_spreadFrom_114 : decode cX1_spreadFrom 114 = .ok (.iload_n 2, 1) := by decide +kernel
theorem dX1_spreadFrom_115 : decode cX1_spreadFrom 115 = .ok (.invokevirtual 80, 3) := by decide +kernel
theorem dX1_spreadFrom_118 : decode cX1_spreadFrom 118 = .ok (.aload_n 0, 1) := by decide +kernel
theorem dX1_spreadFrom_119 : decode cX1_spreadFrom 119 = .ok (.getfield 9, 3) := by decide +kernel
theorem dX1_spreadFrom_122 : decode cX1_spreadFrom 122 = .ok (.iload_n 3, 1) := by decide +kernel
theorem dX1_spreadFrom_123 : decode cX1_spreadFrom 123 = .ok (.iaload, 1) := by decide +kernel
theorem dX1_spreadFrom_124 : decode cX1_spreadFrom 124 = .ok (.aload 4, 2) := by decide +kernel
theorem dX1_spreadFrom_126 : decode cX1_spreadFrom 126 = .ok (.invokevirtual 73, 3) := by decide +kernel
theorem dX1_spreadFrom_129 : decode cX1_spreadFrom 129 = .ok (.iadd, 1) := by decide +kernel
theorem dX1_spreadFrom_130 : decode cX1_spreadFrom 130 = .ok (.iload 5, 2) := by decide +kernel
theorem dX1_spreadFrom_132 : decode cX1_spreadFrom 132 = .ok (.isub, 1) := by decide +kernel
theorem dX1_spreadFrom_133 : decode cX1_spreadFrom 133 = .ok (.iconst 1, 1) := by decide +kernel
theorem dX1_spreadFrom_134 : decode cX1_spreadFrom 134 = .ok (.iadd, 1) := by decide +kernel
theorem dX1_spreadFrom_135 : decode cX1_spreadFrom 135 = .ok (.invokevirtual 88, 3) := by decide +kernel
theorem dX1_spreadFrom_138 : decode cX1_spreadFrom 138 = .ok (.return_, 1) := by decide +kernel
theorem dX1_lower_0 : decode cX1_lower 0 = .ok (.iload_n 1, 1) := by decide +kernel
theorem dX1_lower_1 : decode cX1_lower 1 = .ok (.iconst 0, 1) := by decide +kernel
theorem dX1_lower_2 : decode cX1_lower 2 = .ok (.bipush 9, 2) := by decide +kernel
theorem dX1_lower_4 : decode cX1_lower 4 = .ok (.invokestatic 83, 3) := by decide +kernel
theorem dX1_lower_7 : decode cX1_lower 7 = .ok (.ifCond .eq 20, 3) := by decide +kernel
theorem dX1_lower_10 : decode cX1_lower 10 = .ok (.iload_n 2, 1) := by decide +kernel
theorem dX1_lower_11 : decode cX1_lower 11 = .ok (.aload_n 0, 1) := by decide +kernel
theorem dX1_lower_12 : decode cX1_lower 12 = .ok (.getfield 9, 3) := by decide +kernel
theorem dX1_lower_15 : decode cX1_lower 15 = .ok (.iload_n 1, 1) := by decide +kernel
theorem dX1_lower_16 : decode cX1_lower 16 = .ok (.iaload, 1) := by decide +kernel
theorem dX1_lower_17 : decode cX1_lower 17 = .ok (.if_icmp .ge 10, 3) := by decide +kernel
theorem dX1_lower_20 : decode cX1_lower 20 = .ok (.aload_n 0, 1) := by decide +kernel
theorem dX1_lower_21 : decode cX1_lower 21 = .ok (.getfield 9, 3) := by decide +kernel
theorem dX1_lower_24 : decode cX1_lower 24 = .ok (.iload_n 1, 1) := by decide +kernel
theorem dX1_lower_25 : decode cX1_lower 25 = .ok (.iload_n 2, 1) := by decide +kernel
theorem dX1_lower_26 : decode cX1_lower 26 = .ok (.iastore, 1) := by decide +kernel
theorem dX1_lower_27 : decode cX1_lower 27 = .ok (.return_, 1) := by decide +kernel
theorem dX2_init_0 : decode cX2_init 0 = .ok (.aload_n 0, 1) := by decide +kernel
theorem dX2_init_1 : decode cX2_init 1 = .ok (.invokespecial 3, 3) := by decide +kernel
theorem dX2_init_4 : decode cX2_init 4 = .ok (.aload_n 0, 1) := by decide +kernel
theorem dX2_init_5 : decode cX2_init 5 = .ok (.iconst 4, 1) := by decide +kernel
theorem dX2_init_6 : decode cX2_init 6 = .ok (.anewarray 9, 3) := by decide +kernel
theorem dX2_init_9 : decode cX2_init 9 = .ok (.putfield 11, 3) := by decide +kernel
theorem dX2_init_12 : decode cX2_init 12 = .ok (.iconst 0, 1) := by decide +kernel
theorem dX2_init_13 : decode cX2_init 13 = .ok (.istore_n 1, 1) := by decide +kernel
theorem dX2_init_14 : decode cX2_init 14 = .ok (.iload_n 1, 1) := by decide +kernel
theorem dX2_init_15 : decode cX2_init 15 = .ok (.aload_n 0, 1) := by decide +kernel
theorem dX2_init_16 : decode cX2_init 16 = .ok (.getfield 11, 3) := by decide +kernel
theorem dX2_init_19 : decode cX2_init 19 = .ok (.arraylength, 1) := by decide +kernel
theorem dX2_init_20 : decode cX2_init 20 = .ok (.if_icmp .ge 22, 3) := by decide +kernel
theorem dX2_init_23 : decode cX2_init 23 = .ok (.aload_n 0, 1) := by decide +kernel
theorem dX2_init_24 : decode cX2_init 24 = .ok (.getfield 11, 3) := by decide +kernel
theorem dX2_init_27 : decode cX2_init 27 = .ok (.iload_n 1, 1) := by decide +kernel
theorem dX2_init_28 : decode cX2_init 28 = .ok (.new 9, 3) := by decide +kernel
theorem dX2_init_31 : decode cX2_init 31 = .ok (.dup, 1) := by decide +kernel
theorem dX2_init_32 : decode cX2_init 32 = .ok (.invokespecial 17, 3) := by decide +kernel
theorem dX2_init_35 : decode cX2_init 35 = .ok (.aastore, 1) := by decide +kernel
theorem dX2_init_36 : decode cX2_init 36 = .ok (.iinc 1 1, 3) := by decide +kernel
theorem dX2_init_39 : decode cX2_init 39 = .ok (.goto (-25), 3) := by decide +kernel
theorem dX2_init_42 : decode cX2_init 42 = .ok (.return_, 1) := by decide +kernel
theorem dX2_keep_0 : decode cX2_keep 0 = .ok (.aload_n 0, 1) := by decide +kernel
theorem dX2_keep_1 : decode cX2_keep 1 = .ok (.getfield 18, 3) := by decide +kernel
theorem dX2_keep_4 : decode cX2_keep 4 = .ok (.iconst 4, 1) := by decide +kernel
theorem dX2_keep_5 : decode cX2_keep 5 = .ok (.if_icmp .lt 7, 3) := by decide +kernel
theorem dX2_keep_8 : decode cX2_keep 8 = .ok (.aload_n 0, 1) := by decide +kernel
theorem dX2_keep_9 : decode cX2_keep 9 = .ok (.invokevirtual 22, 3) := by decide +kernel
theorem dX2_keep_12 : decode cX2_keep 12 = .ok (.aload_n 0, 1) := by decide +kernel
theorem dX2_keep_13 : decode cX2_keep 13 = .ok (.getfield 11, 3) := by decide +kernel
theorem dX2_keep_16 : decode cX2_keep 16 = .ok (.aload_n 0, 1) := by decide +kernel
theorem dX2_keep_17 : decode cX2_keep 17 = .ok (.getfield 18, 3) := by decide +kernel
theorem dX2_keep_20 : decode cX2_keep 20 = .ok (.aaload, 1) := by decide +kernel
theorem dX2_keep_21 : decode cX2_keep 21 = .ok (.aload_n 1, 1) := by decide +kernel
theorem dX2_keep_22 : decode cX2_keep 22 = .ok (.invokevirtual 25, 3) := by decide +kernel
theorem dX2_keep_25 : decode cX2_keep 25 = .ok (.aload_n 0, 1) := by decide +kernel
theorem dX2_keep_26 : decode cX2_keep 26 = .ok (.dup, 1) := by decide +kernel
theorem dX2_keep_27 : decode cX2_keep 27 = .ok (.getfield 18, 3) := by decide +kernel
theorem dX2_keep_30 : decode cX2_keep 30 = .ok (.iconst 1, 1) := by decide +kernel
theorem dX2_keep_31 : decode cX2_keep 31 = .ok (.iadd, 1) := by decide +kernel
theorem dX2_keep_32 : decode cX2_keep 32 = .ok (.putfield 18, 3) := by decide +kernel
theorem dX2_keep_35 : decode cX2_keep 35 = .ok (.return_, 1) := by decide +kernel
theorem dX2_dropOldest_0 : decode cX2_dropOldest 0 = .ok (.aload_n 0, 1) := by decide +kernel
theorem dX2_dropOldest_1 : decode cX2_dropOldest 1 = .ok (.getfield 11, 3) := by decide +kernel
theorem dX2_dropOldest_4 : decode cX2_dropOldest 4 = .ok (.iconst 0, 1) := by decide +kernel
theorem dX2_dropOldest_5 : decode cX2_dropOldest 5 = .ok (.aaload, 1) := by decide +kernel
theorem dX2_dropOldest_6 : decode cX2_dropOldest 6 = .ok (.astore_n 1, 1) := by decide +kernel
theorem dX2_dropOldest_7 : decode cX2_dropOldest 7 = .ok (.aload_n 0, 1) := by decide +kernel
theorem dX2_dropOldest_8 : decode cX2_dropOldest 8 = .ok (.iconst 3, 1) := by decide +kernel
theorem dX2_dropOldest_9 : decode cX2_dropOldest 9 = .ok (.putfield 18, 3) := by decide +kernel
theorem dX2_dropOldest_12 : decode cX2_dropOldest 12 = .ok (.iconst 0, 1) := by decide +kernel
theorem dX2_dropOldest_13 : decode cX2_dropOldest 13 = .ok (.istore_n 2, 1) := by decide +kernel
theorem dX2_dropOldest_14 : decode cX2_dropOldest 14 = .ok (.iload_n 2, 1) := by decide +kernel
theorem dX2_dropOldest_15 : decode cX2_dropOldest 15 = .ok (.aload_n 0, 1) := by decide +kernel
theorem dX2_dropOldest_16 : decode cX2_dropOldest 16 = .ok (.getfield 18, 3) := by decide +kernel
theorem dX2_dropOldest_19 : decode cX2_dropOldest 19 = .ok (.if_icmp .ge 23, 3) := by decide +kernel
theorem dX2_dropOldest_22 : decode cX2_dropOldest 22 = .ok (.aload_n 0, 1) := by decide +kernel
theorem dX2_dropOldest_23 : decode cX2_dropOldest 23 = .ok (.getfield 11, 3) := by decide +kernel
theorem dX2_dropOldest_26 : decode cX2_dropOldest 26 = .ok (.iload_n 2, 1) := by decide +kernel
theorem dX2_dropOldest_27 : decode cX2_dropOldest 27 = .ok (.aload_n 0, 1) := by decide +kernel
theorem dX2_dropOldest_28 : decode cX2_dropOldest 28 = .ok (.getfield 11, 3) := by decide +kernel
theorem dX2_dropOldest_31 : decode cX2_dropOldest 31 = .ok (.iload_n 2, 1) := by decide +kernel
theorem dX2_dropOldest_32 : decode cX2_dropOldest 32 = .ok (.iconst 1, 1) := by decide +kernel
theorem dX2_dropOldest_33 : decode cX2_dropOldest 33 = .ok (.iadd, 1) := by decide +kernel
theorem dX2_dropOldest_34 : decode cX2_dropOldest 34 = .ok (.aaload, 1) := by decide +kernel
theorem dX2_dropOldest_35 : decode cX2_dropOldest 35 = .ok (.aastore, 1) := by decide +kernel
theorem dX2_dropOldest_36 : decode cX2_dropOldest 36 = .ok (.iinc 2 1, 3) := by decide +kernel
theorem dX2_dropOldest_39 : decode cX2_dropOldest 39 = .ok (.goto (-25), 3) := by decide +kernel
theorem dX2_dropOldest_42 : decode cX2_dropOldest 42 = .ok (.aload_n 0, 1) := by decide +kernel
theorem dX2_dropOldest_43 : decode cX2_dropOldest 43 = .ok (.getfield 11, 3) := by decide +kernel
theorem dX2_dropOldest_46 : decode cX2_dropOldest 46 = .ok (.aload_n 0, 1) := by decide +kernel
theorem dX2_dropOldest_47 : decode cX2_dropOldest 47 = .ok (.getfield 18, 3) := by decide +kernel
theorem dX2_dropOldest_50 : decode cX2_dropOldest 50 = .ok (.aload_n 1, 1) := by decide +kernel
theorem dX2_dropOldest_51 : decode cX2_dropOldest 51 = .ok (.aastore, 1) := by decide +kernel
theorem dX2_dropOldest_52 : decode cX2_dropOldest 52 = .ok (.return_, 1) := by decide +kernel
theorem dX2_restore_0 : decode cX2_restore 0 = .ok (.aload_n 0, 1) := by decide +kernel
theorem dX2_restore_1 : decode cX2_restore 1 = .ok (.getfield 18, 3) := by decide +kernel
theorem dX2_restore_4 : decode cX2_restore 4 = .ok (.ifCond .le 26, 3) := by decide +kernel
theorem dX2_restore_7 : decode cX2_restore 7 = .ok (.aload_n 0, 1) := by decide +kernel
theorem dX2_restore_8 : decode cX2_restore 8 = .ok (.dup, 1) := by decide +kernel
theorem dX2_restore_9 : decode cX2_restore 9 = .ok (.getfield 18, 3) := by decide +kernel
theorem dX2_restore_12 : decode cX2_restore 12 = .ok (.iconst 1, 1) := by decide +kernel
theorem dX2_restore_13 : decode cX2_restore 13 = .ok (.isub, 1) := by decide +kernel
theorem dX2_restore_14 : decode cX2_restore 14 = .ok (.putfield 18, 3) := by decide +kernel
theorem dX2_restore_17 : decode cX2_restore 17 = .ok (.aload_n 1, 1) := by decide +kernel
theorem dX2_restore_18 : decode cX2_restore 18 = .ok (.aload_n 0, 1) := by decide +kernel
theorem dX2_restore_19 : decode cX2_restore 19 = .ok (.getfield 11, 3) := by decide +kernel
theorem dX2_restore_22 : decode cX2_restore 22 = .ok (.aload_n 0, 1) := by decide +kernel
theorem dX2_restore_23 : decode cX2_restore 23 = .ok (.getfield 18, 3) := by decide +kernel
theorem dX2_restore_26 : decode cX2_restore 26 = .ok (.aaload, 1) := by decide +kernel
theorem dX2_restore_27 : decode cX2_restore 27 = .ok (.invokevirtual 25, 3) := by decide +kernel
theorem dX2_restore_30 : decode cX2_restore 30 = .ok (.return_, 1) := by decide +kernel
theorem dX3_init_0 : decode cX3_init 0 = .ok (.aload_n 0, 1) := by decide +kernel
theorem dX3_init_1 : decode cX3_init 1 = .ok (.invokespecial 3, 3) := by decide +kernel
theorem dX3_init_4 : decode cX3_init 4 = .ok (.aload_n 0, 1) := by decide +kernel
theorem dX3_init_5 : decode cX3_init 5 = .ok (.bipush 8, 2) := by decide +kernel
theorem dX3_init_7 : decode cX3_init 7 = .ok (.newarray .int, 2) := by decide +kernel
theorem dX3_init_9 : decode cX3_init 9 = .ok (.putfield 9, 3) := by decide +kernel
theorem dX3_init_12 : decode cX3_init 12 = .ok (.aload_n 0, 1) := by decide +kernel
theorem dX3_init_13 : decode cX3_init 13 = .ok (.bipush 8, 2) := by decide +kernel
theorem dX3_init_15 : decode cX3_init 15 = .ok (.newarray .int, 2) := by decide +kernel
theorem dX3_init_17 : decode cX3_init 17 = .ok (.putfield 15, 3) := by decide +kernel
theorem dX3_init_20 : decode cX3_init 20 = .ok (.return_, 1) := by decide +kernel
theorem dX3_copyFrom_0 : decode cX3_copyFrom 0 = .ok (.aload_n 0, 1) := by decide +kernel
theorem dX3_copyFrom_1 : decode cX3_copyFrom 1 = .ok (.aload_n 1, 1) := by decide +kernel
theorem dX3_copyFrom_2 : decode cX3_copyFrom 2 = .ok (.getfield 18, 3) := by decide +kernel
theorem dX3_copyFrom_5 : decode cX3_copyFrom 5 = .ok (.putfield 18, 3) := by decide +kernel
theorem dX3_copyFrom_8 : decode cX3_copyFrom 8 = .ok (.aload_n 1, 1) := by decide +kernel
theorem dX3_copyFrom_9 : decode cX3_copyFrom 9 = .ok (.getfield 9, 3) := by decide +kernel
theorem dX3_copyFrom_12 : decode cX3_copyFrom 12 = .ok (.iconst 0, 1) := by decide +kernel
theorem dX3_copyFrom_13 : decode cX3_copyFrom 13 = .ok (.aload_n 0, 1) := by decide +kernel
theorem dX3_copyFrom_14 : decode cX3_copyFrom 14 = .ok (.getfield 9, 3) := by decide +kernel
theorem dX3_copyFrom_17 : decode cX3_copyFrom 17 = .ok (.iconst 0, 1) := by decide +kernel
theorem dX3_copyFrom_18 : decode cX3_copyFrom 18 = .ok (.bipush 8, 2) := by decide +kernel
theorem dX3_copyFrom_20 : decode cX3_copyFrom 20 = .ok (.invokestatic 22, 3) := by decide +kernel
theorem dX3_copyFrom_23 : decode cX3_copyFrom 23 = .ok (.aload_n 1, 1) := by decide +kernel
theorem dX3_copyFrom_24 : decode cX3_copyFrom 24 = .ok (.getfield 15, 3) := by decide +kernel
theorem dX3_copyFrom_27 : decode cX3_copyFrom 27 = .ok (.iconst 0, 1) := by decide +kernel
theorem dX3_copyFrom_28 : decode cX3_copyFrom 28 = .ok (.aload_n 0, 1) := by decide +kernel
theorem dX3_copyFrom_29 : decode cX3_copyFrom 29 = .ok (.getfield 15, 3) := by decide +kernel
theorem dX3_copyFrom_32 : decode cX3_copyFrom 32 = .ok (.iconst 0, 1) := by decide +kernel
theorem dX3_copyFrom_33 : decode cX3_copyFrom 33 = .ok (.bipush 8, 2) := by decide +kernel
theorem dX3_copyFrom_35 : decode cX3_copyFrom 35 = .ok (.invokestatic 22, 3) := by decide +kernel
theorem dX3_copyFrom_38 : decode cX3_copyFrom 38 = .ok (.return_, 1) := by decide +kernel
theorem dX3_placeOf_0 : decode cX3_placeOf 0 = .ok (.iconst 0, 1) := by decide +kernel
theorem dX3_placeOf_1 : decode cX3_placeOf 1 = .ok (.istore_n 2, 1) := by decide +kernel
theorem dX3_placeOf_2 : decode cX3_placeOf 2 = .ok (.iload_n 2, 1) := by decide +kernel
theorem dX3_placeOf_3 : decode cX3_placeOf 3 = .ok (.aload_n 0, 1) := by decide +kernel
theorem dX3_placeOf_4 : decode cX3_placeOf 4 = .ok (.getfield 18, 3) := by decide +kernel
theorem dX3_placeOf_7 : decode cX3_placeOf 7 = .ok (.if_icmp .ge 21, 3) := by decide +kernel
theorem dX3_placeOf_10 : decode cX3_placeOf 10 = .ok (.aload_n 0, 1) := by decide +kernel
theorem dX3_placeOf_11 : decode cX3_placeOf 11 = .ok (.getfield 9, 3) := by decide +kernel
theorem dX3_placeOf_14 : decode cX3_placeOf 14 = .ok (.iload_n 2, 1) := by decide +kernel
theorem dX3_placeOf_15 : decode cX3_placeOf 15 = .ok (.iaload, 1) := by decide +kernel
theorem dX3_placeOf_16 : decode cX3_placeOf 16 = .ok (.iload_n 1, 1) := by decide +kernel
theorem dX3_placeOf_17 : decode cX3_placeOf 17 = .ok (.if_icmp .ne 5, 3) := by decide +kernel
theorem dX3_placeOf_20 : decode cX3_placeOf 20 = .ok (.iload_n 2, 1) := by decide +kernel
theorem dX3_placeOf_21 : decode cX3_placeOf 21 = .ok (.ireturn, 1) := by decide +kernel
theorem dX3_placeOf_22 : decode cX3_placeOf 22 = .ok (.iinc 2 1, 3) := by decide +kernel
theorem dX3_placeOf_25 : decode cX3_placeOf 25 = .ok (.goto (-23), 3) := by decide +kernel
theorem dX3_placeOf_28 : decode cX3_placeOf 28 = .ok (.iconst (-1), 1) := by decide +kernel
theorem dX3_placeOf_29 : decode cX3_placeOf 29 = .ok (.ireturn, 1) := by decide +kernel
theorem dX3_putAt_0 : decode cX3_putAt 0 = .ok (.iload_n 1, 1) := by decide +kernel
theorem dX3_putAt_1 : decode cX3_putAt 1 = .ok (.iconst (-1), 1) := by decide +kernel
theorem dX3_putAt_2 : decode cX3_putAt 2 = .ok (.if_icmp .ne 10, 3) := by decide +kernel
theorem dX3_putAt_5 : decode cX3_putAt 5 = .ok (.aload_n 0, 1) := by decide +kernel
theorem dX3_putAt_6 : decode cX3_putAt 6 = .ok (.getfield 18, 3) := by decide +kernel
theorem dX3_putAt_9 : decode cX3_putAt 9 = .ok (.goto 4, 3) := by decide +kernel
theorem dX3_putAt_12 : decode cX3_putAt 12 = .ok (.iload_n 1, 1) := by decide +kernel
theorem dX3_putAt_13 : decode cX3_putAt 13 = .ok (.istore 4, 2) := by decide +kernel
theorem dX3_putAt_15 : decode cX3_putAt 15 = .ok (.iload 4, 2) := by decide +kernel
theorem dX3_putAt_17 : decode cX3_putAt 17 = .ok (.iconst 0, 1) := by decide +kernel
theorem dX3_putAt_18 : decode cX3_putAt 18 = .ok (.bipush 7, 2) := by decide +kernel
theorem dX3_putAt_20 : decode cX3_putAt 20 = .ok (.invokestatic 28, 3) := by decide +kernel
theorem dX3_putAt_23 : decode cX3_putAt 23 = .ok (.ifCond .ne 4, 3) := by decide +kernel
theorem dX3_putAt_26 : decode cX3_putAt 26 = .ok (.return_, 1) := by decide +kernel
theorem dX3_putAt_27 : decode cX3_putAt 27 = .ok (.aload_n 0, 1) := by decide +kernel
theorem dX3_putAt_28 : decode cX3_putAt 28 = .ok (.getfield 9, 3) := by decide +kernel
theorem dX3_putAt_31 : decode cX3_putAt 31 = .ok (.iload 4, 2) := by decide +kernel
theorem dX3_putAt_33 : decode cX3_putAt 33 = .ok (.iload_n 2, 1) := by decide +kernel
theorem dX3_putAt_34 : decode cX3_putAt 34 = .ok (.iastore, 1) := by decide +kernel
theorem dX3_putAt_35 : decode cX3_putAt 35 = .ok (.aload_n 0, 1) := by decide +kernel
theorem dX3_putAt_36 : decode cX3_putAt 36 = .ok (.getfield 15, 3) := by decide +kernel
theorem dX3_putAt_39 : decode cX3_putAt 39 = .ok (.iload 4, 2) := by decide +kernel
theorem dX3_putAt_41 : decode cX3_putAt 41 = .ok (.iload_n 3, 1) := by decide +kernel
theorem dX3_putAt_42 : decode cX3_putAt 42 = .ok (.iastore, 1) := by decide +kernel
theorem dX3_putAt_43 : decode cX3_putAt 43 = .ok (.iload 4, 2) := by decide +kernel
theorem dX3_putAt_45 : decode cX3_putAt 45 = .ok (.aload_n 0, 1) := by decide +kernel
theorem dX3_putAt_46 : decode cX3_putAt 46 = .ok (.getfield 18, 3) := by decide +kernel
theorem dX3_putAt_49 : decode cX3_putAt 49 = .ok (.if_icmp .ne 13, 3) := by decide +kernel
theorem dX3_putAt_52 : decode cX3_putAt 52 = .ok (.aload_n 0, 1) := by decide +kernel
theorem dX3_putAt_53 : decode cX3_putAt 53 = .ok (.dup, 1) := by decide +kernel
theorem dX3_putAt_54 : decode cX3_putAt 54 = .ok (.getfield 18, 3) := by decide +kernel
theorem dX3_putAt_57 : decode cX3_putAt 57 = .ok (.iconst 1, 1) := by decide +kernel
theorem dX3_putAt_58 : decode cX3_putAt 58 = .ok (.iadd, 1) := by decide +kernel
theorem dX3_putAt_59 : decode cX3_putAt 59 = .ok (.putfield 18, 3) := by decide +kernel
theorem dX3_putAt_62 : decode cX3_putAt 62 = .ok (.return_, 1) := by decide +kernel
theorem dX3_dropAt_0 : decode cX3_dropAt 0 = .ok (.iload_n 1, 1) := by decide +kernel
theorem dX3_dropAt_1 : decode cX3_dropAt 1 = .ok (.iconst 0, 1) := by decide +kernel
theorem dX3_dropAt_2 : decode cX3_dropAt 2 = .ok (.aload_n 0, 1) := by decide +kernel
theorem dX3_dropAt_3 : decode cX3_dropAt 3 = .ok (.getfield 18, 3) := by decide +kernel
theorem dX3_dropAt_6 : decode cX3_dropAt 6 = .ok (.iconst 1, 1) := by decide +kernel
theorem dX3_dropAt_7 : decode cX3_dropAt 7 = .ok (.isub, 1) := by decide +kernel
theorem dX3_dropAt_8 : decode cX3_dropAt 8 = .ok (.invokestatic 28, 3) := by decide +kernel
theorem dX3_dropAt_11 : decode cX3_dropAt 11 = .ok (.ifCond .ne 4, 3) := by decide +kernel
theorem dX3_dropAt_14 : decode cX3_dropAt 14 = .ok (.return_, 1) := by decide +kernel
theorem dX3_dropAt_15 : decode cX3_dropAt 15 = .ok (.aload_n 0, 1) := by decide +kernel
theorem dX3_dropAt_16 : decode cX3_dropAt 16 = .ok (.dup, 1) := by decide +kernel
theorem dX3_dropAt_17 : decode cX3_dropAt 17 = .ok (.getfield 18, 3) := by decide +kernel
theorem dX3_dropAt_20 : decode cX3_dropAt 20 = .ok (.iconst 1, 1) := by decide +kernel
theorem dX3_dropAt_21 : decode cX3_dropAt 21 = .ok (.isub, 1) := by decide +kernel
theorem dX3_dropAt_22 : decode cX3_dropAt 22 = .ok (.putfield 18, 3) := by decide +kernel
theorem dX3_dropAt_25 : decode cX3_dropAt 25 = .ok (.aload_n 0, 1) := by decide +kernel
theorem dX3_dropAt_26 : decode cX3_dropAt 26 = .ok (.getfield 9, 3) := by decide +kernel
theorem dX3_dropAt_29 : decode cX3_dropAt 29 = .ok (.iload_n 1, 1) := by decide +kernel
theorem dX3_dropAt_30 : decode cX3_dropAt 30 = .ok (.aload_n 0, 1) := by decide +kernel
theorem dX3_dropAt_31 : decode cX3_dropAt 31 = .ok (.getfield 9, 3) := by decide +kernel
theorem dX3_dropAt_34 : decode cX3_dropAt 34 = .ok (.aload_n 0, 1) := by decide +kernel
theorem dX3_dropAt_35 : decode cX3_dropAt 35 = .ok (.getfield 18, 3) := by decide +kernel
theorem dX3_dropAt_38 : decode cX3_dropAt 38 = .ok (.iaload, 1) := by decide +kernel
theorem dX3_dropAt_39 : decode cX3_dropAt 39 = .ok (.iastore, 1) := by decide +kernel
theorem dX3_dropAt_40 : decode cX3_dropAt 40 = .ok (.aload_n 0, 1) := by decide +kernel
theorem dX3_dropAt_41 : decode cX3_dropAt 41 = .ok (.getfield 15, 3) := by decide +kernel
theorem dX3_dropAt_44 : decode cX3_dropAt 44 = .ok (.iload_n 1, 1) := by decide +kernel
theorem dX3_dropAt_45 : decode cX3_dropAt 45 = .ok (.aload_n 0, 1) := by decide +kernel
theorem dX3_dropAt_46 : decode cX3_dropAt 46 = .ok (.getfield 15, 3) := by decide +kernel
theorem dX3_dropAt_49 : decode cX3_dropAt 49 = .ok (.aload_n 0, 1) := by decide +kernel
theorem dX3_dropAt_50 : decode cX3_dropAt 50 = .ok (.getfield 18, 3) := by decide +kernel
theorem dX3_dropAt_53 : decode cX3_dropAt 53 = .ok (.iaload, 1) := by decide +kernel
theorem dX3_dropAt_54 : decode cX3_dropAt 54 = .ok (.iastore, 1) := by decide +kernel
theorem dX3_dropAt_55 : decode cX3_dropAt 55 = .ok (.return_, 1) := by decide +kernel
theorem dX3_latestAt_0 : decode cX3_latestAt 0 = .ok (.iconst (-1), 1) := by decide +kernel
theorem dX3_latestAt_1 : decode cX3_latestAt 1 = .ok (.istore_n 2, 1) := by decide +kernel
theorem dX3_latestAt_2 : decode cX3_latestAt 2 = .ok (.bipush (-6), 2) := by decide +kernel
theorem dX3_latestAt_4 : decode cX3_latestAt 4 = .ok (.istore_n 3, 1) := by decide +kernel
theorem dX3_latestAt_5 : decode cX3_latestAt 5 = .ok (.iconst 0, 1) := by decide +kernel
theorem dX3_latestAt_6 : decode cX3_latestAt 6 = .ok (.istore 4, 2) := by decide +kernel
theorem dX3_latestAt_8 : decode cX3_latestAt 8 = .ok (.iload 4, 2) := by decide +kernel
theorem dX3_latestAt_10 : decode cX3_latestAt 10 = .ok (.aload_n 0, 1) := by decide +kernel
theorem dX3_latestAt_11 : decode cX3_latestAt 11 = .ok (.getfield 18, 3) := by decide +kernel
theorem dX3_latestAt_14 : decode cX3_latestAt 14 = .ok (.if_icmp .ge 47, 3) := by decide +kernel
theorem dX3_latestAt_17 : decode cX3_latestAt 17 = .ok (.aload_n 0, 1) := by decide +kernel
theorem dX3_latestAt_18 : decode cX3_latestAt 18 = .ok (.getfield 9, 3) := by decide +kernel
theorem dX3_latestAt_21 : decode cX3_latestAt 21 = .ok (.iload 4, 2) := by decide +kernel
theorem dX3_latestAt_23 : decode cX3_latestAt 23 = .ok (.iaload, 1) := by decide +kernel
theorem dX3_latestAt_24 : decode cX3_latestAt 24 = .ok (.iload_n 1, 1) := by decide +kernel
theorem dX3_latestAt_25 : decode cX3_latestAt 25 = .ok (.if_icmp .gt 30, 3) := by decide +kernel
theorem dX3_latestAt_28 : decode cX3_latestAt 28 = .ok (.aload_n 0, 1) := by decide +kernel
theorem dX3_latestAt_29 : decode cX3_latestAt 29 = .ok (.getfield 9, 3) := by decide +kernel
theorem dX3_latestAt_32 : decode cX3_latestAt 32 = .ok (.iload 4, 2) := by decide +kernel
theorem dX3_latestAt_34 : decode cX3_latestAt 34 = .ok (.iaload, 1) := by decide +kernel
theorem dX3_latestAt_35 : decode cX3_latestAt 35 = .ok (.iload_n 2, 1) := by decide +kernel
theorem dX3_latestAt_36 : decode cX3_latestAt 36 = .ok (.if_icmp .le 19, 3) := by decide +kernel
theorem dX3_latestAt_39 : decode cX3_latestAt 39 = .ok (.aload_n 0, 1) := by decide +kernel
theorem dX3_latestAt_40 : decode cX3_latestAt 40 = .ok (.getfield 9, 3) := by decide +kernel
theorem dX3_latestAt_43 : decode cX3_latestAt 43 = .ok (.iload 4, 2) := by decide +kernel
theorem dX3_latestAt_45 : decode cX3_latestAt 45 = .ok (.iaload, 1) := by decide +kernel
theorem dX3_latestAt_46 : decode cX3_latestAt 46 = .ok (.istore_n 2, 1) := by decide +kernel
theorem dX3_latestAt_47 : decode cX3_latestAt 47 = .ok (.aload_n 0, 1) := by decide +kernel
theorem dX3_latestAt_48 : decode cX3_latestAt 48 = .ok (.getfield 15, 3) := by decide +kernel
theorem dX3_latestAt_51 : decode cX3_latestAt 51 = .ok (.iload 4, 2) := by decide +kernel
theorem dX3_latestAt_53 : decode cX3_latestAt 53 = .ok (.iaload, 1) := by decide +kernel
theorem dX3_latestAt_54 : decode cX3_latestAt 54 = .ok (.istore_n 3, 1) := by decide +kernel
theorem dX3_latestAt_55 : decode cX3_latestAt 55 = .ok (.iinc 4 1, 3) := by decide +kernel
theorem dX3_latestAt_58 : decode cX3_latestAt 58 = .ok (.goto (-50), 3) := by decide +kernel
theorem dX3_latestAt_61 : decode cX3_latestAt 61 = .ok (.iload_n 3, 1) := by decide +kernel
theorem dX3_latestAt_62 : decode cX3_latestAt 62 = .ok (.ireturn, 1) := by decide +kernel
theorem dX4_init_0 : decode cX4_init 0 = .ok (.aload_n 0, 1) := by decide +kernel
theorem dX4_init_1 : decode cX4_init 1 = .ok (.invokespecial 3, 3) := by decide +kernel
theorem dX4_init_4 : decode cX4_init 4 = .ok (.aload_n 0, 1) := by decide +kernel
theorem dX4_init_5 : decode cX4_init 5 = .ok (.bipush (-6), 2) := by decide +kernel
theorem dX4_init_7 : decode cX4_init 7 = .ok (.putfield 9, 3) := by decide +kernel
theorem dX4_init_10 : decode cX4_init 10 = .ok (.aload_n 0, 1) := by decide +kernel
theorem dX4_init_11 : decode cX4_init 11 = .ok (.bipush (-6), 2) := by decide +kernel
theorem dX4_init_13 : decode cX4_init 13 = .ok (.putfield 15, 3) := by decide +kernel
theorem dX4_init_16 : decode cX4_init 16 = .ok (.aload_n 0, 1) := by decide +kernel
theorem dX4_init_17 : decode cX4_init 17 = .ok (.bipush (-6), 2) := by decide +kernel
theorem dX4_init_19 : decode cX4_init 19 = .ok (.putfield 18, 3) := by decide +kernel
theorem dX4_init_22 : decode cX4_init 22 = .ok (.aload_n 0, 1) := by decide +kernel
theorem dX4_init_23 : decode cX4_init 23 = .ok (.bipush (-6), 2) := by decide +kernel
theorem dX4_init_25 : decode cX4_init 25 = .ok (.putfield 21, 3) := by decide +kernel
theorem dX4_init_28 : decode cX4_init 28 = .ok (.return_, 1) := by decide +kernel
theorem dX5_init_0 : decode cX5_init 0 = .ok (.aload_n 0, 1) := by decide +kernel
theorem dX5_init_1 : decode cX5_init 1 = .ok (.invokespecial 3, 3) := by decide +kernel
theorem dX5_init_4 : decode cX5_init 4 = .ok (.aload_n 0, 1) := by decide +kernel
theorem dX5_init_5 : decode cX5_init 5 = .ok (.bipush 60, 2) := by decide +kernel
theorem dX5_init_7 : decode cX5_init 7 = .ok (.newarray .char, 2) := by decide +kernel
theorem dX5_init_9 : decode cX5_init 9 = .ok (.putfield 9, 3) := by decide +kernel
theorem dX5_init_12 : decode cX5_init 12 = .ok (.return_, 1) := by decide +kernel
theorem dX6_init_0 : decode cX6_init 0 = .ok (.aload_n 0, 1) := by decide +kernel
theorem dX6_init_1 : decode cX6_init 1 = .ok (.invokespecial 3, 3) := by decide +kernel
theorem dX6_init_4 : decode cX6_init 4 = .ok (.aload_n 0, 1) := by decide +kernel
theorem dX6_init_5 : decode cX6_init 5 = .ok (.iconst (-1), 1) := by decide +kernel
theorem dX6_init_6 : decode cX6_init 6 = .ok (.putfield 9, 3) := by decide +kernel
theorem dX6_init_9 : decode cX6_init 9 = .ok (.aload_n 0, 1) := by decide +kernel
theorem dX6_init_10 : decode cX6_init 10 = .ok (.bipush 40, 2) := by decide +kernel
theorem dX6_init_12 : decode cX6_init 12 = .ok (.newarray .int, 2) := by decide +kernel
theorem dX6_init_14 : decode cX6_init 14 = .ok (.putfield 15, 3) := by decide +kernel
theorem dX6_init_17 : decode cX6_init 17 = .ok (.aload_n 0, 1) := by decide +kernel
theorem dX6_init_18 : decode cX6_init 18 = .ok (.bipush 40, 2) := by decide +kernel
theorem dX6_init_20 : decode cX6_init 20 = .ok (.newarray .int, 2) := by decide +kernel
theorem dX6_init_22 : decode cX6_init 22 = .ok (.putfield 19, 3) := by decide +kernel
theorem dX6_init_25 : decode cX6_init 25 = .ok (.aload_n 0, 1) := by decide +kernel
theorem dX6_init_26 : decode cX6_init 26 = .ok (.bipush 40, 2) := by decide +kernel
theorem dX6_init_28 : decode cX6_init 28 = .ok (.newarray .int, 2) := by decide +kernel
theorem dX6_init_30 : decode cX6_init 30 = .ok (.putfield 22, 3) := by decide +kernel
theorem dX6_init_33 : decode cX6_init 33 = .ok (.return_, 1) := by decide +kernel
theorem dX6_copyFrom_0 : decode cX6_copyFrom 0 = .ok (.aload_n 0, 1) := by decide +kernel
theorem dX6_copyFrom_1 : decode cX6_copyFrom 1 = .ok (.aload_n 1, 1) := by decide +kernel
theorem dX6_copyFrom_2 : decode cX6_copyFrom 2 = .ok (.getfield 9, 3) := by decide +kernel
theorem dX6_copyFrom_5 : decode cX6_copyFrom 5 = .ok (.putfield 9, 3) := by decide +kernel
theorem dX6_copyFrom_8 : decode cX6_copyFrom 8 = .ok (.aload_n 0, 1) := by decide +kernel
theorem dX6_copyFrom_9 : decode cX6_copyFrom 9 = .ok (.aload_n 1, 1) := by decide +kernel
theorem dX6_copyFrom_10 : decode cX6_copyFrom 10 = .ok (.getfield 25, 3) := by decide +kernel
theorem dX6_copyFrom_13 : decode cX6_copyFrom 13 = .ok (.putfield 25, 3) := by decide +kernel
theorem dX6_copyFrom_16 : decode cX6_copyFrom 16 = .ok (.aload_n 0, 1) := by decide +kernel
theorem dX6_copyFrom_17 : decode cX6_copyFrom 17 = .ok (.aload_n 1, 1) := by decide +kernel
theorem dX6_copyFrom_18 : decode cX6_copyFrom 18 = .ok (.getfield 28, 3) := by decide +kernel
theorem dX6_copyFrom_21 : decode cX6_copyFrom 21 = .ok (.putfield 28, 3) := by decide +kernel
theorem dX6_copyFrom_24 : decode cX6_copyFrom 24 = .ok (.aload_n 0, 1) := by decide +kernel
theorem dX6_copyFrom_25 : decode cX6_copyFrom 25 = .ok (.aload_n 1, 1) := by decide +kernel
theorem dX6_copyFrom_26 : decode cX6_copyFrom 26 = .ok (.getfield 31, 3) := by decide +kernel
theorem dX6_copyFrom_29 : decode cX6_copyFrom 29 = .ok (.putfield 31, 3) := by decide +kernel
theorem dX6_copyFrom_32 : decode cX6_copyFrom 32 = .ok (.aload_n 0, 1) := by decide +kernel
theorem dX6_copyFrom_33 : decode cX6_copyFrom 33 = .ok (.aload_n 1, 1) := by decide +kernel
theorem dX6_copyFrom_34 : decode cX6_copyFrom 34 = .ok (.getfield 34, 3) := by decide +kernel
theorem dX6_copyFrom_37 : decode cX6_copyFrom 37 = .ok (.putfield 34, 3) := by decide +kernel
theorem dX6_copyFrom_40 : decode cX6_copyFrom 40 = .ok (.aload_n 0, 1) := by decide +kernel
theorem dX6_copyFrom_41 : decode cX6_copyFrom 41 = .ok (.aload_n 1, 1) := by decide +kernel
theorem dX6_copyFrom_42 : decode cX6_copyFrom 42 = .ok (.getfield 37, 3) := by decide +kernel
theorem dX6_copyFrom_45 : decode cX6_copyFrom 45 = .ok (.putfield 37, 3) := by decide +kernel
theorem dX6_copyFrom_48 : decode cX6_copyFrom 48 = .ok (.aload_n 1, 1) := by decide +kernel
theorem dX6_copyFrom_49 : decode cX6_copyFrom 49 = .ok (.getfield 15, 3) := by decide +kernel
theorem dX6_copyFrom_52 : decode cX6_copyFrom 52 = .ok (.iconst 0, 1) := by decide +kernel
theorem dX6_copyFrom_53 : decode cX6_copyFrom 53 = .ok (.aload_n 0, 1) := by decide +kernel
theorem dX6_copyFrom_54 : decode cX6_copyFrom 54 = .ok (.getfield 15, 3) := by decide +kernel
theorem dX6_copyFrom_57 : decode cX6_copyFrom 57 = .ok (.iconst 0, 1) := by decide +kernel
theorem dX6_copyFrom_58 : decode cX6_copyFrom 58 = .ok (.bipush 40, 2) := by decide +kernel
theorem dX6_copyFrom_60 : decode cX6_copyFrom 60 = .ok (.invokestatic 40, 3) := by decide +kernel
theorem dX6_copyFrom_63 : decode cX6_copyFrom 63 = .ok (.aload_n 1, 1) := by decide +kernel
theorem dX6_copyFrom_64 : decode cX6_copyFrom 64 = .ok (.getfield 19, 3) := by decide +kernel
theorem dX6_copyFrom_67 : decode cX6_copyFrom 67 = .ok (.iconst 0, 1) := by decide +kernel
theorem dX6_copyFrom_68 : decode cX6_copyFrom 68 = .ok (.aload_n 0, 1) := by decide +kernel
theorem dX6_copyFrom_69 : decode cX6_copyFrom 69 = .ok (.getfield 19, 3) := by decide +kernel
theorem dX6_copyFrom_72 : decode cX6_copyFrom 72 = .ok (.iconst 0, 1) := by decide +kernel
theorem dX6_copyFrom_73 : decode cX6_copyFrom 73 = .ok (.bipush 40, 2) := by decide +kernel
theorem dX6_copyFrom_75 : decode cX6_copyFrom 75 = .ok (.invokestatic 40, 3) := by decide +kernel
theorem dX6_copyFrom_78 : decode cX6_copyFrom 78 = .ok (.aload_n 1, 1) := by decide +kernel
theorem dX6_copyFrom_79 : decode cX6_copyFrom 79 = .ok (.getfield 22, 3) := by decide +kernel
theorem dX6_copyFrom_82 : decode cX6_copyFrom 82 = .ok (.iconst 0, 1) := by decide +kernel
theorem dX6_copyFrom_83 : decode cX6_copyFrom 83 = .ok (.aload_n 0, 1) := by decide +kernel
theorem dX6_copyFrom_84 : decode cX6_copyFrom 84 = .ok (.getfield 22, 3) := by decide +kernel
theorem dX6_copyFrom_87 : decode cX6_copyFrom 87 = .ok (.iconst 0, 1) := by decide +kernel
theorem dX6_copyFrom_88 : decode cX6_copyFrom 88 = .ok (.bipush 40, 2) := by decide +kernel
theorem dX6_copyFrom_90 : decode cX6_copyFrom 90 = .ok (.invokestatic 40, 3) := by decide +kernel
theorem dX6_copyFrom_93 : decode cX6_copyFrom 93 = .ok (.return_, 1) := by decide +kernel
theorem dX6_begin_0 : decode cX6_begin 0 = .ok (.aload_n 0, 1) := by decide +kernel
theorem dX6_begin_1 : decode cX6_begin 1 = .ok (.invokevirtual 46, 3) := by decide +kernel
theorem dX6_begin_4 : decode cX6_begin 4 = .ok (.aload_n 0, 1) := by decide +kernel
theorem dX6_begin_5 : decode cX6_begin 5 = .ok (.iload_n 1, 1) := by decide +kernel
theorem dX6_begin_6 : decode cX6_begin 6 = .ok (.putfield 9, 3) := by decide +kernel
theorem dX6_begin_9 : decode cX6_begin 9 = .ok (.return_, 1) := by decide +kernel
theorem dX6_clear_0 : decode cX6_clear 0 = .ok (.aload_n 0, 1) := by decide +kernel
theorem dX6_clear_1 : decode cX6_clear 1 = .ok (.iconst (-1), 1) := by decide +kernel
theorem dX6_clear_2 : decode cX6_clear 2 = .ok (.putfield 9, 3) := by decide +kernel
theorem dX6_clear_5 : decode cX6_clear 5 = .ok (.aload_n 0, 1) := by decide +kernel
theorem dX6_clear_6 : decode cX6_clear 6 = .ok (.iconst 0, 1) := by decide +kernel
theorem dX6_clear_7 : decode cX6_clear 7 = .ok (.putfield 25, 3) := by decide +kernel
theorem dX6_clear_10 : decode cX6_clear 10 = .ok (.aload_n 0, 1) := by decide +kernel
theorem dX6_clear_11 : decode cX6_clear 11 = .ok (.iconst 0, 1) := by decide +kernel
theorem dX6_clear_12 : decode cX6_clear 12 = .ok (.putfield 28, 3) := by decide +kernel
theorem dX6_clear_15 : decode cX6_clear 15 = .ok (.aload_n 0, 1) := by decide +kernel
theorem dX6_clear_16 : decode cX6_clear 16 = .ok (.iconst 0, 1) := by decide +kernel
theorem dX6_clear_17 : decode cX6_clear 17 = .ok (.putfield 31, 3) := by decide +kernel
theorem dX6_clear_20 : decode cX6_clear 20 = .ok (.aload_n 0, 1) := by decide +kernel
theorem dX6_clear_21 : decode cX6_clear 21 = .ok (.iconst 0, 1) := by decide +kernel
theorem dX6_clear_22 : decode cX6_clear 22 = .ok (.putfield 34, 3) := by decide +kernel
theorem dX6_clear_25 : decode cX6_clear 25 = .ok (.aload_n 0, 1) := by decide +kernel
theorem dX6_clear_26 : decode cX6_clear 26 = .ok (.iconst 0, 1) := by decide +kernel
theorem dX6_clear_27 : decode cX6_clear 27 = .ok (.putfield 37, 3) := by decide +kernel
theorem dX6_clear_30 : decode cX6_clear 30 = .ok (.return_, 1) := by decide +kernel
theorem dX6_moveTo_0 : decode cX6_moveTo 0 = .ok (.aload_n 0, 1) := by decide +kernel
theorem dX6_moveTo_1 : decode cX6_moveTo 1 = .ok (.getfield 37, 3) := by decide +kernel
theorem dX6_moveTo_4 : decode cX6_moveTo 4 = .ok (.bipush 40, 2) := by decide +kernel
theorem dX6_moveTo_6 : decode cX6_moveTo 6 = .ok (.if_icmp .lt 7, 3) := by decide +kernel
theorem dX6_moveTo_9 : decode cX6_moveTo 9 = .ok (.aload_n 0, 1) := by decide +kernel
theorem dX6_moveTo_10 : decode cX6_moveTo 10 = .ok (.invokevirtual 49, 3) := by decide +kernel
theorem dX6_moveTo_13 : decode cX6_moveTo 13 = .ok (.aload_n 0, 1) := by decide +kernel
theorem dX6_moveTo_14 : decode cX6_moveTo 14 = .ok (.getfield 15, 3) := by decide +kernel
theorem dX6_moveTo_17 : decode cX6_moveTo 17 = .ok (.aload_n 0, 1) := by decide +kernel
theorem dX6_moveTo_18 : decode cX6_moveTo 18 = .ok (.getfield 37, 3) := by decide +kernel
theorem dX6_moveTo_21 : decode cX6_moveTo 21 = .ok (.aload_n 0, 1) := by decide +kernel
theorem dX6_moveTo_22 : decode cX6_moveTo 22 = .ok (.getfield 9, 3) := by decide +kernel
theorem dX6_moveTo_25 : decode cX6_moveTo 25 = .ok (.iastore, 1) := by decide +kernel
theorem dX6_moveTo_26 : decode cX6_moveTo 26 = .ok (.aload_n 0, 1) := by decide +kernel
theorem dX6_moveTo_27 : decode cX6_moveTo 27 = .ok (.getfield 19, 3) := by decide +kernel
theorem dX6_moveTo_30 : decode cX6_moveTo 30 = .ok (.aload_n 0, 1) := by decide +kernel
theorem dX6_moveTo_31 : decode cX6_moveTo 31 = .ok (.getfield 37, 3) := by decide +kernel
theorem dX6_moveTo_34 : decode cX6_moveTo 34 = .ok (.aload_n 0, 1) := by decide +kernel
theorem dX6_moveTo_35 : decode cX6_moveTo 35 = .ok (.getfield 25, 3) := by decide +kernel
theorem dX6_moveTo_38 : decode cX6_moveTo 38 = .ok (.iastore, 1) := by decide +kernel
theorem dX6_moveTo_39 : decode cX6_moveTo 39 = .ok (.aload_n 0, 1) := by decide +kernel
theorem dX6_moveTo_40 : decode cX6_moveTo 40 = .ok (.getfield 22, 3) := by decide +kernel
theorem dX6_moveTo_43 : decode cX6_moveTo 43 = .ok (.aload_n 0, 1) := by decide +kernel
theorem dX6_moveTo_44 : decode cX6_moveTo 44 = .ok (.getfield 37, 3) := by decide +kernel
theorem dX6_moveTo_47 : decode cX6_moveTo 47 = .ok (.aload_n 0, 1) := by decide +kernel
theorem dX6_moveTo_48 : decode cX6_moveTo 48 = .ok (.getfield 28, 3) := by decide +kernel
theorem dX6_moveTo_51 : decode cX6_moveTo 51 = .ok (.iastore, 1) := by decide +kernel
theorem dX6_moveTo_52 : decode cX6_moveTo 52 = .ok (.aload_n 0, 1) := by decide +kernel
theorem dX6_moveTo_53 : decode cX6_moveTo 53 = .ok (.dup, 1) := by decide +kernel
theorem dX6_moveTo_54 : decode cX6_moveTo 54 = .ok (.getfield 37, 3) := by decide +kernel
theorem dX6_moveTo_57 : decode cX6_moveTo 57 = .ok (.iconst 1, 1) := by decide +kernel
theorem dX6_moveTo_58 : decode cX6_moveTo 58 = .ok (.iadd, 1) := by decide +kernel
theorem dX6_moveTo_59 : decode cX6_moveTo 59 = .ok (.putfield 37, 3) := by decide +kernel
theorem dX6_moveTo_62 : decode cX6_moveTo 62 = .ok (.aload_n 0, 1) := by decide +kernel
theorem dX6_moveTo_63 : decode cX6_moveTo 63 = .ok (.iload_n 1, 1) := by decide +kernel
theorem dX6_moveTo_64 : decode cX6_moveTo 64 = .ok (.putfield 9, 3) := by decide +kernel
theorem dX6_moveTo_67 : decode cX6_moveTo 67 = .ok (.aload_n 0, 1) := by decide +kernel
theorem dX6_moveTo_68 : decode cX6_moveTo 68 = .ok (.iload_n 2, 1) := by decide +kernel
theorem dX6_moveTo_69 : decode cX6_moveTo 69 = .ok (.putfield 25, 3) := by decide +kernel
theorem dX6_moveTo_72 : decode cX6_moveTo 72 = .ok (.aload_n 0, 1) := by decide +kernel
theorem dX6_moveTo_73 : decode cX6_moveTo 73 = .ok (.iload_n 3, 1) := by decide +kernel
theorem dX6_moveTo_74 : decode cX6_moveTo 74 = .ok (.putfield 28, 3) := by decide +kernel
theorem dX6_moveTo_77 : decode cX6_moveTo 77 = .ok (.aload_n 0, 1) := by decide +kernel
theorem dX6_moveTo_78 : decode cX6_moveTo 78 = .ok (.iconst 0, 1) := by decide +kernel
theorem dX6_moveTo_79 : decode cX6_moveTo 79 = .ok (.putfield 34, 3) := by decide +kernel
theorem dX6_moveTo_82 : decode cX6_moveTo 82 = .ok (.return_, 1) := by decide +kernel
theorem dX6_dropOldest_0 : decode cX6_dropOldest 0 = .ok (.aload_n 0, 1) := by decide +kernel
theorem dX6_dropOldest_1 : decode cX6_dropOldest 1 = .ok (.bipush 39, 2) := by decide +kernel
theorem dX6_dropOldest_3 : decode cX6_dropOldest 3 = .ok (.putfield 37, 3) := by decide +kernel
theorem dX6_dropOldest_6 : decode cX6_dropOldest 6 = .ok (.iconst 0, 1) := by decide +kernel
theorem dX6_dropOldest_7 : decode cX6_dropOldest 7 = .ok (.istore_n 1, 1) := by decide +kernel
theorem dX6_dropOldest_8 : decode cX6_dropOldest 8 = .ok (.iload_n 1, 1) := by decide +kernel
theorem dX6_dropOldest_9 : decode cX6_dropOldest 9 = .ok (.aload_n 0, 1) := by decide +kernel
theorem dX6_dropOldest_10 : decode cX6_dropOldest 10 = .ok (.getfield 37, 3) := by decide +kernel
theorem dX6_dropOldest_13 : decode cX6_dropOldest 13 = .ok (.if_icmp .ge 51, 3) := by decide +kernel
theorem dX6_dropOldest_16 : decode cX6_dropOldest 16 = .ok (.aload_n 0, 1) := by decide +kernel
theorem dX6_dropOldest_17 : decode cX6_dropOldest 17 = .ok (.getfield 15, 3) := by decide +kernel
theorem dX6_dropOldest_20 : decode cX6_dropOldest 20 = .ok (.iload_n 1, 1) := by decide +kernel
theorem dX6_dropOldest_21 : decode cX6_dropOldest 21 = .ok (.aload_n 0, 1) := by decide +kernel
theorem dX6_dropOldest_22 : decode cX6_dropOldest 22 = .ok (.getfield 15, 3) := by decide +kernel
theorem dX6_dropOldest_25 : decode cX6_dropOldest 25 = .ok (.iload_n 1, 1) := by decide +kernel
theorem dX6_dropOldest_26 : decode cX6_dropOldest 26 = .ok (.iconst 1, 1) := by decide +kernel
theorem dX6_dropOldest_27 : decode cX6_dropOldest 27 = .ok (.iadd, 1) := by decide +kernel
theorem dX6_dropOldest_28 : decode cX6_dropOldest 28 = .ok (.iaload, 1) := by decide +kernel
theorem dX6_dropOldest_29 : decode cX6_dropOldest 29 = .ok (.iastore, 1) := by decide +kernel
theorem dX6_dropOldest_30 : decode cX6_dropOldest 30 = .ok (.aload_n 0, 1) := by decide +kernel
theorem dX6_dropOldest_31 : decode cX6_dropOldest 31 = .ok (.getfield 19, 3) := by decide +kernel
theorem dX6_dropOldest_34 : decode cX6_dropOldest 34 = .ok (.iload_n 1, 1) := by decide +kernel
theorem dX6_dropOldest_35 : decode cX6_dropOldest 35 = .ok (.aload_n 0, 1) := by decide +kernel
theorem dX6_dropOldest_36 : decode cX6_dropOldest 36 = .ok (.getfield 19, 3) := by decide +kernel
theorem dX6_dropOldest_39 : decode cX6_dropOldest 39 = .ok (.iload_n 1, 1) := by decide +kernel
theorem dX6_dropOldest_40 : decode cX6_dropOldest 40 = .ok (.iconst 1, 1) := by decide +kernel
theorem dX6_dropOldest_41 : decode cX6_dropOldest 41 = .ok (.iadd, 1) := by decide +kernel
theorem dX6_dropOldest_42 : decode cX6_dropOldest 42 = .ok (.iaload, 1) := by decide +kernel
theorem dX6_dropOldest_43 : decode cX6_dropOldest 43 = .ok (.iastore, 1) := by decide +kernel
theorem dX6_dropOldest_44 : decode cX6_dropOldest 44 = .ok (.aload_n 0, 1) := by decide +kernel
theorem dX6_dropOldest_45 : decode cX6_dropOldest 45 = .ok (.getfield 22, 3) := by decide +kernel
theorem dX6_dropOldest_48 : decode cX6_dropOldest 48 = .ok (.iload_n 1, 1) := by decide +kernel
theorem dX6_dropOldest_49 : decode cX6_dropOldest 49 = .ok (.aload_n 0, 1) := by decide +kernel
theorem dX6_dropOldest_50 : decode cX6_dropOldest 50 = .ok (.getfield 22, 3) := by decide +kernel
theorem dX6_dropOldest_53 : decode cX6_dropOldest 53 = .ok (.iload_n 1, 1) := by decide +kernel
theorem dX6_dropOldest_54 : decode cX6_dropOldest 54 = .ok (.iconst 1, 1) := by decide +kernel
theorem dX6_dropOldest_55 : decode cX6_dropOldest 55 = .ok (.iadd, 1) := by decide +kernel
theorem dX6_dropOldest_56 : decode cX6_dropOldest 56 = .ok (.iaload, 1) := by decide +kernel
theorem dX6_dropOldest_57 : decode cX6_dropOldest 57 = .ok (.iastore, 1) := by decide +kernel
theorem dX6_dropOldest_58 : decode cX6_dropOldest 58 = .ok (.iinc 1 1, 3) := by decide +kernel
theorem dX6_dropOldest_61 : decode cX6_dropOldest 61 = .ok (.goto (-53), 3) := by decide +kernel
theorem dX6_dropOldest_64 : decode cX6_dropOldest 64 = .ok (.return_, 1) := by decide +kernel
theorem dX6_returnTo_0 : decode cX6_returnTo 0 = .ok (.iload_n 1, 1) := by decide +kernel
theorem dX6_returnTo_1 : decode cX6_returnTo 1 = .ok (.iconst 0, 1) := by decide +kernel
theorem dX6_returnTo_2 : decode cX6_returnTo 2 = .ok (.aload_n 0, 1) := by decide +kernel
theorem dX6_returnTo_3 : decode cX6_returnTo 3 = .ok (.getfield 37, 3) := by decide +kernel
theorem dX6_returnTo_6 : decode cX6_returnTo 6 = .ok (.iconst 1, 1) := by decide +kernel
theorem dX6_returnTo_7 : decode cX6_returnTo 7 = .ok (.isub, 1) := by decide +kernel
theorem dX6_returnTo_8 : decode cX6_returnTo 8 = .ok (.invokestatic 52, 3) := by decide +kernel
theorem dX6_returnTo_11 : decode cX6_returnTo 11 = .ok (.ifCond .ne 4, 3) := by decide +kernel
theorem dX6_returnTo_14 : decode cX6_returnTo 14 = .ok (.return_, 1) := by decide +kernel
theorem dX6_returnTo_15 : decode cX6_returnTo 15 = .ok (.aload_n 0, 1) := by decide +kernel
theorem dX6_returnTo_16 : decode cX6_returnTo 16 = .ok (.aload_n 0, 1) := by decide +kernel
theorem dX6_returnTo_17 : decode cX6_returnTo 17 = .ok (.getfield 15, 3) := by decide +kernel
theorem dX6_returnTo_20 : decode cX6_returnTo 20 = .ok (.iload_n 1, 1) := by decide +kernel
theorem dX6_returnTo_21 : decode cX6_returnTo 21 = .ok (.iaload, 1) := by decide +kernel
theorem dX6_returnTo_22 : decode cX6_returnTo 22 = .ok (.putfield 9, 3) := by decide +kernel
theorem dX6_returnTo_25 : decode cX6_returnTo 25 = .ok (.aload_n 0, 1) := by decide +kernel
theorem dX6_returnTo_26 : decode cX6_returnTo 26 = .ok (.aload_n 0, 1) := by decide +kernel
theorem dX6_returnTo_27 : decode cX6_returnTo 27 = .ok (.getfield 19, 3) := by decide +kernel
theorem dX6_returnTo_30 : decode cX6_returnTo 30 = .ok (.iload_n 1, 1) := by decide +kernel
theorem dX6_returnTo_31 : decode cX6_returnTo 31 = .ok (.iaload, 1) := by decide +kernel
theorem dX6_returnTo_32 : decode cX6_returnTo 32 = .ok (.putfield 25, 3) := by decide +kernel
theorem dX6_returnTo_35 : decode cX6_returnTo 35 = .ok (.aload_n 0, 1) := by decide +kernel
theorem dX6_returnTo_36 : decode cX6_returnTo 36 = .ok (.aload_n 0, 1) := by decide +kernel
theorem dX6_returnTo_37 : decode cX6_returnTo 37 = .ok (.getfield 22, 3) := by decide +kernel
theorem dX6_returnTo_40 : decode cX6_returnTo 40 = .ok (.iload_n 1, 1) := by decide +kernel
theorem dX6_returnTo_41 : decode cX6_returnTo 41 = .ok (.iaload, 1) := by decide +kernel
theorem dX6_returnTo_42 : decode cX6_returnTo 42 = .ok (.putfield 28, 3) := by decide +kernel
theorem dX6_returnTo_45 : decode cX6_returnTo 45 = .ok (.aload_n 0, 1) := by decide +kernel
theorem dX6_returnTo_46 : decode cX6_returnTo 46 = .ok (.iconst 0, 1) := by decide +kernel
theorem dX6_returnTo_47 : decode cX6_returnTo 47 = .ok (.putfield 34, 3) := by decide +kernel
theorem dX6_returnTo_50 : decode cX6_returnTo 50 = .ok (.aload_n 0, 1) := by decide +kernel
theorem dX6_returnTo_51 : decode cX6_returnTo 51 = .ok (.iload_n 1, 1) := by decide +kernel
theorem dX6_returnTo_52 : decode cX6_returnTo 52 = .ok (.putfield 37, 3) := by decide +kernel
theorem dX6_returnTo_55 : decode cX6_returnTo 55 = .ok (.return_, 1) := by decide +kernel
theorem dX6_trailValue_0 : decode cX6_trailValue 0 = .ok (.iload_n 1, 1) := by decide +kernel
theorem dX6_trailValue_1 : decode cX6_trailValue 1 = .ok (.iconst 0, 1) := by decide +kernel
theorem dX6_trailValue_2 : decode cX6_trailValue 2 = .ok (.aload_n 0, 1) := by decide +kernel
theorem dX6_trailValue_3 : decode cX6_trailValue 3 = .ok (.getfield 37, 3) := by decide +kernel
theorem dX6_trailValue_6 : decode cX6_trailValue 6 = .ok (.iconst 1, 1) := by decide +kernel
theorem dX6_trailValue_7 : decode cX6_trailValue 7 = .ok (.isub, 1) := by decide +kernel
theorem dX6_trailValue_8 : decode cX6_trailValue 8 = .ok (.invokestatic 52, 3) := by decide +kernel
theorem dX6_trailValue_11 : decode cX6_trailValue 11 = .ok (.ifCond .ne 6, 3) := by decide +kernel
theorem dX6_trailValue_14 : decode cX6_trailValue 14 = .ok (.bipush (-6), 2) := by decide +kernel
theorem dX6_trailValue_16 : decode cX6_trailValue 16 = .ok (.ireturn, 1) := by decide +kernel
theorem dX6_trailValue_17 : decode cX6_trailValue 17 = .ok (.iload_n 2, 1) := by decide +kernel
theorem dX6_trailValue_18 : decode cX6_trailValue 18 = .ok (.lookupswitch 40 #[(0, 26), (1, 33)], 26) := by decide +kernel
theorem dX6_trailValue_44 : decode cX6_trailValue 44 = .ok (.aload_n 0, 1) := by decide +kernel
theorem dX6_trailValue_45 : decode cX6_trailValue 45 = .ok (.getfield 15, 3) := by decide +kernel
theorem dX6_trailValue_48 : decode cX6_trailValue 48 = .ok (.iload_n 1, 1) := by decide +kernel
theorem dX6_trailValue_49 : decode cX6_trailValue 49 = .ok (.iaload, 1) := by decide +kernel
theorem dX6_trailValue_50 : decode cX6_trailValue 50 = .ok (.ireturn, 1) := by decide +kernel
theorem dX6_trailValue_51 : decode cX6_trailValue 51 = .ok (.aload_n 0, 1) := by decide +kernel
theorem dX6_trailValue_52 : decode cX6_trailValue 52 = .ok (.getfield 19, 3) := by decide +kernel
theorem dX6_trailValue_55 : decode cX6_trailValue 55 = .ok (.iload_n 1, 1) := by decide +kernel
theorem dX6_trailValue_56 : decode cX6_trailValue 56 = .ok (.iaload, 1) := by decide +kernel
theorem dX6_trailValue_57 : decode cX6_trailValue 57 = .ok (.ireturn, 1) := by decide +kernel
theorem dX6_trailValue_58 : decode cX6_trailValue 58 = .ok (.aload_n 0, 1) := by decide +kernel
theorem dX6_trailValue_59 : decode cX6_trailValue 59 = .ok (.getfield 22, 3) := by decide +kernel
theorem dX6_trailValue_62 : decode cX6_trailValue 62 = .ok (.iload_n 1, 1) := by decide +kernel
theorem dX6_trailValue_63 : decode cX6_trailValue 63 = .ok (.iaload, 1) := by decide +kernel
theorem dX6_trailValue_64 : decode cX6_trailValue 64 = .ok (.ireturn, 1) := by decide +kernel
theorem dX7_init_0 : decode cX7_init 0 = .ok (.aload_n 0, 1) := by decide +kernel
theorem dX7_init_1 : decode cX7_init 1 = .ok (.invokespecial 3, 3) := by decide +kernel
theorem dX7_init_4 : decode cX7_init 4 = .ok (.aload_n 0, 1) := by decide +kernel
theorem dX7_init_5 : decode cX7_init 5 = .ok (.bipush 6, 2) := by decide +kernel
theorem dX7_init_7 : decode cX7_init 7 = .ok (.newarray .int, 2) := by decide +kernel
theorem dX7_init_9 : decode cX7_init 9 = .ok (.putfield 9, 3) := by decide +kernel
theorem dX7_init_12 : decode cX7_init 12 = .ok (.aload_n 0, 1) := by decide +kernel
theorem dX7_init_13 : decode cX7_init 13 = .ok (.bipush 6, 2) := by decide +kernel
theorem dX7_init_15 : decode cX7_init 15 = .ok (.newarray .int, 2) := by decide +kernel
theorem dX7_init_17 : decode cX7_init 17 = .ok (.putfield 15, 3) := by decide +kernel
theorem dX7_init_20 : decode cX7_init 20 = .ok (.aload_n 0, 1) := by decide +kernel
theorem dX7_init_21 : decode cX7_init 21 = .ok (.bipush 6, 2) := by decide +kernel
theorem dX7_init_23 : decode cX7_init 23 = .ok (.newarray .int, 2) := by decide +kernel
theorem dX7_init_25 : decode cX7_init 25 = .ok (.putfield 18, 3) := by decide +kernel
theorem dX7_init_28 : decode cX7_init 28 = .ok (.aload_n 0, 1) := by decide +kernel
theorem dX7_init_29 : decode cX7_init 29 = .ok (.bipush 10, 2) := by decide +kernel
theorem dX7_init_31 : decode cX7_init 31 = .ok (.newarray .int, 2) := by decide +kernel
theorem dX7_init_33 : decode cX7_init 33 = .ok (.putfield 21, 3) := by decide +kernel
theorem dX7_init_36 : decode cX7_init 36 = .ok (.return_, 1) := by decide +kernel
theorem dX7_clear_0 : decode cX7_clear 0 = .ok (.aload_n 0, 1) := by decide +kernel
theorem dX7_clear_1 : decode cX7_clear 1 = .ok (.iconst 0, 1) := by decide +kernel
theorem dX7_clear_2 : decode cX7_clear 2 = .ok (.putfield 24, 3) := by decide +kernel
theorem dX7_clear_5 : decode cX7_clear 5 = .ok (.aload_n 0, 1) := by decide +kernel
theorem dX7_clear_6 : decode cX7_clear 6 = .ok (.iconst 0, 1) := by decide +kernel
theorem dX7_clear_7 : decode cX7_clear 7 = .ok (.putfield 28, 3) := by decide +kernel
theorem dX7_clear_10 : decode cX7_clear 10 = .ok (.aload_n 0, 1) := by decide +kernel
theorem dX7_clear_11 : decode cX7_clear 11 = .ok (.iconst 0, 1) := by decide +kernel
theorem dX7_clear_12 : decode cX7_clear 12 = .ok (.putfield 31, 3) := by decide +kernel
theorem dX7_clear_15 : decode cX7_clear 15 = .ok (.aload_n 0, 1) := by decide +kernel
theorem dX7_clear_16 : decode cX7_clear 16 = .ok (.iconst 0, 1) := by decide +kernel
theorem dX7_clear_17 : decode cX7_clear 17 = .ok (.putfield 35, 3) := by decide +kernel
theorem dX7_clear_20 : decode cX7_clear 20 = .ok (.iconst 0, 1) := by decide +kernel
theorem dX7_clear_21 : decode cX7_clear 21 = .ok (.istore_n 1, 1) := by decide +kernel
theorem dX7_clear_22 : decode cX7_clear 22 = .ok (.iload_n 1, 1) := by decide +kernel
theorem dX7_clear_23 : decode cX7_clear 23 = .ok (.aload_n 0, 1) := by decide +kernel
theorem dX7_clear_24 : decode cX7_clear 24 = .ok (.getfield 21, 3) := by decide +kernel
theorem dX7_clear_27 : decode cX7_clear 27 = .ok (.arraylength, 1) := by decide +kernel
theorem dX7_clear_28 : decode cX7_clear 28 = .ok (.if_icmp .ge 16, 3) := by decide +kernel
theorem dX7_clear_31 : decode cX7_clear 31 = .ok (.aload_n 0, 1) := by decide +kernel
theorem dX7_clear_32 : decode cX7_clear 32 = .ok (.getfield 21, 3) := by decide +kernel
theorem dX7_clear_35 : decode cX7_clear 35 = .ok (.iload_n 1, 1) := by decide +kernel
theorem dX7_clear_36 : decode cX7_clear 36 = .ok (.iconst (-1), 1) := by decide +kernel
theorem dX7_clear_37 : decode cX7_clear 37 = .ok (.iastore, 1) := by decide +kernel
theorem dX7_clear_38 : decode cX7_clear 38 = .ok (.iinc 1 1, 3) := by decide +kernel
theorem dX7_clear_41 : decode cX7_clear 41 = .ok (.goto (-19), 3) := by decide +kernel
theorem dX7_clear_44 : decode cX7_clear 44 = .ok (.return_, 1) := by decide +kernel
theorem dX7_copyFrom_0 : decode cX7_copyFrom 0 = .ok (.aload_n 0, 1) := by decide +kernel
theorem dX7_copyFrom_1 : decode cX7_copyFrom 1 = .ok (.aload_n 1, 1) := by decide +kernel
theorem dX7_copyFrom_2 : decode cX7_copyFrom 2 = .ok (.getfield 24, 3) := by decide +kernel
theorem dX7_copyFrom_5 : decode cX7_copyFrom 5 = .ok (.putfield 24, 3) := by decide +kernel
theorem dX7_copyFrom_8 : decode cX7_copyFrom 8 = .ok (.aload_n 0, 1) := by decide +kernel
theorem dX7_copyFrom_9 : decode cX7_copyFrom 9 = .ok (.aload_n 1, 1) := by decide +kernel
theorem dX7_copyFrom_10 : decode cX7_copyFrom 10 = .ok (.getfield 28, 3) := by decide +kernel
theorem dX7_copyFrom_13 : decode cX7_copyFrom 13 = .ok (.putfield 28, 3) := by decide +kernel
theorem dX7_copyFrom_16 : decode cX7_copyFrom 16 = .ok (.aload_n 0, 1) := by decide +kernel
theorem dX7_copyFrom_17 : decode cX7_copyFrom 17 = .ok (.aload_n 1, 1) := by decide +kernel
theorem dX7_copyFrom_18 : decode cX7_copyFrom 18 = .ok (.getfield 31, 3) := by decide +kernel
theorem dX7_copyFrom_21 : decode cX7_copyFrom 21 = .ok (.putfield 31, 3) := by decide +kernel
theorem dX7_copyFrom_24 : decode cX7_copyFrom 24 = .ok (.aload_n 0, 1) := by decide +kernel
theorem dX7_copyFrom_25 : decode cX7_copyFrom 25 = .ok (.aload_n 1, 1) := by decide +kernel
theorem dX7_copyFrom_26 : decode cX7_copyFrom 26 = .ok (.getfield 35, 3) := by decide +kernel
theorem dX7_copyFrom_29 : decode cX7_copyFrom 29 = .ok (.putfield 35, 3) := by decide +kernel
theorem dX7_copyFrom_32 : decode cX7_copyFrom 32 = .ok (.aload_n 1, 1) := by decide +kernel
theorem dX7_copyFrom_33 : decode cX7_copyFrom 33 = .ok (.getfield 9, 3) := by decide +kernel
theorem dX7_copyFrom_36 : decode cX7_copyFrom 36 = .ok (.iconst 0, 1) := by decide +kernel
theorem dX7_copyFrom_37 : decode cX7_copyFrom 37 = .ok (.aload_n 0, 1) := by decide +kernel
theorem dX7_copyFrom_38 : decode cX7_copyFrom 38 = .ok (.getfield 9, 3) := by decide +kernel
theorem dX7_copyFrom_41 : decode cX7_copyFrom 41 = .ok (.iconst 0, 1) := by decide +kernel
theorem dX7_copyFrom_42 : decode cX7_copyFrom 42 = .ok (.bipush 6, 2) := by decide +kernel
theorem dX7_copyFrom_44 : decode cX7_copyFrom 44 = .ok (.invokestatic 38, 3) := by decide +kernel
theorem dX7_copyFrom_47 : decode cX7_copyFrom 47 = .ok (.aload_n 1, 1) := by decide +kernel
theorem dX7_copyFrom_48 : decode cX7_copyFrom 48 = .ok (.getfield 15, 3) := by decide +kernel
theorem dX7_copyFrom_51 : decode cX7_copyFrom 51 = .ok (.iconst 0, 1) := by decide +kernel
theorem dX7_copyFrom_52 : decode cX7_copyFrom 52 = .ok (.aload_n 0, 1) := by decide +kernel
theorem dX7_copyFrom_53 : decode cX7_copyFrom 53 = .ok (.getfield 15, 3) := by decide +kernel
theorem dX7_copyFrom_56 : decode cX7_copyFrom 56 = .ok (.iconst 0, 1) := by decide +kernel
theorem dX7_copyFrom_57 : decode cX7_copyFrom 57 = .ok (.bipush 6, 2) := by decide +kernel
theorem dX7_copyFrom_59 : decode cX7_copyFrom 59 = .ok (.invokestatic 38, 3) := by decide +kernel
theorem dX7_copyFrom_62 : decode cX7_copyFrom 62 = .ok (.aload_n 1, 1) := by decide +kernel
theorem dX7_copyFrom_63 : decode cX7_copyFrom 63 = .ok (.getfield 18, 3) := by decide +kernel
theorem dX7_copyFrom_66 : decode cX7_copyFrom 66 = .ok (.iconst 0, 1) := by decide +kernel
theorem dX7_copyFrom_67 : decode cX7_copyFrom 67 = .ok (.aload_n 0, 1) := by decide +kernel
theorem dX7_copyFrom_68 : decode cX7_copyFrom 68 = .ok (.getfield 18, 3) := by decide +kernel
theorem dX7_copyFrom_71 : decode cX7_copyFrom 71 = .ok (.iconst 0, 1) := by decide +kernel
theorem dX7_copyFrom_72 : decode cX7_copyFrom 72 = .ok (.bipush 6, 2) := by decide +kernel
theorem dX7_copyFrom_74 : decode cX7_copyFrom 74 = .ok (.invokestatic 38, 3) := by decide +kernel
theorem dX7_copyFrom_77 : decode cX7_copyFrom 77 = .ok (.aload_n 1, 1) := by decide +kernel
theorem dX7_copyFrom_78 : decode cX7_copyFrom 78 = .ok (.getfield 21, 3) := by decide +kernel
theorem dX7_copyFrom_81 : decode cX7_copyFrom 81 = .ok (.iconst 0, 1) := by decide +kernel
theorem dX7_copyFrom_82 : decode cX7_copyFrom 82 = .ok (.aload_n 0, 1) := by decide +kernel
theorem dX7_copyFrom_83 : decode cX7_copyFrom 83 = .ok (.getfield 21, 3) := by decide +kernel
theorem dX7_copyFrom_86 : decode cX7_copyFrom 86 = .ok (.iconst 0, 1) := by decide +kernel
theorem dX7_copyFrom_87 : decode cX7_copyFrom 87 = .ok (.bipush 10, 2) := by decide +kernel
theorem dX7_copyFrom_89 : decode cX7_copyFrom 89 = .ok (.invokestatic 38, 3) := by decide +kernel
theorem dX7_copyFrom_92 : decode cX7_copyFrom 92 = .ok (.return_, 1) := by decide +kernel
theorem dX7_putItem_0 : decode cX7_putItem 0 = .ok (.aload_n 0, 1) := by decide +kernel
theorem dX7_putItem_1 : decode cX7_putItem 1 = .ok (.getfield 35, 3) := by decide +kernel
theorem dX7_putItem_4 : decode cX7_putItem 4 = .ok (.bipush 6, 2) := by decide +kernel
theorem dX7_putItem_6 : decode cX7_putItem 6 = .ok (.if_icmp .lt 4, 3) := by decide +kernel
theorem dX7_putItem_9 : decode cX7_putItem 9 = .ok (.return_, 1) := by decide +kernel
theorem dX7_putItem_10 : decode cX7_putItem 10 = .ok (.aload_n 0, 1) := by decide +kernel
theorem dX7_putItem_11 : decode cX7_putItem 11 = .ok (.getfield 9, 3) := by decide +kernel
theorem dX7_putItem_14 : decode cX7_putItem 14 = .ok (.aload_n 0, 1) := by decide +kernel
theorem dX7_putItem_15 : decode cX7_putItem 15 = .ok (.getfield 35, 3) := by decide +kernel
theorem dX7_putItem_18 : decode cX7_putItem 18 = .ok (.iload_n 1, 1) := by decide +kernel
theorem dX7_putItem_19 : decode cX7_putItem 19 = .ok (.iastore, 1) := by decide +kernel
theorem dX7_putItem_20 : decode cX7_putItem 20 = .ok (.aload_n 0, 1) := by decide +kernel
theorem dX7_putItem_21 : decode cX7_putItem 21 = .ok (.getfield 15, 3) := by decide +kernel
theorem dX7_putItem_24 : decode cX7_putItem 24 = .ok (.aload_n 0, 1) := by decide +kernel
theorem dX7_putItem_25 : decode cX7_putItem 25 = .ok (.getfield 35, 3) := by decide +kernel
theorem dX7_putItem_28 : decode cX7_putItem 28 = .ok (.iload_n 2, 1) := by decide +kernel
theorem dX7_putItem_29 : decode cX7_putItem 29 = .ok (.iastore, 1) := by decide +kernel
theorem dX7_putItem_30 : decode cX7_putItem 30 = .ok (.aload_n 0, 1) := by decide +kernel
theorem dX7_putItem_31 : decode cX7_putItem 31 = .ok (.getfield 18, 3) := by decide +kernel
theorem dX7_putItem_34 : decode cX7_putItem 34 = .ok (.aload_n 0, 1) := by decide +kernel
theorem dX7_putItem_35 : decode cX7_putItem 35 = .ok (.getfield 35, 3) := by decide +kernel
theorem dX7_putItem_38 : decode cX7_putItem 38 = .ok (.iload_n 3, 1) := by decide +kernel
theorem dX7_putItem_39 : decode cX7_putItem 39 = .ok (.iastore, 1) := by decide +kernel
theorem dX7_putItem_40 : decode cX7_putItem 40 = .ok (.aload_n 0, 1) := by decide +kernel
theorem dX7_putItem_41 : decode cX7_putItem 41 = .ok (.dup, 1) := by decide +kernel
theorem dX7_putItem_42 : decode cX7_putItem 42 = .ok (.getfield 35, 3) := by decide +kernel
theorem dX7_putItem_45 : decode cX7_putItem 45 = .ok (.iconst 1, 1) := by decide +kernel
theorem dX7_putItem_46 : decode cX7_putItem 46 = .ok (.iadd, 1) := by decide +kernel
theorem dX7_putItem_47 : decode cX7_putItem 47 = .ok (.putfield 35, 3) := by decide +kernel
theorem dX7_putItem_50 : decode cX7_putItem 50 = .ok (.return_, 1) := by decide +kernel
theorem dX7_dropItem_0 : decode cX7_dropItem 0 = .ok (.iload_n 1, 1) := by decide +kernel
theorem dX7_dropItem_1 : decode cX7_dropItem 1 = .ok (.iconst 0, 1) := by decide +kernel
theorem dX7_dropItem_2 : decode cX7_dropItem 2 = .ok (.aload_n 0, 1) := by decide +kernel
theorem dX7_dropItem_3 : decode cX7_dropItem 3 = .ok (.getfield 35, 3) := by decide +kernel
theorem dX7_dropItem_6 : decode cX7_dropItem 6 = .ok (.iconst 1, 1) := by decide +kernel
theorem dX7_dropItem_7 : decode cX7_dropItem 7 = .ok (.isub, 1) := by decide +kernel
theorem dX7_dropItem_8 : decode cX7_dropItem 8 = .ok (.invokestatic 44, 3) := by decide +kernel
theorem dX7_dropItem_11 : decode cX7_dropItem 11 = .ok (.ifCond .ne 4, 3) := by decide +kernel
theorem dX7_dropItem_14 : decode cX7_dropItem 14 = .ok (.return_, 1) := by decide +kernel
theorem dX7_dropItem_15 : decode cX7_dropItem 15 = .ok (.aload_n 0, 1) := by decide +kernel
theorem dX7_dropItem_16 : decode cX7_dropItem 16 = .ok (.dup, 1) := by decide +kernel
theorem dX7_dropItem_17 : decode cX7_dropItem 17 = .ok (.getfield 35, 3) := by decide +kernel
theorem dX7_dropItem_20 : decode cX7_dropItem 20 = .ok (.iconst 1, 1) := by decide +kernel
theorem dX7_dropItem_21 : decode cX7_dropItem 21 = .ok (.isub, 1) := by decide +kernel
theorem dX7_dropItem_22 : decode cX7_dropItem 22 = .ok (.putfield 35, 3) := by decide +kernel
theorem dX7_dropItem_25 : decode cX7_dropItem 25 = .ok (.iload_n 1, 1) := by decide +kernel
theorem dX7_dropItem_26 : decode cX7_dropItem 26 = .ok (.istore_n 2, 1) := by decide +kernel
theorem dX7_dropItem_27 : decode cX7_dropItem 27 = .ok (.iload_n 2, 1) := by decide +kernel
theorem dX7_dropItem_28 : decode cX7_dropItem 28 = .ok (.aload_n 0, 1) := by decide +kernel
theorem dX7_dropItem_29 : decode cX7_dropItem 29 = .ok (.getfield 35, 3) := by decide +kernel
theorem dX7_dropItem_32 : decode cX7_dropItem 32 = .ok (.if_icmp .ge 51, 3) := by decide +kernel
theorem dX7_dropItem_35 : decode cX7_dropItem 35 = .ok (.aload_n 0, 1) := by decide +kernel
theorem dX7_dropItem_36 : decode cX7_dropItem 36 = .ok (.getfield 9, 3) := by decide +kernel
theorem dX7_dropItem_39 : decode cX7_dropItem 39 = .ok (.iload_n 2, 1) := by decide +kernel
theorem dX7_dropItem_40 : decode cX7_dropItem 40 = .ok (.aload_n 0, 1) := by decide +kernel
theorem dX7_dropItem_41 : decode cX7_dropItem 41 = .ok (.getfield 9, 3) := by decide +kernel
theorem dX7_dropItem_44 : decode cX7_dropItem 44 = .ok (.iload_n 2, 1) := by decide +kernel
theorem dX7_dropItem_45 : decode cX7_dropItem 45 = .ok (.iconst 1, 1) := by decide +kernel
theorem dX7_dropItem_46 : decode cX7_dropItem 46 = .ok (.iadd, 1) := by decide +kernel
theorem dX7_dropItem_47 : decode cX7_dropItem 47 = .ok (.iaload, 1) := by decide +kernel
theorem dX7_dropItem_48 : decode cX7_dropItem 48 = .ok (.iastore, 1) := by decide +kernel
theorem dX7_dropItem_49 : decode cX7_dropItem 49 = .ok (.aload_n 0, 1) := by decide +kernel
theorem dX7_dropItem_50 : decode cX7_dropItem 50 = .ok (.getfield 15, 3) := by decide +kernel
theorem dX7_dropItem_53 : decode cX7_dropItem 53 = .ok (.iload_n 2, 1) := by decide +kernel
theorem dX7_dropItem_54 : decode cX7_dropItem 54 = .ok (.aload_n 0, 1) := by decide +kernel
theorem dX7_dropItem_55 : decode cX7_dropItem 55 = .ok (.getfield 15, 3) := by decide +kernel
theorem dX7_dropItem_58 : decode cX7_dropItem 58 = .ok (.iload_n 2, 1) := by decide +kernel
theorem dX7_dropItem_59 : decode cX7_dropItem 59 = .ok (.iconst 1, 1) := by decide +kernel
theorem dX7_dropItem_60 : decode cX7_dropItem 60 = .ok (.iadd, 1) := by decide +kernel
theorem dX7_dropItem_61 : decode cX7_dropItem 61 = .ok (.iaload, 1) := by decide +kernel
theorem dX7_dropItem_62 : decode cX7_dropItem 62 = .ok (.iastore, 1) := by decide +kernel
theorem dX7_dropItem_63 : decode cX7_dropItem 63 = .ok (.aload_n 0, 1) := by decide +kernel
theorem dX7_dropItem_64 : decode cX7_dropItem 64 = .ok (.getfield 18, 3) := by decide +kernel
theorem dX7_dropItem_67 : decode cX7_dropItem 67 = .ok (.iload_n 2, 1) := by decide +kernel
theorem dX7_dropItem_68 : decode cX7_dropItem 68 = .ok (.aload_n 0, 1) := by decide +kernel
theorem dX7_dropItem_69 : decode cX7_dropItem 69 = .ok (.getfield 18, 3) := by decide +kernel
theorem dX7_dropItem_72 : decode cX7_dropItem 72 = .ok (.iload_n 2, 1) := by decide +kernel
theorem dX7_dropItem_73 : decode cX7_dropItem 73 = .ok (.iconst 1, 1) := by decide +kernel
theorem dX7_dropItem_74 : decode cX7_dropItem 74 = .ok (.iadd, 1) := by decide +kernel
theorem dX7_dropItem_75 : decode cX7_dropItem 75 = .ok (.iaload, 1) := by decide +kernel
theorem dX7_dropItem_76 : decode cX7_dropItem 76 = .ok (.iastore, 1) := by decide +kernel
theorem dX7_dropItem_77 : decode cX7_dropItem 77 = .ok (.iinc 2 1, 3) := by decide +kernel
theorem dX7_dropItem_80 : decode cX7_dropItem 80 = .ok (.goto (-53), 3) := by decide +kernel
theorem dX7_dropItem_83 : decode cX7_dropItem 83 = .ok (.return_, 1) := by decide +kernel
theorem dX7_targetOf_0 : decode cX7_targetOf 0 = .ok (.iload_n 1, 1) := by decide +kernel
theorem dX7_targetOf_1 : decode cX7_targetOf 1 = .ok (.iconst 0, 1) := by decide +kernel
theorem dX7_targetOf_2 : decode cX7_targetOf 2 = .ok (.bipush 9, 2) := by decide +kernel
theorem dX7_targetOf_4 : decode cX7_targetOf 4 = .ok (.invokestatic 44, 3) := by decide +kernel
theorem dX7_targetOf_7 : decode cX7_targetOf 7 = .ok (.ifCond .eq 12, 3) := by decide +kernel
theorem dX7_targetOf_10 : decode cX7_targetOf 10 = .ok (.aload_n 0, 1) := by decide +kernel
theorem dX7_targetOf_11 : decode cX7_targetOf 11 = .ok (.getfield 21, 3) := by decide +kernel
theorem dX7_targetOf_14 : decode cX7_targetOf 14 = .ok (.iload_n 1, 1) := by decide +kernel
theorem dX7_targetOf_15 : decode cX7_targetOf 15 = .ok (.iaload, 1) := by decide +kernel
theorem dX7_targetOf_16 : decode cX7_targetOf 16 = .ok (.goto 4, 3) := by decide +kernel
theorem dX7_targetOf_19 : decode cX7_targetOf 19 = .ok (.iconst (-1), 1) := by decide +kernel
theorem dX7_targetOf_20 : decode cX7_targetOf 20 = .ok (.ireturn, 1) := by decide +kernel
theorem dX7_setTarget_0 : decode cX7_setTarget 0 = .ok (.iload_n 1, 1) := by decide +kernel
theorem dX7_setTarget_1 : decode cX7_setTarget 1 = .ok (.iconst 0, 1) := by decide +kernel
theorem dX7_setTarget_2 : decode cX7_setTarget 2 = .ok (.bipush 9, 2) := by decide +kernel
theorem dX7_setTarget_4 : decode cX7_setTarget 4 = .ok (.invokestatic 44, 3) := by decide +kernel
theorem dX7_setTarget_7 : decode cX7_setTarget 7 = .ok (.ifCond .eq 10, 3) := by decide +kernel
theorem dX7_setTarget_10 : decode cX7_setTarget 10 = .ok (.aload_n 0, 1) := by decide +kernel
theorem dX7_setTarget_11 : decode cX7_setTarget 11 = .ok (.getfield 21, 3) := by decide +kernel
theorem dX7_setTarget_14 : decode cX7_setTarget 14 = .ok (.iload_n 1, 1) := by decide +kernel
theorem dX7_setTarget_15 : decode cX7_setTarget 15 = .ok (.iload_n 2, 1) := by decide +kernel
theorem dX7_setTarget_16 : decode cX7_setTarget 16 = .ok (.iastore, 1) := by decide +kernel
theorem dX7_setTarget_17 : decode cX7_setTarget 17 = .ok (.return_, 1) := by decide +kernel
theorem dX7_dropLinksTo_0 : decode cX7_dropLinksTo 0 = .ok (.iconst 0, 1) := by decide +kernel
theorem dX7_dropLinksTo_1 : decode cX7_dropLinksTo 1 = .ok (.istore_n 2, 1) := by decide +kernel
theorem dX7_dropLinksTo_2 : decode cX7_dropLinksTo 2 = .ok (.iload_n 2, 1) := by decide +kernel
theorem dX7_dropLinksTo_3 : decode cX7_dropLinksTo 3 = .ok (.aload_n 0, 1) := by decide +kernel
theorem dX7_dropLinksTo_4 : decode cX7_dropLinksTo 4 = .ok (.getfield 21, 3) := by decide +kernel
theorem dX7_dropLinksTo_7 : decode cX7_dropLinksTo 7 = .ok (.arraylength, 1) := by decide +kernel
theorem dX7_dropLinksTo_8 : decode cX7_dropLinksTo 8 = .ok (.if_icmp .ge 26, 3) := by decide +kernel
theorem dX7_dropLinksTo_11 : decode cX7_dropLinksTo 11 = .ok (.aload_n 0, 1) := by decide +kernel
theorem dX7_dropLinksTo_12 : decode cX7_dropLinksTo 12 = .ok (.getfield 21, 3) := by decide +kernel
theorem dX7_dropLinksTo_15 : decode cX7_dropLinksTo 15 = .ok (.iload_n 2, 1) := by decide +kernel
theorem dX7_dropLinksTo_16 : decode cX7_dropLinksTo 16 = .ok (.iaload, 1) := by decide +kernel
theorem dX7_dropLinksTo_17 : decode cX7_dropLinksTo 17 = .ok (.iload_n 1, 1) := by decide +kernel
theorem dX7_dropLinksTo_18 : decode cX7_dropLinksTo 18 = .ok (.if_icmp .ne 10, 3) := by decide +kernel
theorem dX7_dropLinksTo_21 : decode cX7_dropLinksTo 21 = .ok (.aload_n 0, 1) := by decide +kernel
theorem dX7_dropLinksTo_22 : decode cX7_dropLinksTo 22 = .ok (.getfield 21, 3) := by decide +kernel
theorem dX7_dropLinksTo_25 : decode cX7_dropLinksTo 25 = .ok (.iload_n 2, 1) := by decide +kernel
theorem dX7_dropLinksTo_26 : decode cX7_dropLinksTo 26 = .ok (.iconst (-1), 1) := by decide +kernel
theorem dX7_dropLinksTo_27 : decode cX7_dropLinksTo 27 = .ok (.iastore, 1) := by decide +kernel
theorem dX7_dropLinksTo_28 : decode cX7_dropLinksTo 28 = .ok (.iinc 2 1, 3) := by decide +kernel
theorem dX7_dropLinksTo_31 : decode cX7_dropLinksTo 31 = .ok (.goto (-29), 3) := by decide +kernel
theorem dX7_dropLinksTo_34 : decode cX7_dropLinksTo 34 = .ok (.return_, 1) := by decide +kernel
theorem dX7_countLinks_0 : decode cX7_countLinks 0 = .ok (.iconst 0, 1) := by decide +kernel
theorem dX7_countLinks_1 : decode cX7_countLinks 1 = .ok (.istore_n 1, 1) := by decide +kernel
theorem dX7_countLinks_2 : decode cX7_countLinks 2 = .ok (.aload_n 0, 1) := by decide +kernel
theorem dX7_countLinks_3 : decode cX7_countLinks 3 = .ok (.getfield 21, 3) := by decide +kernel
theorem dX7_countLinks_6 : decode cX7_countLinks 6 = .ok (.astore_n 2, 1) := by decide +kernel
theorem dX7_countLinks_7 : decode cX7_countLinks 7 = .ok (.aload_n 2, 1) := by decide +kernel
theorem dX7_countLinks_8 : decode cX7_countLinks 8 = .ok (.arraylength, 1) := by decide +kernel
theorem dX7_countLinks_9 : decode cX7_countLinks 9 = .ok (.istore_n 3, 1) := by decide +kernel
theorem dX7_countLinks_10 : decode cX7_countLinks 10 = .ok (.iconst 0, 1) := by decide +kernel
theorem dX7_countLinks_11 : decode cX7_countLinks 11 = .ok (.istore 4, 2) := by decide +kernel
theorem dX7_countLinks_13 : decode cX7_countLinks 13 = .ok (.iload 4, 2) := by decide +kernel
theorem dX7_countLinks_15 : decode cX7_countLinks 15 = .ok (.iload_n 3, 1) := by decide +kernel
theorem dX7_countLinks_16 : decode cX7_countLinks 16 = .ok (.if_icmp .ge 24, 3) := by decide +kernel
theorem dX7_countLinks_19 : decode cX7_countLinks 19 = .ok (.aload_n 2, 1) := by decide +kernel
theorem dX7_countLinks_20 : decode cX7_countLinks 20 = .ok (.iload 4, 2) := by decide +kernel
theorem dX7_countLinks_22 : decode cX7_countLinks 22 = .ok (.iaload, 1) := by decide +kernel
theorem dX7_countLinks_23 : decode cX7_countLinks 23 = .ok (.istore 5, 2) := by decide +kernel
theorem dX7_countLinks_25 : decode cX7_countLinks 25 = .ok (.iload 5, 2) := by decide +kernel
theorem dX7_countLinks_27 : decode cX7_countLinks 27 = .ok (.iconst (-1), 1) := by decide +kernel
theorem dX7_countLinks_28 : decode cX7_countLinks 28 = .ok (.if_icmp .eq 6, 3) := by decide +kernel
theorem dX7_countLinks_31 : decode cX7_countLinks 31 = .ok (.iinc 1 1, 3) := by decide +kernel
theorem dX7_countLinks_34 : decode cX7_countLinks 34 = .ok (.iinc 4 1, 3) := by decide +kernel
theorem dX7_countLinks_37 : decode cX7_countLinks 37 = .ok (.goto (-24), 3) := by decide +kernel
theorem dX7_countLinks_40 : decode cX7_countLinks 40 = .ok (.iload_n 1, 1) := by decide +kernel
theorem dX7_countLinks_41 : decode cX7_countLinks 41 = .ok (.ireturn, 1) := by decide +kernel
theorem dX7_finalStep_0 : decode cX7_finalStep 0 = .ok (.iconst 0, 1) := by decide +kernel
theorem dX7_finalStep_1 : decode cX7_finalStep 1 = .ok (.istore_n 1, 1) := by decide +kernel
theorem dX7_finalStep_2 : decode cX7_finalStep 2 = .ok (.iconst 0, 1) := by decide +kernel
theorem dX7_finalStep_3 : decode cX7_finalStep 3 = .ok (.istore_n 2, 1) := by decide +kernel
theorem dX7_finalStep_4 : decode cX7_finalStep 4 = .ok (.iload_n 2, 1) := by decide +kernel
theorem dX7_finalStep_5 : decode cX7_finalStep 5 = .ok (.aload_n 0, 1) := by decide +kernel
theorem dX7_finalStep_6 : decode cX7_finalStep 6 = .ok (.getfield 35, 3) := by decide +kernel
theorem dX7_finalStep_9 : decode cX7_finalStep 9 = .ok (.if_icmp .ge 54, 3) := by decide +kernel
theorem dX7_finalStep_12 : decode cX7_finalStep 12 = .ok (.iload_n 1, 1) := by decide +kernel
theorem dX7_finalStep_13 : decode cX7_finalStep 13 = .ok (.aload_n 0, 1) := by decide +kernel
theorem dX7_finalStep_14 : decode cX7_finalStep 14 = .ok (.getfield 9, 3) := by decide +kernel
theorem dX7_finalStep_17 : decode cX7_finalStep 17 = .ok (.iload_n 2, 1) := by decide +kernel
theorem dX7_finalStep_18 : decode cX7_finalStep 18 = .ok (.iaload, 1) := by decide +kernel
theorem dX7_finalStep_19 : decode cX7_finalStep 19 = .ok (.invokestatic 48, 3) := by decide +kernel
theorem dX7_finalStep_22 : decode cX7_finalStep 22 = .ok (.istore_n 1, 1) := by decide +kernel
theorem dX7_finalStep_23 : decode cX7_finalStep 23 = .ok (.aload_n 0, 1) := by decide +kernel
theorem dX7_finalStep_24 : decode cX7_finalStep 24 = .ok (.getfield 15, 3) := by decide +kernel
theorem dX7_finalStep_27 : decode cX7_finalStep 27 = .ok (.iload_n 2, 1) := by decide +kernel
theorem dX7_finalStep_28 : decode cX7_finalStep 28 = .ok (.iaload, 1) := by decide +kernel
theorem dX7_finalStep_29 : decode cX7_finalStep 29 = .ok (.iconst (-1), 1) := by decide +kernel
theorem dX7_finalStep_30 : decode cX7_finalStep 30 = .ok (.if_icmp .eq 27, 3) := by decide +kernel
theorem dX7_finalStep_33 : decode cX7_finalStep 33 = .ok (.aload_n 0, 1) := by decide +kernel
theorem dX7_finalStep_34 : decode cX7_finalStep 34 = .ok (.getfield 15, 3) := by decide +kernel
theorem dX7_finalStep_37 : decode cX7_finalStep 37 = .ok (.iload_n 2, 1) := by decide +kernel
theorem dX7_finalStep_38 : decode cX7_finalStep 38 = .ok (.iaload, 1) := by decide +kernel
theorem dX7_finalStep_39 : decode cX7_finalStep 39 = .ok (.bipush 9, 2) := by decide +kernel
theorem dX7_finalStep_41 : decode cX7_finalStep 41 = .ok (.if_icmp .ge 16, 3) := by decide +kernel
theorem dX7_finalStep_44 : decode cX7_finalStep 44 = .ok (.iload_n 1, 1) := by decide +kernel
theorem dX7_finalStep_45 : decode cX7_finalStep 45 = .ok (.aload_n 0, 1) := by decide +kernel
theorem dX7_finalStep_46 : decode cX7_finalStep 46 = .ok (.getfield 15, 3) := by decide +kernel
theorem dX7_finalStep_49 : decode cX7_finalStep 49 = .ok (.iload_n 2, 1) := by decide +kernel
theorem dX7_finalStep_50 : decode cX7_finalStep 50 = .ok (.iaload, 1) := by decide +kernel
theorem dX7_finalStep_51 : decode cX7_finalStep 51 = .ok (.iconst 1, 1) := by decide +kernel
theorem dX7_finalStep_52 : decode cX7_finalStep 52 = .ok (.iadd, 1) := by decide +kernel
theorem dX7_finalStep_53 : decode cX7_finalStep 53 = .ok (.invokestatic 48, 3) := by decide +kernel
theorem dX7_finalStep_56 : decode cX7_finalStep 56 = .ok (.istore_n 1, 1) := by decide +kernel
theorem dX7_finalStep_57 : decode cX7_finalStep 57 = .ok (.iinc 2 1, 3) := by decide +kernel
theorem dX7_finalStep_60 : decode cX7_finalStep 60 = .ok (.goto (-56), 3) := by decide +kernel
theorem dX7_finalStep_63 : decode cX7_finalStep 63 = .ok (.iload_n 1, 1) := by decide +kernel
theorem dX7_finalStep_64 : decode cX7_finalStep 64 = .ok (.ireturn, 1) := by decide +kernel
theorem dX7_isSeen_0 : decode cX7_isSeen 0 = .ok (.aload_n 0, 1) := by decide +kernel
theorem dX7_isSeen_1 : decode cX7_isSeen 1 = .ok (.getfield 9, 3) := by decide +kernel
theorem dX7_isSeen_4 : decode cX7_isSeen 4 = .ok (.iload_n 1, 1) := by decide +kernel
theorem dX7_isSeen_5 : decode cX7_isSeen 5 = .ok (.iaload, 1) := by decide +kernel
theorem dX7_isSeen_6 : decode cX7_isSeen 6 = .ok (.iload_n 2, 1) := by decide +kernel
theorem dX7_isSeen_7 : decode cX7_isSeen 7 = .ok (.if_icmp .gt 27, 3) := by decide +kernel
theorem dX7_isSeen_10 : decode cX7_isSeen 10 = .ok (.aload_n 0, 1) := by decide +kernel
theorem dX7_isSeen_11 : decode cX7_isSeen 11 = .ok (.getfield 15, 3) := by decide +kernel
theorem dX7_isSeen_14 : decode cX7_isSeen 14 = .ok (.iload_n 1, 1) := by decide +kernel
theorem dX7_isSeen_15 : decode cX7_isSeen 15 = .ok (.iaload, 1) := by decide +kernel
theorem dX7_isSeen_16 : decode cX7_isSeen 16 = .ok (.iconst (-1), 1) := by decide +kernel
theorem dX7_isSeen_17 : decode cX7_isSeen 17 = .ok (.if_icmp .eq 13, 3) := by decide +kernel
theorem dX7_isSeen_20 : decode cX7_isSeen 20 = .ok (.iload_n 2, 1) := by decide +kernel
theorem dX7_isSeen_21 : decode cX7_isSeen 21 = .ok (.aload_n 0, 1) := by decide +kernel
theorem dX7_isSeen_22 : decode cX7_isSeen 22 = .ok (.getfield 15, 3) := by decide +kernel
theorem dX7_isSeen_25 : decode cX7_isSeen 25 = .ok (.iload_n 1, 1) := by decide +kernel
theorem dX7_isSeen_26 : decode cX7_isSeen 26 = .ok (.iaload, 1) := by decide +kernel
theorem dX7_isSeen_27 : decode cX7_isSeen 27 = .ok (.if_icmp .gt 7, 3) := by decide +kernel
theorem dX7_isSeen_30 : decode cX7_isSeen 30 = .ok (.iconst 1, 1) := by decide +kernel
theorem dX7_isSeen_31 : decode cX7_isSeen 31 = .ok (.goto 4, 3) := by decide +kernel
theorem dX7_isSeen_34 : decode cX7_isSeen 34 = .ok (.iconst 0, 1) := by decide +kernel
theorem dX7_isSeen_35 : decode cX7_isSeen 35 = .ok (.ireturn, 1) := by decide +kernel
theorem dX7_maskAt_0 : decode cX7_maskAt 0 = .ok (.iconst 0, 1) := by decide +kernel
theorem dX7_maskAt_1 : decode cX7_maskAt 1 = .ok (.istore_n 2, 1) := by decide +kernel
theorem dX7_maskAt_2 : decode cX7_maskAt 2 = .ok (.iconst 0, 1) := by decide +kernel
theorem dX7_maskAt_3 : decode cX7_maskAt 3 = .ok (.istore_n 3, 1) := by decide +kernel
theorem dX7_maskAt_4 : decode cX7_maskAt 4 = .ok (.iload_n 3, 1) := by decide +kernel
theorem dX7_maskAt_5 : decode cX7_maskAt 5 = .ok (.aload_n 0, 1) := by decide +kernel
theorem dX7_maskAt_6 : decode cX7_maskAt 6 = .ok (.getfield 35, 3) := by decide +kernel
theorem dX7_maskAt_9 : decode cX7_maskAt 9 = .ok (.if_icmp .ge 24, 3) := by decide +kernel
theorem dX7_maskAt_12 : decode cX7_maskAt 12 = .ok (.aload_n 0, 1) := by decide +kernel
theorem dX7_maskAt_13 : decode cX7_maskAt 13 = .ok (.iload_n 3, 1) := by decide +kernel
theorem dX7_maskAt_14 : decode cX7_maskAt 14 = .ok (.iload_n 1, 1) := by decide +kernel
theorem dX7_maskAt_15 : decode cX7_maskAt 15 = .ok (.invokevirtual 54, 3) := by decide +kernel
theorem dX7_maskAt_18 : decode cX7_maskAt 18 = .ok (.ifCond .eq 9, 3) := by decide +kernel
theorem dX7_maskAt_21 : decode cX7_maskAt 21 = .ok (.iload_n 2, 1) := by decide +kernel
theorem dX7_maskAt_22 : decode cX7_maskAt 22 = .ok (.iconst 1, 1) := by decide +kernel
theorem dX7_maskAt_23 : decode cX7_maskAt 23 = .ok (.iload_n 3, 1) := by decide +kernel
theorem dX7_maskAt_24 : decode cX7_maskAt 24 = .ok (.ishl, 1) := by decide +kernel
theorem dX7_maskAt_25 : decode cX7_maskAt 25 = .ok (.ior, 1) := by decide +kernel
theorem dX7_maskAt_26 : decode cX7_maskAt 26 = .ok (.istore_n 2, 1) := by decide +kernel
theorem dX7_maskAt_27 : decode cX7_maskAt 27 = .ok (.iinc 3 1, 3) := by decide +kernel
theorem dX7_maskAt_30 : decode cX7_maskAt 30 = .ok (.goto (-26), 3) := by decide +kernel
theorem dX7_maskAt_33 : decode cX7_maskAt 33 = .ok (.iload_n 2, 1) := by decide +kernel
theorem dX7_maskAt_34 : decode cX7_maskAt 34 = .ok (.ireturn, 1) := by decide +kernel
theorem dX7_sumTagsAt_0 : decode cX7_sumTagsAt 0 = .ok (.iconst 0, 1) := by decide +kernel
theorem dX7_sumTagsAt_1 : decode cX7_sumTagsAt 1 = .ok (.istore_n 2, 1) := by decide +kernel
theorem dX7_sumTagsAt_2 : decode cX7_sumTagsAt 2 = .ok (.iconst 0, 1) := by decide +kernel
theorem dX7_sumTagsAt_3 : decode cX7_sumTagsAt 3 = .ok (.istore_n 3, 1) := by decide +kernel
theorem dX7_sumTagsAt_4 : decode cX7_sumTagsAt 4 = .ok (.iload_n 3, 1) := by decide +kernel
theorem dX7_sumTagsAt_5 : decode cX7_sumTagsAt 5 = .ok (.aload_n 0, 1) := by decide +kernel
theorem dX7_sumTagsAt_6 : decode cX7_sumTagsAt 6 = .ok (.getfield 35, 3) := by decide +kernel
theorem dX7_sumTagsAt_9 : decode cX7_sumTagsAt 9 = .ok (.if_icmp .ge 27, 3) := by decide +kernel
theorem dX7_sumTagsAt_12 : decode cX7_sumTagsAt 12 = .ok (.aload_n 0, 1) := by decide +kernel
theorem dX7_sumTagsAt_13 : decode cX7_sumTagsAt 13 = .ok (.iload_n 3, 1) := by decide +kernel
theorem dX7_sumTagsAt_14 : decode cX7_sumTagsAt 14 = .ok (.iload_n 1, 1) := by decide +kernel
theorem dX7_sumTagsAt_15 : decode cX7_sumTagsAt 15 = .ok (.invokevirtual 54, 3) := by decide +kernel
theorem dX7_sumTagsAt_18 : decode cX7_sumTagsAt 18 = .ok (.ifCond .eq 12, 3) := by decide +kernel
theorem dX7_sumTagsAt_21 : decode cX7_sumTagsAt 21 = .ok (.iload_n 2, 1) := by decide +kernel
theorem dX7_sumTagsAt_22 : decode cX7_sumTagsAt 22 = .ok (.aload_n 0, 1) := by decide +kernel
theorem dX7_sumTagsAt_23 : decode cX7_sumTagsAt 23 = .ok (.getfield 18, 3) := by decide +kernel
theorem dX7_sumTagsAt_26 : decode cX7_sumTagsAt 26 = .ok (.iload_n 3, 1) := by decide +kernel
theorem dX7_sumTagsAt_27 : decode cX7_sumTagsAt 27 = .ok (.iaload, 1) := by decide +kernel
theorem dX7_sumTagsAt_28 : decode cX7_sumTagsAt 28 = .ok (.iadd, 1) := by decide +kernel
theorem dX7_sumTagsAt_29 : decode cX7_sumTagsAt 29 = .ok (.istore_n 2, 1) := by decide +kernel
theorem dX7_sumTagsAt_30 : decode cX7_sumTagsAt 30 = .ok (.iinc 3 1, 3) := by decide +kernel
theorem dX7_sumTagsAt_33 : decode cX7_sumTagsAt 33 = .ok (.goto (-29), 3) := by decide +kernel
theorem dX7_sumTagsAt_36 : decode cX7_sumTagsAt 36 = .ok (.iload_n 2, 1) := by decide +kernel
theorem dX7_sumTagsAt_37 : decode cX7_sumTagsAt 37 = .ok (.ireturn, 1) := by decide +kernel
theorem dX8_init_0 : decode cX8_init 0 = .ok (.aload_n 0, 1) := by decide +kernel
theorem dX8_init_1 : decode cX8_init 1 = .ok (.invokespecial 3, 3) := by decide +kernel
theorem dX8_init_4 : decode cX8_init 4 = .ok (.aload_n 0, 1) := by decide +kernel
theorem dX8_init_5 : decode cX8_init 5 = .ok (.new 9, 3) := by decide +kernel
theorem dX8_init_8 : decode cX8_init 8 = .ok (.dup, 1) := by decide +kernel
theorem dX8_init_9 : decode cX8_init 9 = .ok (.invokespecial 11, 3) := by decide +kernel
theorem dX8_init_12 : decode cX8_init 12 = .ok (.putfield 12, 3) := by decide +kernel
theorem dX8_init_15 : decode cX8_init 15 = .ok (.aload_n 0, 1) := by decide +kernel
theorem dX8_init_16 : decode cX8_init 16 = .ok (.new 18, 3) := by decide +kernel
theorem dX8_init_19 : decode cX8_init 19 = .ok (.dup, 1) := by decide +kernel
theorem dX8_init_20 : decode cX8_init 20 = .ok (.invokespecial 20, 3) := by decide +kernel
theorem dX8_init_23 : decode cX8_init 23 = .ok (.putfield 21, 3) := by decide +kernel
theorem dX8_init_26 : decode cX8_init 26 = .ok (.aload_n 0, 1) := by decide +kernel
theorem dX8_init_27 : decode cX8_init 27 = .ok (.new 25, 3) := by decide +kernel
theorem dX8_init_30 : decode cX8_init 30 = .ok (.dup, 1) := by decide +kernel
theorem dX8_init_31 : decode cX8_init 31 = .ok (.invokespecial 27, 3) := by decide +kernel
theorem dX8_init_34 : decode cX8_init 34 = .ok (.putfield 28, 3) := by decide +kernel
theorem dX8_init_37 : decode cX8_init 37 = .ok (.return_, 1) := by decide +kernel
theorem dX8_copyFrom_0 : decode cX8_copyFrom 0 = .ok (.aload_n 0, 1) := by decide +kernel
theorem dX8_copyFrom_1 : decode cX8_copyFrom 1 = .ok (.aload_n 1, 1) := by decide +kernel
theorem dX8_copyFrom_2 : decode cX8_copyFrom 2 = .ok (.getfield 32, 3) := by decide +kernel
theorem dX8_copyFrom_5 : decode cX8_copyFrom 5 = .ok (.putfield 32, 3) := by decide +kernel
theorem dX8_copyFrom_8 : decode cX8_copyFrom 8 = .ok (.aload_n 0, 1) := by decide +kernel
theorem dX8_copyFrom_9 : decode cX8_copyFrom 9 = .ok (.getfield 12, 3) := by decide +kernel
theorem dX8_copyFrom_12 : decode cX8_copyFrom 12 = .ok (.aload_n 1, 1) := by decide +kernel
theorem dX8_copyFrom_13 : decode cX8_copyFrom 13 = .ok (.getfield 12, 3) := by decide +kernel
theorem dX8_copyFrom_16 : decode cX8_copyFrom 16 = .ok (.invokevirtual 36, 3) := by decide +kernel
theorem dX8_copyFrom_19 : decode cX8_copyFrom 19 = .ok (.aload_n 0, 1) := by decide +kernel
theorem dX8_copyFrom_20 : decode cX8_copyFrom 20 = .ok (.getfield 21, 3) := by decide +kernel
theorem dX8_copyFrom_23 : decode cX8_copyFrom 23 = .ok (.aload_n 1, 1) := by decide +kernel
theorem dX8_copyFrom_24 : decode cX8_copyFrom 24 = .ok (.getfield 21, 3) := by decide +kernel
theorem dX8_copyFrom_27 : decode cX8_copyFrom 27 = .ok (.invokevirtual 40, 3) := by decide +kernel
theorem dX8_copyFrom_30 : decode cX8_copyFrom 30 = .ok (.aload_n 0, 1) := by decide +kernel
theorem dX8_copyFrom_31 : decode cX8_copyFrom 31 = .ok (.getfield 28, 3) := by decide +kernel
theorem dX8_copyFrom_34 : decode cX8_copyFrom 34 = .ok (.aload_n 1, 1) := by decide +kernel
theorem dX8_copyFrom_35 : decode cX8_copyFrom 35 = .ok (.getfield 28, 3) := by decide +kernel
theorem dX8_copyFrom_38 : decode cX8_copyFrom 38 = .ok (.invokevirtual 43, 3) := by decide +kernel
theorem dX8_copyFrom_41 : decode cX8_copyFrom 41 = .ok (.return_, 1) := by decide +kernel
theorem dX8_here_0 : decode cX8_here 0 = .ok (.aload_n 0, 1) := by decide +kernel
theorem dX8_here_1 : decode cX8_here 1 = .ok (.getfield 12, 3) := by decide +kernel
theorem dX8_here_4 : decode cX8_here 4 = .ok (.aload_n 0, 1) := by decide +kernel
theorem dX8_here_5 : decode cX8_here 5 = .ok (.getfield 28, 3) := by decide +kernel
theorem dX8_here_8 : decode cX8_here 8 = .ok (.getfield 46, 3) := by decide +kernel
theorem dX8_here_11 : decode cX8_here 11 = .ok (.invokevirtual 49, 3) := by decide +kernel
theorem dX8_here_14 : decode cX8_here 14 = .ok (.areturn, 1) := by decide +kernel
theorem dX8_isOver_0 : decode cX8_isOver 0 = .ok (.aload_n 0, 1) := by decide +kernel
theorem dX8_isOver_1 : decode cX8_isOver 1 = .ok (.getfield 32, 3) := by decide +kernel
theorem dX8_isOver_4 : decode cX8_isOver 4 = .ok (.ifCond .le 21, 3) := by decide +kernel
theorem dX8_isOver_7 : decode cX8_isOver 7 = .ok (.aload_n 0, 1) := by decide +kernel
theorem dX8_isOver_8 : decode cX8_isOver 8 = .ok (.getfield 28, 3) := by decide +kernel
theorem dX8_isOver_11 : decode cX8_isOver 11 = .ok (.getfield 53, 3) := by decide +kernel
theorem dX8_isOver_14 : decode cX8_isOver 14 = .ok (.aload_n 0, 1) := by decide +kernel
theorem dX8_isOver_15 : decode cX8_isOver 15 = .ok (.getfield 32, 3) := by decide +kernel
theorem dX8_isOver_18 : decode cX8_isOver 18 = .ok (.if_icmp .lt 7, 3) := by decide +kernel
theorem dX8_isOver_21 : decode cX8_isOver 21 = .ok (.iconst 1, 1) := by decide +kernel
theorem dX8_isOver_22 : decode cX8_isOver 22 = .ok (.goto 4, 3) := by decide +kernel
theorem dX8_isOver_25 : decode cX8_isOver 25 = .ok (.iconst 0, 1) := by decide +kernel
theorem dX8_isOver_26 : decode cX8_isOver 26 = .ok (.ireturn, 1) := by decide +kernel
theorem dX8_canMake_0 : decode cX8_canMake 0 = .ok (.aload_n 0, 1) := by decide +kernel
theorem dX8_canMake_1 : decode cX8_canMake 1 = .ok (.invokevirtual 56, 3) := by decide +kernel
theorem dX8_canMake_4 : decode cX8_canMake 4 = .ok (.astore_n 3, 1) := by decide +kernel
theorem dX8_canMake_5 : decode cX8_canMake 5 = .ok (.aload_n 3, 1) := by decide +kernel
theorem dX8_canMake_6 : decode cX8_canMake 6 = .ok (.ifnull 10, 3) := by decide +kernel
theorem dX8_canMake_9 : decode cX8_canMake 9 = .ok (.aload_n 0, 1) := by decide +kernel
theorem dX8_canMake_10 : decode cX8_canMake 10 = .ok (.invokevirtual 60, 3) := by decide +kernel
theorem dX8_canMake_13 : decode cX8_canMake 13 = .ok (.ifCond .eq 5, 3) := by decide +kernel
theorem dX8_canMake_16 : decode cX8_canMake 16 = .ok (.iconst 0, 1) := by decide +kernel
theorem dX8_canMake_17 : decode cX8_canMake 17 = .ok (.ireturn, 1) := by decide +kernel
theorem dX8_canMake_18 : decode cX8_canMake 18 = .ok (.iload_n 1, 1) := by decide +kernel
theorem dX8_canMake_19 : decode cX8_canMake 19 = .ok (.lookupswitch 76 #[(98, 47), (102, 33), (107, 61)], 33) := by decide +kernel
theorem dX8_canMake_52 : decode cX8_canMake 52 = .ok (.aload_n 0, 1) := by decide +kernel
theorem dX8_canMake_53 : decode cX8_canMake 53 = .ok (.invokevirtual 64, 3) := by decide +kernel
theorem dX8_canMake_56 : decode cX8_canMake 56 = .ok (.iconst (-1), 1) := by decide +kernel
theorem dX8_canMake_57 : decode cX8_canMake 57 = .ok (.if_icmp .eq 7, 3) := by decide +kernel
theorem dX8_canMake_60 : decode cX8_canMake 60 = .ok (.iconst 1, 1) := by decide +kernel
theorem dX8_canMake_61 : decode cX8_canMake 61 = .ok (.goto 4, 3) := by decide +kernel
theorem dX8_canMake_64 : decode cX8_canMake 64 = .ok (.iconst 0, 1) := by decide +kernel
theorem dX8_canMake_65 : decode cX8_canMake 65 = .ok (.ireturn, 1) := by decide +kernel
theorem dX8_canMake_66 : decode cX8_canMake 66 = .ok (.aload_n 0, 1) := by decide +kernel
theorem dX8_canMake_67 : decode cX8_canMake 67 = .ok (.invokevirtual 68, 3) := by decide +kernel
theorem dX8_canMake_70 : decode cX8_canMake 70 = .ok (.iconst (-1), 1) := by decide +kernel
theorem dX8_canMake_71 : decode cX8_canMake 71 = .ok (.if_icmp .eq 7, 3) := by decide +kernel
theorem dX8_canMake_74 : decode cX8_canMake 74 = .ok (.iconst 1, 1) := by decide +kernel
theorem dX8_canMake_75 : decode cX8_canMake 75 = .ok (.goto 4, 3) := by decide +kernel
theorem dX8_canMake_78 : decode cX8_canMake 78 = .ok (.iconst 0, 1) := by decide +kernel
theorem dX8_canMake_79 : decode cX8_canMake 79 = .ok (.ireturn, 1) := by decide +kernel
theorem dX8_canMake_80 : decode cX8_canMake 80 = .ok (.aload_n 3, 1) := by decide +kernel
theorem dX8_canMake_81 : decode cX8_canMake 81 = .ok (.iload_n 2, 1) := by decide +kernel
theorem dX8_canMake_82 : decode cX8_canMake 82 = .ok (.invokevirtual 71, 3) := by decide +kernel
theorem dX8_canMake_85 : decode cX8_canMake 85 = .ok (.iconst (-1), 1) := by decide +kernel
theorem dX8_canMake_86 : decode cX8_canMake 86 = .ok (.if_icmp .eq 7, 3) := by decide +kernel
theorem dX8_canMake_89 : decode cX8_canMake 89 = .ok (.iconst 1, 1) := by decide +kernel
theorem dX8_canMake_90 : decode cX8_canMake 90 = .ok (.goto 4, 3) := by decide +kernel
theorem dX8_canMake_93 : decode cX8_canMake 93 = .ok (.iconst 0, 1) := by decide +kernel
theorem dX8_canMake_94 : decode cX8_canMake 94 = .ok (.ireturn, 1) := by decide +kernel
theorem dX8_canMake_95 : decode cX8_canMake 95 = .ok (.iconst 1, 1) := by decide +kernel
theorem dX8_canMake_96 : decode cX8_canMake 96 = .ok (.ireturn, 1) := by decide +kernel
theorem dX8_make_0 : decode cX8_make 0 = .ok (.iload_n 1, 1) := by decide +kernel
theorem dX8_make_1 : decode cX8_make 1 = .ok (.lookupswitch 57 #[(98, 42), (102, 35), (107, 49)], 35) := by decide +kernel
theorem dX8_make_36 : decode cX8_make 36 = .ok (.aload_n 0, 1) := by decide +kernel
theorem dX8_make_37 : decode cX8_make 37 = .ok (.invokevirtual 77, 3) := by decide +kernel
theorem dX8_make_40 : decode cX8_make 40 = .ok (.goto 24, 3) := by decide +kernel
theorem dX8_make_43 : decode cX8_make 43 = .ok (.aload_n 0, 1) := by decide +kernel
theorem dX8_make_44 : decode cX8_make 44 = .ok (.invokevirtual 80, 3) := by decide +kernel
theorem dX8_make_47 : decode cX8_make 47 = .ok (.goto 17, 3) := by decide +kernel
theorem dX8_make_50 : decode cX8_make 50 = .ok (.aload_n 0, 1) := by decide +kernel
theorem dX8_make_51 : decode cX8_make 51 = .ok (.iload_n 2, 1) := by decide +kernel
theorem dX8_make_52 : decode cX8_make 52 = .ok (.invokevirtual 83, 3) := by decide +kernel
theorem dX8_make_55 : decode cX8_make 55 = .ok (.goto 9, 3) := by decide +kernel
theorem dX8_make_58 : decode cX8_make 58 = .ok (.aload_n 0, 1) := by decide +kernel
theorem dX8_make_59 : decode cX8_make 59 = .ok (.iload_n 2, 1) := by decide +kernel
theorem dX8_make_60 : decode cX8_make 60 = .ok (.invokevirtual 87, 3) := by decide +kernel
theorem dX8_make_63 : decode cX8_make 63 = .ok (.pop, 1) := by decide +kernel
theorem dX8_make_64 : decode cX8_make 64 = .ok (.return_, 1) := by decide +kernel
theorem dX8_nextNumber_0 : decode cX8_nextNumber 0 = .ok (.aload_n 0, 1) := by decide +kernel
theorem dX8_nextNumber_1 : decode cX8_nextNumber 1 = .ok (.invokevirtual 56, 3) := by decide +kernel
theorem dX8_nextNumber_4 : decode cX8_nextNumber 4 = .ok (.astore_n 1, 1) := by decide +kernel
theorem dX8_nextNumber_5 : decode cX8_nextNumber 5 = .ok (.aload_n 1, 1) := by decide +kernel
theorem dX8_nextNumber_6 : decode cX8_nextNumber 6 = .ok (.ifnonnull 5, 3) := by decide +kernel
theorem dX8_nextNumber_9 : decode cX8_nextNumber 9 = .ok (.iconst (-1), 1) := by decide +kernel
theorem dX8_nextNumber_10 : decode cX8_nextNumber 10 = .ok (.ireturn, 1) := by decide +kernel
theorem dX8_nextNumber_11 : decode cX8_nextNumber 11 = .ok (.aload_n 0, 1) := by decide +kernel
theorem dX8_nextNumber_12 : decode cX8_nextNumber 12 = .ok (.getfield 28, 3) := by decide +kernel
theorem dX8_nextNumber_15 : decode cX8_nextNumber 15 = .ok (.getfield 90, 3) := by decide +kernel
theorem dX8_nextNumber_18 : decode cX8_nextNumber 18 = .ok (.aload_n 1, 1) := by decide +kernel
theorem dX8_nextNumber_19 : decode cX8_nextNumber 19 = .ok (.invokevirtual 93, 3) := by decide +kernel
theorem dX8_nextNumber_22 : decode cX8_nextNumber 22 = .ok (.if_icmp .ge 13, 3) := by decide +kernel
theorem dX8_nextNumber_25 : decode cX8_nextNumber 25 = .ok (.aload_n 0, 1) := by decide +kernel
theorem dX8_nextNumber_26 : decode cX8_nextNumber 26 = .ok (.getfield 28, 3) := by decide +kernel
theorem dX8_nextNumber_29 : decode cX8_nextNumber 29 = .ok (.getfield 46, 3) := by decide +kernel
theorem dX8_nextNumber_32 : decode cX8_nextNumber 32 = .ok (.goto 24, 3) := by decide +kernel
theorem dX8_nextNumber_35 : decode cX8_nextNumber 35 = .ok (.aload_n 0, 1) := by decide +kernel
theorem dX8_nextNumber_36 : decode cX8_nextNumber 36 = .ok (.getfield 12, 3) := by decide +kernel
theorem dX8_nextNumber_39 : decode cX8_nextNumber 39 = .ok (.aload_n 0, 1) := by decide +kernel
theorem dX8_nextNumber_40 : decode cX8_nextNumber 40 = .ok (.getfield 12, 3) := by decide +kernel
theorem dX8_nextNumber_43 : decode cX8_nextNumber 43 = .ok (.aload_n 0, 1) := by decide +kernel
theorem dX8_nextNumber_44 : decode cX8_nextNumber 44 = .ok (.getfield 28, 3) := by decide +kernel
theorem dX8_nextNumber_47 : decode cX8_nextNumber 47 = .ok (.getfield 46, 3) := by decide +kernel
theorem dX8_nextNumber_50 : decode cX8_nextNumber 50 = .ok (.invokevirtual 96, 3) := by decide +kernel
theorem dX8_nextNumber_53 : decode cX8_nextNumber 53 = .ok (.invokevirtual 99, 3) := by decide +kernel
theorem dX8_nextNumber_56 : decode cX8_nextNumber 56 = .ok (.ireturn, 1) := by decide +kernel
theorem dX8_goForward_0 : decode cX8_goForward 0 = .ok (.aload_n 0, 1) := by decide +kernel
theorem dX8_goForward_1 : decode cX8_goForward 1 = .ok (.invokevirtual 56, 3) := by decide +kernel
theorem dX8_goForward_4 : decode cX8_goForward 4 = .ok (.astore_n 1, 1) := by decide +kernel
theorem dX8_goForward_5 : decode cX8_goForward 5 = .ok (.aload_n 0, 1) := by decide +kernel
theorem dX8_goForward_6 : decode cX8_goForward 6 = .ok (.invokevirtual 64, 3) := by decide +kernel
theorem dX8_goForward_9 : decode cX8_goForward 9 = .ok (.istore_n 2, 1) := by decide +kernel
theorem dX8_goForward_10 : decode cX8_goForward 10 = .ok (.aload_n 1, 1) := by decide +kernel
theorem dX8_goForward_11 : decode cX8_goForward 11 = .ok (.ifnull 8, 3) := by decide +kernel
theorem dX8_goForward_14 : decode cX8_goForward 14 = .ok (.iload_n 2, 1) := by decide +kernel
theorem dX8_goForward_15 : decode cX8_goForward 15 = .ok (.iconst (-1), 1) := by decide +kernel
theorem dX8_goForward_16 : decode cX8_goForward 16 = .ok (.if_icmp .ne 4, 3) := by decide +kernel
theorem dX8_goForward_19 : decode cX8_goForward 19 = .ok (.return_, 1) := by decide +kernel
theorem dX8_goForward_20 : decode cX8_goForward 20 = .ok (.aload_n 0, 1) := by decide +kernel
theorem dX8_goForward_21 : decode cX8_goForward 21 = .ok (.getfield 28, 3) := by decide +kernel
theorem dX8_goForward_24 : decode cX8_goForward 24 = .ok (.getfield 90, 3) := by decide +kernel
theorem dX8_goForward_27 : decode cX8_goForward 27 = .ok (.aload_n 1, 1) := by decide +kernel
theorem dX8_goForward_28 : decode cX8_goForward 28 = .ok (.invokevirtual 93, 3) := by decide +kernel
theorem dX8_goForward_31 : decode cX8_goForward 31 = .ok (.if_icmp .ge 30, 3) := by decide +kernel
theorem dX8_goForward_34 : decode cX8_goForward 34 = .ok (.aload_n 0, 1) := by decide +kernel
theorem dX8_goForward_35 : decode cX8_goForward 35 = .ok (.getfield 28, 3) := by decide +kernel
theorem dX8_goForward_38 : decode cX8_goForward 38 = .ok (.iload_n 2, 1) := by decide +kernel
theorem dX8_goForward_39 : decode cX8_goForward 39 = .ok (.aload_n 0, 1) := by decide +kernel
theorem dX8_goForward_40 : decode cX8_goForward 40 = .ok (.getfield 28, 3) := by decide +kernel
theorem dX8_goForward_43 : decode cX8_goForward 43 = .ok (.getfield 90, 3) := by decide +kernel
theorem dX8_goForward_46 : decode cX8_goForward 46 = .ok (.iconst 1, 1) := by decide +kernel
theorem dX8_goForward_47 : decode cX8_goForward 47 = .ok (.iadd, 1) := by decide +kernel
theorem dX8_goForward_48 : decode cX8_goForward 48 = .ok (.aload_n 0, 1) := by decide +kernel
theorem dX8_goForward_49 : decode cX8_goForward 49 = .ok (.getfield 28, 3) := by decide +kernel
theorem dX8_goForward_52 : decode cX8_goForward 52 = .ok (.getfield 102, 3) := by decide +kernel
theorem dX8_goForward_55 : decode cX8_goForward 55 = .ok (.invokevirtual 105, 3) := by decide +kernel
theorem dX8_goForward_58 : decode cX8_goForward 58 = .ok (.goto 13, 3) := by decide +kernel
theorem dX8_goForward_61 : decode cX8_goForward 61 = .ok (.aload_n 0, 1) := by decide +kernel
theorem dX8_goForward_62 : decode cX8_goForward 62 = .ok (.getfield 28, 3) := by decide +kernel
theorem dX8_goForward_65 : decode cX8_goForward 65 = .ok (.iload_n 2, 1) := by decide +kernel
theorem dX8_goForward_66 : decode cX8_goForward 66 = .ok (.iconst 0, 1) := by decide +kernel
theorem dX8_goForward_67 : decode cX8_goForward 67 = .ok (.iconst 0, 1) := by decide +kernel
theorem dX8_goForward_68 : decode cX8_goForward 68 = .ok (.invokevirtual 105, 3) := by decide +kernel
theorem dX8_goForward_71 : decode cX8_goForward 71 = .ok (.return_, 1) := by decide +kernel
theorem dX8_goByKey_0 : decode cX8_goByKey 0 = .ok (.aload_n 0, 1) := by decide +kernel
theorem dX8_goByKey_1 : decode cX8_goByKey 1 = .ok (.invokevirtual 56, 3) := by decide +kernel
theorem dX8_goByKey_4 : decode cX8_goByKey 4 = .ok (.astore_n 2, 1) := by decide +kernel
theorem dX8_goByKey_5 : decode cX8_goByKey 5 = .ok (.aload_n 2, 1) := by decide +kernel
theorem dX8_goByKey_6 : decode cX8_goByKey 6 = .ok (.ifnull 26, 3) := by decide +kernel
theorem dX8_goByKey_9 : decode cX8_goByKey 9 = .ok (.aload_n 2, 1) := by decide +kernel
theorem dX8_goByKey_10 : decode cX8_goByKey 10 = .ok (.iload_n 1, 1) := by decide +kernel
theorem dX8_goByKey_11 : decode cX8_goByKey 11 = .ok (.invokevirtual 71, 3) := by decide +kernel
theorem dX8_goByKey_14 : decode cX8_goByKey 14 = .ok (.iconst (-1), 1) := by decide +kernel
theorem dX8_goByKey_15 : decode cX8_goByKey 15 = .ok (.if_icmp .eq 17, 3) := by decide +kernel
theorem dX8_goByKey_18 : decode cX8_goByKey 18 = .ok (.aload_n 0, 1) := by decide +kernel
theorem dX8_goByKey_19 : decode cX8_goByKey 19 = .ok (.getfield 28, 3) := by decide +kernel
theorem dX8_goByKey_22 : decode cX8_goByKey 22 = .ok (.aload_n 2, 1) := by decide +kernel
theorem dX8_goByKey_23 : decode cX8_goByKey 23 = .ok (.iload_n 1, 1) := by decide +kernel
theorem dX8_goByKey_24 : decode cX8_goByKey 24 = .ok (.invokevirtual 71, 3) := by decide +kernel
theorem dX8_goByKey_27 : decode cX8_goByKey 27 = .ok (.iconst 0, 1) := by decide +kernel
theorem dX8_goByKey_28 : decode cX8_goByKey 28 = .ok (.iconst 1, 1) := by decide +kernel
theorem dX8_goByKey_29 : decode cX8_goByKey 29 = .ok (.invokevirtual 105, 3) := by decide +kernel
theorem dX8_goByKey_32 : decode cX8_goByKey 32 = .ok (.return_, 1) := by decide +kernel
theorem dX8_backPlace_0 : decode cX8_backPlace 0 = .ok (.aload_n 0, 1) := by decide +kernel
theorem dX8_backPlace_1 : decode cX8_backPlace 1 = .ok (.getfield 28, 3) := by decide +kernel
theorem dX8_backPlace_4 : decode cX8_backPlace 4 = .ok (.getfield 109, 3) := by decide +kernel
theorem dX8_backPlace_7 : decode cX8_backPlace 7 = .ok (.iconst 1, 1) := by decide +kernel
theorem dX8_backPlace_8 : decode cX8_backPlace 8 = .ok (.isub, 1) := by decide +kernel
theorem dX8_backPlace_9 : decode cX8_backPlace 9 = .ok (.istore_n 1, 1) := by decide +kernel
theorem dX8_backPlace_10 : decode cX8_backPlace 10 = .ok (.iload_n 1, 1) := by decide +kernel
theorem dX8_backPlace_11 : decode cX8_backPlace 11 = .ok (.ifCond .lt 52, 3) := by decide +kernel
theorem dX8_backPlace_14 : decode cX8_backPlace 14 = .ok (.aload_n 0, 1) := by decide +kernel
theorem dX8_backPlace_15 : decode cX8_backPlace 15 = .ok (.getfield 12, 3) := by decide +kernel
theorem dX8_backPlace_18 : decode cX8_backPlace 18 = .ok (.aload_n 0, 1) := by decide +kernel
theorem dX8_backPlace_19 : decode cX8_backPlace 19 = .ok (.getfield 28, 3) := by decide +kernel
theorem dX8_backPlace_22 : decode cX8_backPlace 22 = .ok (.iload_n 1, 1) := by decide +kernel
theorem dX8_backPlace_23 : decode cX8_backPlace 23 = .ok (.iconst 0, 1) := by decide +kernel
theorem dX8_backPlace_24 : decode cX8_backPlace 24 = .ok (.invokevirtual 112, 3) := by decide +kernel
theorem dX8_backPlace_27 : decode cX8_backPlace 27 = .ok (.invokevirtual 49, 3) := by decide +kernel
theorem dX8_backPlace_30 : decode cX8_backPlace 30 = .ok (.astore_n 2, 1) := by decide +kernel
theorem dX8_backPlace_31 : decode cX8_backPlace 31 = .ok (.aload_n 2, 1) := by decide +kernel
theorem dX8_backPlace_32 : decode cX8_backPlace 32 = .ok (.ifnull 25, 3) := by decide +kernel
theorem dX8_backPlace_35 : decode cX8_backPlace 35 = .ok (.aload_n 0, 1) := by decide +kernel
theorem dX8_backPlace_36 : decode cX8_backPlace 36 = .ok (.getfield 28, 3) := by decide +kernel
theorem dX8_backPlace_39 : decode cX8_backPlace 39 = .ok (.iload_n 1, 1) := by decide +kernel
theorem dX8_backPlace_40 : decode cX8_backPlace 40 = .ok (.iconst 2, 1) := by decide +kernel
theorem dX8_backPlace_41 : decode cX8_backPlace 41 = .ok (.invokevirtual 112, 3) := by decide +kernel
theorem dX8_backPlace_44 : decode cX8_backPlace 44 = .ok (.iconst 1, 1) := by decide +kernel
theorem dX8_backPlace_45 : decode cX8_backPlace 45 = .ok (.if_icmp .eq 10, 3) := by decide +kernel
theorem dX8_backPlace_48 : decode cX8_backPlace 48 = .ok (.aload_n 2, 1) := by decide +kernel
theorem dX8_backPlace_49 : decode cX8_backPlace 49 = .ok (.getfield 116, 3) := by decide +kernel
theorem dX8_backPlace_52 : decode cX8_backPlace 52 = .ok (.ifCond .ne 5, 3) := by decide +kernel
theorem dX8_backPlace_55 : decode cX8_backPlace 55 = .ok (.iload_n 1, 1) := by decide +kernel
theorem dX8_backPlace_56 : decode cX8_backPlace 56 = .ok (.ireturn, 1) := by decide +kernel
theorem dX8_backPlace_57 : decode cX8_backPlace 57 = .ok (.iinc 1 (-1), 3) := by decide +kernel
theorem dX8_backPlace_60 : decode cX8_backPlace 60 = .ok (.goto (-50), 3) := by decide +kernel
theorem dX8_backPlace_63 : decode cX8_backPlace 63 = .ok (.iconst (-1), 1) := by decide +kernel
theorem dX8_backPlace_64 : decode cX8_backPlace 64 = .ok (.ireturn, 1) := by decide +kernel
theorem dX8_goBack_0 : decode cX8_goBack 0 = .ok (.aload_n 0, 1) := by decide +kernel
theorem dX8_goBack_1 : decode cX8_goBack 1 = .ok (.getfield 28, 3) := by decide +kernel
theorem dX8_goBack_4 : decode cX8_goBack 4 = .ok (.aload_n 0, 1) := by decide +kernel
theorem dX8_goBack_5 : decode cX8_goBack 5 = .ok (.invokevirtual 68, 3) := by decide +kernel
theorem dX8_goBack_8 : decode cX8_goBack 8 = .ok (.invokevirtual 120, 3) := by decide +kernel
theorem dX8_goBack_11 : decode cX8_goBack 11 = .ok (.aload_n 0, 1) := by decide +kernel
theorem dX8_goBack_12 : decode cX8_goBack 12 = .ok (.invokevirtual 123, 3) := by decide +kernel
theorem dX8_goBack_15 : decode cX8_goBack 15 = .ok (.return_, 1) := by decide +kernel
theorem dX8_clampStep_0 : decode cX8_clampStep 0 = .ok (.aload_n 0, 1) := by decide +kernel
theorem dX8_clampStep_1 : decode cX8_clampStep 1 = .ok (.invokevirtual 56, 3) := by decide +kernel
theorem dX8_clampStep_4 : decode cX8_clampStep 4 = .ok (.astore_n 1, 1) := by decide +kernel
theorem dX8_clampStep_5 : decode cX8_clampStep 5 = .ok (.aload_n 1, 1) := by decide +kernel
theorem dX8_clampStep_6 : decode cX8_clampStep 6 = .ok (.ifnull 24, 3) := by decide +kernel
theorem dX8_clampStep_9 : decode cX8_clampStep 9 = .ok (.aload_n 0, 1) := by decide +kernel
theorem dX8_clampStep_10 : decode cX8_clampStep 10 = .ok (.getfield 28, 3) := by decide +kernel
theorem dX8_clampStep_13 : decode cX8_clampStep 13 = .ok (.aload_n 0, 1) := by decide +kernel
theorem dX8_clampStep_14 : decode cX8_clampStep 14 = .ok (.getfield 28, 3) := by decide +kernel
theorem dX8_clampStep_17 : decode cX8_clampStep 17 = .ok (.getfield 90, 3) := by decide +kernel
theorem dX8_clampStep_20 : decode cX8_clampStep 20 = .ok (.aload_n 1, 1) := by decide +kernel
theorem dX8_clampStep_21 : decode cX8_clampStep 21 = .ok (.invokevirtual 93, 3) := by decide +kernel
theorem dX8_clampStep_24 : decode cX8_clampStep 24 = .ok (.invokestatic 126, 3) := by decide +kernel
theorem dX8_clampStep_27 : decode cX8_clampStep 27 = .ok (.putfield 90, 3) := by decide +kernel
theorem dX8_clampStep_30 : decode cX8_clampStep 30 = .ok (.return_, 1) := by decide +kernel
theorem dX8_passSeconds_0 : decode cX8_passSeconds 0 = .ok (.iconst 0, 1) := by decide +kernel
theorem dX8_passSeconds_1 : decode cX8_passSeconds 1 = .ok (.istore_n 2, 1) := by decide +kernel
theorem dX8_passSeconds_2 : decode cX8_passSeconds 2 = .ok (.iconst 0, 1) := by decide +kernel
theorem dX8_passSeconds_3 : decode cX8_passSeconds 3 = .ok (.istore_n 3, 1) := by decide +kernel
theorem dX8_passSeconds_4 : decode cX8_passSeconds 4 = .ok (.iload_n 3, 1) := by decide +kernel
theorem dX8_passSeconds_5 : decode cX8_passSeconds 5 = .ok (.iload_n 1, 1) := by decide +kernel
theorem dX8_passSeconds_6 : decode cX8_passSeconds 6 = .ok (.if_icmp .ge 71, 3) := by decide +kernel
theorem dX8_passSeconds_9 : decode cX8_passSeconds 9 = .ok (.aload_n 0, 1) := by decide +kernel
theorem dX8_passSeconds_10 : decode cX8_passSeconds 10 = .ok (.invokevirtual 60, 3) := by decide +kernel
theorem dX8_passSeconds_13 : decode cX8_passSeconds 13 = .ok (.ifCond .ne 64, 3) := by decide +kernel
theorem dX8_passSeconds_16 : decode cX8_passSeconds 16 = .ok (.aload_n 0, 1) := by decide +kernel
theorem dX8_passSeconds_17 : decode cX8_passSeconds 17 = .ok (.getfield 28, 3) := by decide +kernel
theorem dX8_passSeconds_20 : decode cX8_passSeconds 20 = .ok (.dup, 1) := by decide +kernel
theorem dX8_passSeconds_21 : decode cX8_passSeconds 21 = .ok (.getfield 53, 3) := by decide +kernel
theorem dX8_passSeconds_24 : decode cX8_passSeconds 24 = .ok (.iconst 1, 1) := by decide +kernel
theorem dX8_passSeconds_25 : decode cX8_passSeconds 25 = .ok (.iadd, 1) := by decide +kernel
theorem dX8_passSeconds_26 : decode cX8_passSeconds 26 = .ok (.putfield 53, 3) := by decide +kernel
theorem dX8_passSeconds_29 : decode cX8_passSeconds 29 = .ok (.aload_n 0, 1) := by decide +kernel
theorem dX8_passSeconds_30 : decode cX8_passSeconds 30 = .ok (.getfield 28, 3) := by decide +kernel
theorem dX8_passSeconds_33 : decode cX8_passSeconds 33 = .ok (.dup, 1) := by decide +kernel
theorem dX8_passSeconds_34 : decode cX8_passSeconds 34 = .ok (.getfield 131, 3) := by decide +kernel
theorem dX8_passSeconds_37 : decode cX8_passSeconds 37 = .ok (.iconst 1, 1) := by decide +kernel
theorem dX8_passSeconds_38 : decode cX8_passSeconds 38 = .ok (.iadd, 1) := by decide +kernel
theorem dX8_passSeconds_39 : decode cX8_passSeconds 39 = .ok (.putfield 131, 3) := by decide +kernel
theorem dX8_passSeconds_42 : decode cX8_passSeconds 42 = .ok (.aload_n 0, 1) := by decide +kernel
theorem dX8_passSeconds_43 : decode cX8_passSeconds 43 = .ok (.invokevirtual 60, 3) := by decide +kernel
theorem dX8_passSeconds_46 : decode cX8_passSeconds 46 = .ok (.ifCond .ne 25, 3) := by decide +kernel
theorem dX8_passSeconds_49 : decode cX8_passSeconds 49 = .ok (.aload_n 0, 1) := by decide +kernel
theorem dX8_passSeconds_50 : decode cX8_passSeconds 50 = .ok (.invokevirtual 134, 3) := by decide +kernel
theorem dX8_passSeconds_53 : decode cX8_passSeconds 53 = .ok (.ifCond .eq 18, 3) := by decide +kernel
theorem dX8_passSeconds_56 : decode cX8_passSeconds 56 = .ok (.aload_n 0, 1) := by decide +kernel
theorem dX8_passSeconds_57 : decode cX8_passSeconds 57 = .ok (.invokevirtual 64, 3) := by decide +kernel
theorem dX8_passSeconds_60 : decode cX8_passSeconds 60 = .ok (.iconst (-1), 1) := by decide +kernel
theorem dX8_passSeconds_61 : decode cX8_passSeconds 61 = .ok (.if_icmp .eq 10, 3) := by decide +kernel
theorem dX8_passSeconds_64 : decode cX8_passSeconds 64 = .ok (.aload_n 0, 1) := by decide +kernel
theorem dX8_passSeconds_65 : decode cX8_passSeconds 65 = .ok (.invokevirtual 77, 3) := by decide +kernel
theorem dX8_passSeconds_68 : decode cX8_passSeconds 68 = .ok (.iinc 2 1, 3) := by decide +kernel
theorem dX8_passSeconds_71 : decode cX8_passSeconds 71 = .ok (.iinc 3 1, 3) := by decide +kernel
theorem dX8_passSeconds_74 : decode cX8_passSeconds 74 = .ok (.goto (-70), 3) := by decide +kernel
theorem dX8_passSeconds_77 : decode cX8_passSeconds 77 = .ok (.iload_n 2, 1) := by decide +kernel
theorem dX8_passSeconds_78 : decode cX8_passSeconds 78 = .ok (.ireturn, 1) := by decide +kernel
theorem dX8_isPauseOver_0 : decode cX8_isPauseOver 0 = .ok (.aload_n 0, 1) := by decide +kernel
theorem dX8_isPauseOver_1 : decode cX8_isPauseOver 1 = .ok (.invokevirtual 56, 3) := by decide +kernel
theorem dX8_isPauseOver_4 : decode cX8_isPauseOver 4 = .ok (.astore_n 1, 1) := by decide +kernel
theorem dX8_isPauseOver_5 : decode cX8_isPauseOver 5 = .ok (.aload_n 1, 1) := by decide +kernel
theorem dX8_isPauseOver_6 : decode cX8_isPauseOver 6 = .ok (.ifnull 28, 3) := by decide +kernel
theorem dX8_isPauseOver_9 : decode cX8_isPauseOver 9 = .ok (.aload_n 1, 1) := by decide +kernel
theorem dX8_isPauseOver_10 : decode cX8_isPauseOver 10 = .ok (.getfield 137, 3) := by decide +kernel
theorem dX8_isPauseOver_13 : decode cX8_isPauseOver 13 = .ok (.ifCond .le 21, 3) := by decide +kernel
theorem dX8_isPauseOver_16 : decode cX8_isPauseOver 16 = .ok (.aload_n 0, 1) := by decide +kernel
theorem dX8_isPauseOver_17 : decode cX8_isPauseOver 17 = .ok (.getfield 28, 3) := by decide +kernel
theorem dX8_isPauseOver_20 : decode cX8_isPauseOver 20 = .ok (.getfield 131, 3) := by decide +kernel
theorem dX8_isPauseOver_23 : decode cX8_isPauseOver 23 = .ok (.aload_n 1, 1) := by decide +kernel
theorem dX8_isPauseOver_24 : decode cX8_isPauseOver 24 = .ok (.getfield 137, 3) := by decide +kernel
theorem dX8_isPauseOver_27 : decode cX8_isPauseOver 27 = .ok (.if_icmp .lt 7, 3) := by decide +kernel
theorem dX8_isPauseOver_30 : decode cX8_isPauseOver 30 = .ok (.iconst 1, 1) := by decide +kernel
theorem dX8_isPauseOver_31 : decode cX8_isPauseOver 31 = .ok (.goto 4, 3) := by decide +kernel
theorem dX8_isPauseOver_34 : decode cX8_isPauseOver 34 = .ok (.iconst 0, 1) := by decide +kernel
theorem dX8_isPauseOver_35 : decode cX8_isPauseOver 35 = .ok (.ireturn, 1) := by decide +kernel
