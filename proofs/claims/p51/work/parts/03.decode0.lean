theorem dX1_init_0 : decode cX1_init 0 = .ok (.aload_n 0, 1) := by decide +kernel
theorem dX1_init_1 : decode cX1_init 1 = .ok (.invokespecial 3, 3) := by decide +kernel
theorem dX1_init_4 : decode cX1_init 4 = .ok (.aload_n 0, 1) := by decide +kernel
theorem dX1_init_5 : decode cX1_init 5 = .ok (.bipush 12, 2) := by decide +kernel
theorem dX1_init_7 : decode cX1_init 7 = .ok (.anewarray 9, 3) := by decide +kernel
theorem dX1_init_10 : decode cX1_init 10 = .ok (.putfield 11, 3) := by decide +kernel
theorem dX1_init_13 : decode cX1_init 13 = .ok (.aload_n 0, 1) := by decide +kernel
theorem dX1_init_14 : decode cX1_init 14 = .ok (.new 9, 3) := by decide +kernel
theorem dX1_init_17 : decode cX1_init 17 = .ok (.dup, 1) := by decide +kernel
theorem dX1_init_18 : decode cX1_init 18 = .ok (.invokespecial 17, 3) := by decide +kernel
theorem dX1_init_21 : decode cX1_init 21 = .ok (.putfield 18, 3) := by decide +kernel
theorem dX1_init_24 : decode cX1_init 24 = .ok (.aload_n 0, 1) := by decide +kernel
theorem dX1_init_25 : decode cX1_init 25 = .ok (.iconst 3, 1) := by decide +kernel
theorem dX1_init_26 : decode cX1_init 26 = .ok (.newarray .int, 2) := by decide +kernel
theorem dX1_init_28 : decode cX1_init 28 = .ok (.putfield 22, 3) := by decide +kernel
theorem dX1_init_31 : decode cX1_init 31 = .ok (.iconst 0, 1) := by decide +kernel
theorem dX1_init_32 : decode cX1_init 32 = .ok (.istore_n 1, 1) := by decide +kernel
theorem dX1_init_33 : decode cX1_init 33 = .ok (.iload_n 1, 1) := by decide +kernel
theorem dX1_init_34 : decode cX1_init 34 = .ok (.aload_n 0, 1) := by decide +kernel
theorem dX1_init_35 : decode cX1_init 35 = .ok (.getfield 11, 3) := by decide +kernel
theorem dX1_init_38 : decode cX1_init 38 = .ok (.arraylength, 1) := by decide +kernel
theorem dX1_init_39 : decode cX1_init 39 = .ok (.if_icmp .ge 22, 3) := by decide +kernel
theorem dX1_init_42 : decode cX1_init 42 = .ok (.aload_n 0, 1) := by decide +kernel
theorem dX1_init_43 : decode cX1_init 43 = .ok (.getfield 11, 3) := by decide +kernel
theorem dX1_init_46 : decode cX1_init 46 = .ok (.iload_n 1, 1) := by decide +kernel
theorem dX1_init_47 : decode cX1_init 47 = .ok (.new 9, 3) := by decide +kernel
theorem dX1_init_50 : decode cX1_init 50 = .ok (.dup, 1) := by decide +kernel
theorem dX1_init_51 : decode cX1_init 51 = .ok (.invokespecial 17, 3) := by decide +kernel
theorem dX1_init_54 : decode cX1_init 54 = .ok (.aastore, 1) := by decide +kernel
theorem dX1_init_55 : decode cX1_init 55 = .ok (.iinc 1 1, 3) := by decide +kernel
theorem dX1_init_58 : decode cX1_init 58 = .ok (.goto (-25), 3) := by decide +kernel
theorem dX1_init_61 : decode cX1_init 61 = .ok (.return_, 1) := by decide +kernel
theorem dX1_copyFrom_0 : decode cX1_copyFrom 0 = .ok (.iconst 0, 1) := by decide +kernel
theorem dX1_copyFrom_1 : decode cX1_copyFrom 1 = .ok (.istore_n 2, 1) := by decide +kernel
theorem dX1_copyFrom_2 : decode cX1_copyFrom 2 = .ok (.iload_n 2, 1) := by decide +kernel
theorem dX1_copyFrom_3 : decode cX1_copyFrom 3 = .ok (.bipush 12, 2) := by decide +kernel
theorem dX1_copyFrom_5 : decode cX1_copyFrom 5 = .ok (.if_icmp .ge 24, 3) := by decide +kernel
theorem dX1_copyFrom_8 : decode cX1_copyFrom 8 = .ok (.aload_n 0, 1) := by decide +kernel
theorem dX1_copyFrom_9 : decode cX1_copyFrom 9 = .ok (.getfield 11, 3) := by decide +kernel
theorem dX1_copyFrom_12 : decode cX1_copyFrom 12 = .ok (.iload_n 2, 1) := by decide +kernel
theorem dX1_copyFrom_13 : decode cX1_copyFrom 13 = .ok (.aaload, 1) := by decide +kernel
theorem dX1_copyFrom_14 : decode cX1_copyFrom 14 = .ok (.aload_n 1, 1) := by decide +kernel
theorem dX1_copyFrom_15 : decode cX1_copyFrom 15 = .ok (.getfield 11, 3) := by decide +kernel
theorem dX1_copyFrom_18 : decode cX1_copyFrom 18 = .ok (.iload_n 2, 1) := by decide +kernel
theorem dX1_copyFrom_19 : decode cX1_copyFrom 19 = .ok (.aaload, 1) := by decide +kernel
theorem dX1_copyFrom_20 : decode cX1_copyFrom 20 = .ok (.invokevirtual 26, 3) := by decide +kernel
theorem dX1_copyFrom_23 : decode cX1_copyFrom 23 = .ok (.iinc 2 1, 3) := by decide +kernel
theorem dX1_copyFrom_26 : decode cX1_copyFrom 26 = .ok (.goto (-24), 3) := by decide +kernel
theorem dX1_copyFrom_29 : decode cX1_copyFrom 29 = .ok (.iconst 0, 1) := by decide +kernel
theorem dX1_copyFrom_30 : decode cX1_copyFrom 30 = .ok (.istore_n 2, 1) := by decide +kernel
theorem dX1_copyFrom_31 : decode cX1_copyFrom 31 = .ok (.iload_n 2, 1) := by decide +kernel
theorem dX1_copyFrom_32 : decode cX1_copyFrom 32 = .ok (.iconst 3, 1) := by decide +kernel
theorem dX1_copyFrom_33 : decode cX1_copyFrom 33 = .ok (.if_icmp .ge 21, 3) := by decide +kernel
theorem dX1_copyFrom_36 : decode cX1_copyFrom 36 = .ok (.aload_n 0, 1) := by decide +kernel
theorem dX1_copyFrom_37 : decode cX1_copyFrom 37 = .ok (.getfield 22, 3) := by decide +kernel
theorem dX1_copyFrom_40 : decode cX1_copyFrom 40 = .ok (.iload_n 2, 1) := by decide +kernel
theorem dX1_copyFrom_41 : decode cX1_copyFrom 41 = .ok (.aload_n 1, 1) := by decide +kernel
theorem dX1_copyFrom_42 : decode cX1_copyFrom 42 = .ok (.getfield 22, 3) := by decide +kernel
theorem dX1_copyFrom_45 : decode cX1_copyFrom 45 = .ok (.iload_n 2, 1) := by decide +kernel
theorem dX1_copyFrom_46 : decode cX1_copyFrom 46 = .ok (.iaload, 1) := by decide +kernel
theorem dX1_copyFrom_47 : decode cX1_copyFrom 47 = .ok (.iastore, 1) := by decide +kernel
theorem dX1_copyFrom_48 : decode cX1_copyFrom 48 = .ok (.iinc 2 1, 3) := by decide +kernel
theorem dX1_copyFrom_51 : decode cX1_copyFrom 51 = .ok (.goto (-20), 3) := by decide +kernel
theorem dX1_copyFrom_54 : decode cX1_copyFrom 54 = .ok (.aload_n 0, 1) := by decide +kernel
theorem dX1_copyFrom_55 : decode cX1_copyFrom 55 = .ok (.aload_n 1, 1) := by decide +kernel
theorem dX1_copyFrom_56 : decode cX1_copyFrom 56 = .ok (.getfield 30, 3) := by decide +kernel
theorem dX1_copyFrom_59 : decode cX1_copyFrom 59 = .ok (.putfield 30, 3) := by decide +kernel
theorem dX1_copyFrom_62 : decode cX1_copyFrom 62 = .ok (.aload_n 0, 1) := by decide +kernel
theorem dX1_copyFrom_63 : decode cX1_copyFrom 63 = .ok (.aload_n 1, 1) := by decide +kernel
theorem dX1_copyFrom_64 : decode cX1_copyFrom 64 = .ok (.getfield 34, 3) := by decide +kernel
theorem dX1_copyFrom_67 : decode cX1_copyFrom 67 = .ok (.putfield 34, 3) := by decide +kernel
theorem dX1_copyFrom_70 : decode cX1_copyFrom 70 = .ok (.aload_n 0, 1) := by decide +kernel
theorem dX1_copyFrom_71 : decode cX1_copyFrom 71 = .ok (.aload_n 1, 1) := by decide +kernel
theorem dX1_copyFrom_72 : decode cX1_copyFrom 72 = .ok (.getfield 37, 3) := by decide +kernel
theorem dX1_copyFrom_75 : decode cX1_copyFrom 75 = .ok (.putfield 37, 3) := by decide +kernel
theorem dX1_copyFrom_78 : decode cX1_copyFrom 78 = .ok (.aload_n 0, 1) := by decide +kernel
theorem dX1_copyFrom_79 : decode cX1_copyFrom 79 = .ok (.aload_n 1, 1) := by decide +kernel
theorem dX1_copyFrom_80 : decode cX1_copyFrom 80 = .ok (.getfield 40, 3) := by decide +kernel
theorem dX1_copyFrom_83 : decode cX1_copyFrom 83 = .ok (.putfield 40, 3) := by decide +kernel
theorem dX1_copyFrom_86 : decode cX1_copyFrom 86 = .ok (.return_, 1) := by decide +kernel
theorem dX1_openFault_0 : decode cX1_openFault 0 = .ok (.iload_n 1, 1) := by decide +kernel
theorem dX1_openFault_1 : decode cX1_openFault 1 = .ok (.iconst 1, 1) := by decide +kernel
theorem dX1_openFault_2 : decode cX1_openFault 2 = .ok (.if_icmp .lt 9, 3) := by decide +kernel
theorem dX1_openFault_5 : decode cX1_openFault 5 = .ok (.iload_n 1, 1) := by decide +kernel
theorem dX1_openFault_6 : decode cX1_openFault 6 = .ok (.bipush 99, 2) := by decide +kernel
theorem dX1_openFault_8 : decode cX1_openFault 8 = .ok (.if_icmp .le 7, 3) := by decide +kernel
theorem dX1_openFault_11 : decode cX1_openFault 11 = .ok (.getstatic 43, 3) := by decide +kernel
theorem dX1_openFault_14 : decode cX1_openFault 14 = .ok (.areturn, 1) := by decide +kernel
theorem dX1_openFault_15 : decode cX1_openFault 15 = .ok (.aload_n 0, 1) := by decide +kernel
theorem dX1_openFault_16 : decode cX1_openFault 16 = .ok (.getfield 34, 3) := by decide +kernel
theorem dX1_openFault_19 : decode cX1_openFault 19 = .ok (.iconst 3, 1) := by decide +kernel
theorem dX1_openFault_20 : decode cX1_openFault 20 = .ok (.if_icmp .lt 9, 3) := by decide +kernel
theorem dX1_openFault_23 : decode cX1_openFault 23 = .ok (.getstatic 49, 3) := by decide +kernel
theorem dX1_openFault_26 : decode cX1_openFault 26 = .ok (.goto 6, 3) := by decide +kernel
theorem dX1_openFault_29 : decode cX1_openFault 29 = .ok (.getstatic 52, 3) := by decide +kernel
theorem dX1_openFault_32 : decode cX1_openFault 32 = .ok (.areturn, 1) := by decide +kernel
theorem dX1_open_0 : decode cX1_open 0 = .ok (.aload_n 0, 1) := by decide +kernel
theorem dX1_open_1 : decode cX1_open 1 = .ok (.getfield 34, 3) := by decide +kernel
theorem dX1_open_4 : decode cX1_open 4 = .ok (.istore_n 2, 1) := by decide +kernel
theorem dX1_open_5 : decode cX1_open 5 = .ok (.iload_n 2, 1) := by decide +kernel
theorem dX1_open_6 : decode cX1_open 6 = .ok (.iconst 3, 1) := by decide +kernel
theorem dX1_open_7 : decode cX1_open 7 = .ok (.if_icmp .ge 20, 3) := by decide +kernel
theorem dX1_open_10 : decode cX1_open 10 = .ok (.aload_n 0, 1) := by decide +kernel
theorem dX1_open_11 : decode cX1_open 11 = .ok (.getfield 22, 3) := by decide +kernel
theorem dX1_open_14 : decode cX1_open 14 = .ok (.iload_n 2, 1) := by decide +kernel
theorem dX1_open_15 : decode cX1_open 15 = .ok (.iload_n 1, 1) := by decide +kernel
theorem dX1_open_16 : decode cX1_open 16 = .ok (.iastore, 1) := by decide +kernel
theorem dX1_open_17 : decode cX1_open 17 = .ok (.aload_n 0, 1) := by decide +kernel
theorem dX1_open_18 : decode cX1_open 18 = .ok (.dup, 1) := by decide +kernel
theorem dX1_open_19 : decode cX1_open 19 = .ok (.getfield 34, 3) := by decide +kernel
theorem dX1_open_22 : decode cX1_open 22 = .ok (.iconst 1, 1) := by decide +kernel
theorem dX1_open_23 : decode cX1_open 23 = .ok (.iadd, 1) := by decide +kernel
theorem dX1_open_24 : decode cX1_open 24 = .ok (.putfield 34, 3) := by decide +kernel
theorem dX1_open_27 : decode cX1_open 27 = .ok (.iload_n 2, 1) := by decide +kernel
theorem dX1_open_28 : decode cX1_open 28 = .ok (.ireturn, 1) := by decide +kernel
theorem dX1_takeInFault_0 : decode cX1_takeInFault 0 = .ok (.iload_n 1, 1) := by decide +kernel
theorem dX1_takeInFault_1 : decode cX1_takeInFault 1 = .ok (.iconst 1, 1) := by decide +kernel
theorem dX1_takeInFault_2 : decode cX1_takeInFault 2 = .ok (.if_icmp .lt 31, 3) := by decide +kernel
theorem dX1_takeInFault_5 : decode cX1_takeInFault 5 = .ok (.iload_n 1, 1) := by decide +kernel
theorem dX1_takeInFault_6 : decode cX1_takeInFault 6 = .ok (.bipush 10, 2) := by decide +kernel
theorem dX1_takeInFault_8 : decode cX1_takeInFault 8 = .ok (.if_icmp .gt 25, 3) := by decide +kernel
theorem dX1_takeInFault_11 : decode cX1_takeInFault 11 = .ok (.iload_n 2, 1) := by decide +kernel
theorem dX1_takeInFault_12 : decode cX1_takeInFault 12 = .ok (.iconst 1, 1) := by decide +kernel
theorem dX1_takeInFault_13 : decode cX1_takeInFault 13 = .ok (.if_icmp .lt 20, 3) := by decide +kernel
theorem dX1_takeInFault_16 : decode cX1_takeInFault 16 = .ok (.iload_n 2, 1) := by decide +kernel
theorem dX1_takeInFault_17 : decode cX1_takeInFault 17 = .ok (.bipush 20, 2) := by decide +kernel
theorem dX1_takeInFault_19 : decode cX1_takeInFault 19 = .ok (.if_icmp .gt 14, 3) := by decide +kernel
theorem dX1_takeInFault_22 : decode cX1_takeInFault 22 = .ok (.iload_n 3, 1) := by decide +kernel
theorem dX1_takeInFault_23 : decode cX1_takeInFault 23 = .ok (.iconst 1, 1) := by decide +kernel
theorem dX1_takeInFault_24 : decode cX1_takeInFault 24 = .ok (.if_icmp .lt 9, 3) := by decide +kernel
theorem dX1_takeInFault_27 : decode cX1_takeInFault 27 = .ok (.iload_n 3, 1) := by decide +kernel
theorem dX1_takeInFault_28 : decode cX1_takeInFault 28 = .ok (.bipush 30, 2) := by decide +kernel
theorem dX1_takeInFault_30 : decode cX1_takeInFault 30 = .ok (.if_icmp .le 7, 3) := by decide +kernel
theorem dX1_takeInFault_33 : decode cX1_takeInFault 33 = .ok (.getstatic 43, 3) := by decide +kernel
theorem dX1_takeInFault_36 : decode cX1_takeInFault 36 = .ok (.areturn, 1) := by decide +kernel
theorem dX1_takeInFault_37 : decode cX1_takeInFault 37 = .ok (.aload_n 0, 1) := by decide +kernel
theorem dX1_takeInFault_38 : decode cX1_takeInFault 38 = .ok (.invokevirtual 55, 3) := by decide +kernel
theorem dX1_takeInFault_41 : decode cX1_takeInFault 41 = .ok (.bipush 12, 2) := by decide +kernel
theorem dX1_takeInFault_43 : decode cX1_takeInFault 43 = .ok (.if_icmp .lt 9, 3) := by decide +kernel
theorem dX1_takeInFault_46 : decode cX1_takeInFault 46 = .ok (.getstatic 49, 3) := by decide +kernel
theorem dX1_takeInFault_49 : decode cX1_takeInFault 49 = .ok (.goto 6, 3) := by decide +kernel
theorem dX1_takeInFault_52 : decode cX1_takeInFault 52 = .ok (.getstatic 52, 3) := by decide +kernel
theorem dX1_takeInFault_55 : decode cX1_takeInFault 55 = .ok (.areturn, 1) := by decide +kernel
theorem dX1_takeIn_0 : decode cX1_takeIn 0 = .ok (.aload_n 0, 1) := by decide +kernel
theorem dX1_takeIn_1 : decode cX1_takeIn 1 = .ok (.invokevirtual 59, 3) := by decide +kernel
theorem dX1_takeIn_4 : decode cX1_takeIn 4 = .ok (.astore 5, 2) := by decide +kernel
theorem dX1_takeIn_6 : decode cX1_takeIn 6 = .ok (.aload 5, 2) := by decide +kernel
theorem dX1_takeIn_8 : decode cX1_takeIn 8 = .ok (.aload_n 0, 1) := by decide +kernel
theorem dX1_takeIn_9 : decode cX1_takeIn 9 = .ok (.getfield 30, 3) := by decide +kernel
theorem dX1_takeIn_12 : decode cX1_takeIn 12 = .ok (.putfield 63, 3) := by decide +kernel
theorem dX1_takeIn_15 : decode cX1_takeIn 15 = .ok (.aload 5, 2) := by decide +kernel
theorem dX1_takeIn_17 : decode cX1_takeIn 17 = .ok (.iload_n 1, 1) := by decide +kernel
theorem dX1_takeIn_18 : decode cX1_takeIn 18 = .ok (.putfield 66, 3) := by decide +kernel
theorem dX1_takeIn_21 : decode cX1_takeIn 21 = .ok (.aload 5, 2) := by decide +kernel
theorem dX1_takeIn_23 : decode cX1_takeIn 23 = .ok (.iload_n 2, 1) := by decide +kernel
theorem dX1_takeIn_24 : decode cX1_takeIn 24 = .ok (.putfield 69, 3) := by decide +kernel
theorem dX1_takeIn_27 : decode cX1_takeIn 27 = .ok (.aload 5, 2) := by decide +kernel
theorem dX1_takeIn_29 : decode cX1_takeIn 29 = .ok (.iload_n 3, 1) := by decide +kernel
theorem dX1_takeIn_30 : decode cX1_takeIn 30 = .ok (.putfield 72, 3) := by decide +kernel
theorem dX1_takeIn_33 : decode cX1_takeIn 33 = .ok (.aload 5, 2) := by decide +kernel
theorem dX1_takeIn_35 : decode cX1_takeIn 35 = .ok (.iload 4, 2) := by decide +kernel
theorem dX1_takeIn_37 : decode cX1_takeIn 37 = .ok (.putfield 75, 3) := by decide +kernel
theorem dX1_takeIn_40 : decode cX1_takeIn 40 = .ok (.aload 5, 2) := by decide +kernel
theorem dX1_takeIn_42 : decode cX1_takeIn 42 = .ok (.iconst (-1), 1) := by decide +kernel
theorem dX1_takeIn_43 : decode cX1_takeIn 43 = .ok (.putfield 79, 3) := by decide +kernel
theorem dX1_takeIn_46 : decode cX1_takeIn 46 = .ok (.aload_n 0, 1) := by decide +kernel
theorem dX1_takeIn_47 : decode cX1_takeIn 47 = .ok (.dup, 1) := by decide +kernel
theorem dX1_takeIn_48 : decode cX1_takeIn 48 = .ok (.getfield 30, 3) := by decide +kernel
theorem dX1_takeIn_51 : decode cX1_takeIn 51 = .ok (.iconst 1, 1) := by decide +kernel
theorem dX1_takeIn_52 : decode cX1_takeIn 52 = .ok (.iadd, 1) := by decide +kernel
theorem dX1_takeIn_53 : decode cX1_takeIn 53 = .ok (.putfield 30, 3) := by decide +kernel
theorem dX1_takeIn_56 : decode cX1_takeIn 56 = .ok (.aload 5, 2) := by decide +kernel
theorem dX1_takeIn_58 : decode cX1_takeIn 58 = .ok (.getfield 63, 3) := by decide +kernel
theorem dX1_takeIn_61 : decode cX1_takeIn 61 = .ok (.ireturn, 1) := by decide +kernel
theorem dX1_dropFault_0 : decode cX1_dropFault 0 = .ok (.aload_n 0, 1) := by decide +kernel
theorem dX1_dropFault_1 : decode cX1_dropFault 1 = .ok (.iload_n 1, 1) := by decide +kernel
theorem dX1_dropFault_2 : decode cX1_dropFault 2 = .ok (.invokevirtual 82, 3) := by decide +kernel
theorem dX1_dropFault_5 : decode cX1_dropFault 5 = .ok (.astore_n 2, 1) := by decide +kernel
theorem dX1_dropFault_6 : decode cX1_dropFault 6 = .ok (.aload_n 2, 1) := by decide +kernel
theorem dX1_dropFault_7 : decode cX1_dropFault 7 = .ok (.invokevirtual 86, 3) := by decide +kernel
theorem dX1_dropFault_10 : decode cX1_dropFault 10 = .ok (.ifCond .ne 7, 3) := by decide +kernel
theorem dX1_dropFault_13 : decode cX1_dropFault 13 = .ok (.getstatic 90, 3) := by decide +kernel
theorem dX1_dropFault_16 : decode cX1_dropFault 16 = .ok (.areturn, 1) := by decide +kernel
theorem dX1_dropFault_17 : decode cX1_dropFault 17 = .ok (.aload_n 2, 1) := by decide +kernel
theorem dX1_dropFault_18 : decode cX1_dropFault 18 = .ok (.invokevirtual 93, 3) := by decide +kernel
theorem dX1_dropFault_21 : decode cX1_dropFault 21 = .ok (.ifCond .eq 9, 3) := by decide +kernel
theorem dX1_dropFault_24 : decode cX1_dropFault 24 = .ok (.getstatic 49, 3) := by decide +kernel
theorem dX1_dropFault_27 : decode cX1_dropFault 27 = .ok (.goto 6, 3) := by decide +kernel
theorem dX1_dropFault_30 : decode cX1_dropFault 30 = .ok (.getstatic 52, 3) := by decide +kernel
theorem dX1_dropFault_33 : decode cX1_dropFault 33 = .ok (.areturn, 1) := by decide +kernel
theorem dX1_drop_0 : decode cX1_drop 0 = .ok (.aload_n 0, 1) := by decide +kernel
theorem dX1_drop_1 : decode cX1_drop 1 = .ok (.iload_n 1, 1) := by decide +kernel
theorem dX1_drop_2 : decode cX1_drop 2 = .ok (.invokevirtual 82, 3) := by decide +kernel
theorem dX1_drop_5 : decode cX1_drop 5 = .ok (.bipush (-2), 2) := by decide +kernel
theorem dX1_drop_7 : decode cX1_drop 7 = .ok (.putfield 79, 3) := by decide +kernel
theorem dX1_drop_10 : decode cX1_drop 10 = .ok (.aload_n 0, 1) := by decide +kernel
theorem dX1_drop_11 : decode cX1_drop 11 = .ok (.invokevirtual 55, 3) := by decide +kernel
theorem dX1_drop_14 : decode cX1_drop 14 = .ok (.ireturn, 1) := by decide +kernel
theorem dX1_loadFault_0 : decode cX1_loadFault 0 = .ok (.aload_n 0, 1) := by decide +kernel
theorem dX1_loadFault_1 : decode cX1_loadFault 1 = .ok (.iload_n 1, 1) := by decide +kernel
theorem dX1_loadFault_2 : decode cX1_loadFault 2 = .ok (.invokevirtual 82, 3) := by decide +kernel
theorem dX1_loadFault_5 : decode cX1_loadFault 5 = .ok (.astore_n 3, 1) := by decide +kernel
theorem dX1_loadFault_6 : decode cX1_loadFault 6 = .ok (.aload_n 3, 1) := by decide +kernel
theorem dX1_loadFault_7 : decode cX1_loadFault 7 = .ok (.invokevirtual 86, 3) := by decide +kernel
theorem dX1_loadFault_10 : decode cX1_loadFault 10 = .ok (.ifCond .ne 7, 3) := by decide +kernel
theorem dX1_loadFault_13 : decode cX1_loadFault 13 = .ok (.getstatic 90, 3) := by decide +kernel
theorem dX1_loadFault_16 : decode cX1_loadFault 16 = .ok (.areturn, 1) := by decide +kernel
theorem dX1_loadFault_17 : decode cX1_loadFault 17 = .ok (.aload_n 0, 1) := by decide +kernel
theorem dX1_loadFault_18 : decode cX1_loadFault 18 = .ok (.iload_n 2, 1) := by decide +kernel
theorem dX1_loadFault_19 : decode cX1_loadFault 19 = .ok (.invokevirtual 96, 3) := by decide +kernel
theorem dX1_loadFault_22 : decode cX1_loadFault 22 = .ok (.ifCond .ne 7, 3) := by decide +kernel
theorem dX1_loadFault_25 : decode cX1_loadFault 25 = .ok (.getstatic 100, 3) := by decide +kernel
theorem dX1_loadFault_28 : decode cX1_loadFault 28 = .ok (.areturn, 1) := by decide +kernel
theorem dX1_loadFault_29 : decode cX1_loadFault 29 = .ok (.aload_n 3, 1) := by decide +kernel
theorem dX1_loadFault_30 : decode cX1_loadFault 30 = .ok (.invokevirtual 93, 3) := by decide +kernel
theorem dX1_loadFault_33 : decode cX1_loadFault 33 = .ok (.ifCond .eq 7, 3) := by decide +kernel
theorem dX1_loadFault_36 : decode cX1_loadFault 36 = .ok (.getstatic 49, 3) := by decide +kernel
theorem dX1_loadFault_39 : decode cX1_loadFault 39 = .ok (.areturn, 1) := by decide +kernel
theorem dX1_loadFault_40 : decode cX1_loadFault 40 = .ok (.aload_n 0, 1) := by decide +kernel
theorem dX1_loadFault_41 : decode cX1_loadFault 41 = .ok (.aload_n 3, 1) := by decide +kernel
theorem dX1_loadFault_42 : decode cX1_loadFault 42 = .ok (.iload_n 2, 1) := by decide +kernel
theorem dX1_loadFault_43 : decode cX1_loadFault 43 = .ok (.invokevirtual 103, 3) := by decide +kernel
theorem dX1_loadFault_46 : decode cX1_loadFault 46 = .ok (.ifCond .ne 9, 3) := by decide +kernel
theorem dX1_loadFault_49 : decode cX1_loadFault 49 = .ok (.getstatic 52, 3) := by decide +kernel
theorem dX1_loadFault_52 : decode cX1_loadFault 52 = .ok (.goto 6, 3) := by decide +kernel
theorem dX1_loadFault_55 : decode cX1_loadFault 55 = .ok (.getstatic 107, 3) := by decide +kernel
theorem dX1_loadFault_58 : decode cX1_loadFault 58 = .ok (.areturn, 1) := by decide +kernel
theorem dX1_load_0 : decode cX1_load 0 = .ok (.aload_n 0, 1) := by decide +kernel
theorem dX1_load_1 : decode cX1_load 1 = .ok (.iload_n 1, 1) := by decide +kernel
theorem dX1_load_2 : decode cX1_load 2 = .ok (.invokevirtual 82, 3) := by decide +kernel
theorem dX1_load_5 : decode cX1_load 5 = .ok (.astore_n 3, 1) := by decide +kernel
theorem dX1_load_6 : decode cX1_load 6 = .ok (.aload_n 0, 1) := by decide +kernel
theorem dX1_load_7 : decode cX1_load 7 = .ok (.aload_n 3, 1) := by decide +kernel
theorem dX1_load_8 : decode cX1_load 8 = .ok (.iload_n 2, 1) := by decide +kernel
theorem dX1_load_9 : decode cX1_load 9 = .ok (.invokevirtual 110, 3) := by decide +kernel
theorem dX1_load_12 : decode cX1_load 12 = .ok (.aload_n 3, 1) := by decide +kernel
theorem dX1_load_13 : decode cX1_load 13 = .ok (.getfield 114, 3) := by decide +kernel
theorem dX1_load_16 : decode cX1_load 16 = .ok (.ireturn, 1) := by decide +kernel
theorem dX1_unloadFault_0 : decode cX1_unloadFault 0 = .ok (.aload_n 0, 1) := by decide +kernel
theorem dX1_unloadFault_1 : decode cX1_unloadFault 1 = .ok (.iload_n 1, 1) := by decide +kernel
theorem dX1_unloadFault_2 : decode cX1_unloadFault 2 = .ok (.invokevirtual 82, 3) := by decide +kernel
theorem dX1_unloadFault_5 : decode cX1_unloadFault 5 = .ok (.astore_n 2, 1) := by decide +kernel
theorem dX1_unloadFault_6 : decode cX1_unloadFault 6 = .ok (.aload_n 2, 1) := by decide +kernel
theorem dX1_unloadFault_7 : decode cX1_unloadFault 7 = .ok (.invokevirtual 86, 3) := by decide +kernel
theorem dX1_unloadFault_10 : decode cX1_unloadFault 10 = .ok (.ifCond .ne 7, 3) := by decide +kernel
theorem dX1_unloadFault_13 : decode cX1_unloadFault 13 = .ok (.getstatic 90, 3) := by decide +kernel
theorem dX1_unloadFault_16 : decode cX1_unloadFault 16 = .ok (.areturn, 1) := by decide +kernel
theorem dX1_unloadFault_17 : decode cX1_unloadFault 17 = .ok (.aload_n 2, 1) := by decide +kernel
theorem dX1_unloadFault_18 : decode cX1_unloadFault 18 = .ok (.invokevirtual 93, 3) := by decide +kernel
theorem dX1_unloadFault_21 : decode cX1_unloadFault 21 = .ok (.ifCond .eq 24, 3) := by decide +kernel
theorem dX1_unloadFault_24 : decode cX1_unloadFault 24 = .ok (.aload_n 2, 1) := by decide +kernel
theorem dX1_unloadFault_25 : decode cX1_unloadFault 25 = .ok (.getfield 114, 3) := by decide +kernel
theorem dX1_unloadFault_28 : decode cX1_unloadFault 28 = .ok (.aload_n 0, 1) := by decide +kernel
theorem dX1_unloadFault_29 : decode cX1_unloadFault 29 = .ok (.aload_n 2, 1) := by decide +kernel
theorem dX1_unloadFault_30 : decode cX1_unloadFault 30 = .ok (.getfield 79, 3) := by decide +kernel
theorem dX1_unloadFault_33 : decode cX1_unloadFault 33 = .ok (.invokevirtual 117, 3) := by decide +kernel
theorem dX1_unloadFault_36 : decode cX1_unloadFault 36 = .ok (.iconst 1, 1) := by decide +kernel
theorem dX1_unloadFault_37 : decode cX1_unloadFault 37 = .ok (.isub, 1) := by decide +kernel
theorem dX1_unloadFault_38 : decode cX1_unloadFault 38 = .ok (.if_icmp .ne 7, 3) := by decide +kernel
theorem dX1_unloadFault_41 : decode cX1_unloadFault 41 = .ok (.iconst 1, 1) := by decide +kernel
theorem dX1_unloadFault_42 : decode cX1_unloadFault 42 = .ok (.goto 4, 3) := by decide +kernel
theorem dX1_unloadFault_45 : decode cX1_unloadFault 45 = .ok (.iconst 0, 1) := by decide +kernel
theorem dX1_unloadFault_46 : decode cX1_unloadFault 46 = .ok (.istore_n 3, 1) := by decide +kernel
theorem dX1_unloadFault_47 : decode cX1_unloadFault 47 = .ok (.iload_n 3, 1) := by decide +kernel
theorem dX1_unloadFault_48 : decode cX1_unloadFault 48 = .ok (.ifCond .eq 9, 3) := by decide +kernel
theorem dX1_unloadFault_51 : decode cX1_unloadFault 51 = .ok (.getstatic 52, 3) := by decide +kernel
theorem dX1_unloadFault_54 : decode cX1_unloadFault 54 = .ok (.goto 6, 3) := by decide +kernel
theorem dX1_unloadFault_57 : decode cX1_unloadFault 57 = .ok (.getstatic 49, 3) := by decide +kernel
theorem dX1_unloadFault_60 : decode cX1_unloadFault 60 = .ok (.areturn, 1) := by decide +kernel
theorem dX1_unload_0 : decode cX1_unload 0 = .ok (.aload_n 0, 1) := by decide +kernel
theorem dX1_unload_1 : decode cX1_unload 1 = .ok (.iload_n 1, 1) := by decide +kernel
theorem dX1_unload_2 : decode cX1_unload 2 = .ok (.invokevirtual 82, 3) := by decide +kernel
theorem dX1_unload_5 : decode cX1_unload 5 = .ok (.astore_n 2, 1) := by decide +kernel
theorem dX1_unload_6 : decode cX1_unload 6 = .ok (.aload_n 2, 1) := by decide +kernel
theorem dX1_unload_7 : decode cX1_unload 7 = .ok (.getfield 79, 3) := by decide +kernel
theorem dX1_unload_10 : decode cX1_unload 10 = .ok (.istore_n 3, 1) := by decide +kernel
theorem dX1_unload_11 : decode cX1_unload 11 = .ok (.aload_n 0, 1) := by decide +kernel
theorem dX1_unload_12 : decode cX1_unload 12 = .ok (.aload_n 2, 1) := by decide +kernel
theorem dX1_unload_13 : decode cX1_unload 13 = .ok (.invokevirtual 121, 3) := by decide +kernel
theorem dX1_unload_16 : decode cX1_unload 16 = .ok (.aload_n 0, 1) := by decide +kernel
theorem dX1_unload_17 : decode cX1_unload 17 = .ok (.iload_n 3, 1) := by decide +kernel
theorem dX1_unload_18 : decode cX1_unload 18 = .ok (.invokevirtual 117, 3) := by decide +kernel
theorem dX1_unload_21 : decode cX1_unload 21 = .ok (.ireturn, 1) := by decide +kernel
theorem dX1_fillFault_0 : decode cX1_fillFault 0 = .ok (.aload_n 0, 1) := by decide +kernel
theorem dX1_fillFault_1 : decode cX1_fillFault 1 = .ok (.iload_n 1, 1) := by decide +kernel
theorem dX1_fillFault_2 : decode cX1_fillFault 2 = .ok (.invokevirtual 96, 3) := by decide +kernel
theorem dX1_fillFault_5 : decode cX1_fillFault 5 = .ok (.ifCond .eq 9, 3) := by decide +kernel
theorem dX1_fillFault_8 : decode cX1_fillFault 8 = .ok (.getstatic 52, 3) := by decide +kernel
theorem dX1_fillFault_11 : decode cX1_fillFault 11 = .ok (.goto 6, 3) := by decide +kernel
theorem dX1_fillFault_14 : decode cX1_fillFault 14 = .ok (.getstatic 100, 3) := by decide +kernel
theorem dX1_fillFault_17 : decode cX1_fillFault 17 = .ok (.areturn, 1) := by decide +kernel
theorem dX1_fill_0 : decode cX1_fill 0 = .ok (.iconst 0, 1) := by decide +kernel
theorem dX1_fill_1 : decode cX1_fill 1 = .ok (.istore_n 2, 1) := by decide +kernel
theorem dX1_fill_2 : decode cX1_fill 2 = .ok (.aload_n 0, 1) := by decide +kernel
theorem dX1_fill_3 : decode cX1_fill 3 = .ok (.invokevirtual 55, 3) := by decide +kernel
theorem dX1_fill_6 : decode cX1_fill 6 = .ok (.istore_n 3, 1) := by decide +kernel
theorem dX1_fill_7 : decode cX1_fill 7 = .ok (.iconst 0, 1) := by decide +kernel
theorem dX1_fill_8 : decode cX1_fill 8 = .ok (.istore 4, 2) := by decide +kernel
theorem dX1_fill_10 : decode cX1_fill 10 = .ok (.iload 4, 2) := by decide +kernel
theorem dX1_fill_12 : decode cX1_fill 12 = .ok (.iload_n 3, 1) := by decide +kernel
theorem dX1_fill_13 : decode cX1_fill 13 = .ok (.if_icmp .ge 45, 3) := by decide +kernel
theorem dX1_fill_16 : decode cX1_fill 16 = .ok (.aload_n 0, 1) := by decide +kernel
theorem dX1_fill_17 : decode cX1_fill 17 = .ok (.iload 4, 2) := by decide +kernel
theorem dX1_fill_19 : decode cX1_fill 19 = .ok (.invokevirtual 124, 3) := by decide +kernel
theorem dX1_fill_22 : decode cX1_fill 22 = .ok (.astore 5, 2) := by decide +kernel
theorem dX1_fill_24 : decode cX1_fill 24 = .ok (.aload 5, 2) := by decide +kernel
theorem dX1_fill_26 : decode cX1_fill 26 = .ok (.invokevirtual 127, 3) := by decide +kernel
theorem dX1_fill_29 : decode cX1_fill 29 = .ok (.ifCond .eq 23, 3) := by decide +kernel
theorem dX1_fill_32 : decode cX1_fill 32 = .ok (.aload_n 0, 1) := by decide +kernel
theorem dX1_fill_33 : decode cX1_fill 33 = .ok (.aload 5, 2) := by decide +kernel
theorem dX1_fill_35 : decode cX1_fill 35 = .ok (.iload_n 1, 1) := by decide +kernel
theorem dX1_fill_36 : decode cX1_fill 36 = .ok (.invokevirtual 103, 3) := by decide +kernel
theorem dX1_fill_39 : decode cX1_fill 39 = .ok (.ifCond .ne 13, 3) := by decide +kernel
theorem dX1_fill_42 : decode cX1_fill 42 = .ok (.aload_n 0, 1) := by decide +kernel
theorem dX1_fill_43 : decode cX1_fill 43 = .ok (.aload 5, 2) := by decide +kernel
theorem dX1_fill_45 : decode cX1_fill 45 = .ok (.iload_n 1, 1) := by decide +kernel
theorem dX1_fill_46 : decode cX1_fill 46 = .ok (.invokevirtual 110, 3) := by decide +kernel
theorem dX1_fill_49 : decode cX1_fill 49 = .ok (.iinc 2 1, 3) := by decide +kernel
theorem dX1_fill_52 : decode cX1_fill 52 = .ok (.iinc 4 1, 3) := by decide +kernel
theorem dX1_fill_55 : decode cX1_fill 55 = .ok (.goto (-45), 3) := by decide +kernel
theorem dX1_fill_58 : decode cX1_fill 58 = .ok (.iload_n 2, 1) := by decide +kernel
theorem dX1_fill_59 : decode cX1_fill 59 = .ok (.ireturn, 1) := by decide +kernel
theorem dX1_handOverFault_0 : decode cX1_handOverFault 0 = .ok (.aload_n 0, 1) := by decide +kernel
theorem dX1_handOverFault_1 : decode cX1_handOverFault 1 = .ok (.invokevirtual 130, 3) := by decide +kernel
theorem dX1_handOverFault_4 : decode cX1_handOverFault 4 = .ok (.ifCond .eq 9, 3) := by decide +kernel
theorem dX1_handOverFault_7 : decode cX1_handOverFault 7 = .ok (.getstatic 52, 3) := by decide +kernel
theorem dX1_handOverFault_10 : decode cX1_handOverFault 10 = .ok (.goto 6, 3) := by decide +kernel
theorem dX1_handOverFault_13 : decode cX1_handOverFault 13 = .ok (.getstatic 49, 3) := by decide +kernel
theorem dX1_handOverFault_16 : decode cX1_handOverFault 16 = .ok (.areturn, 1) := by decide +kernel
theorem dX1_handOver_0 : decode cX1_handOver 0 = .ok (.aload_n 0, 1) := by decide +kernel
theorem dX1_handOver_1 : decode cX1_handOver 1 = .ok (.invokevirtual 133, 3) := by decide +kernel
theorem dX1_handOver_4 : decode cX1_handOver 4 = .ok (.istore_n 1, 1) := by decide +kernel
theorem dX1_handOver_5 : decode cX1_handOver 5 = .ok (.iconst 0, 1) := by decide +kernel
theorem dX1_handOver_6 : decode cX1_handOver 6 = .ok (.istore_n 2, 1) := by decide +kernel
theorem dX1_handOver_7 : decode cX1_handOver 7 = .ok (.aload_n 0, 1) := by decide +kernel
theorem dX1_handOver_8 : decode cX1_handOver 8 = .ok (.getfield 11, 3) := by decide +kernel
theorem dX1_handOver_11 : decode cX1_handOver 11 = .ok (.astore_n 3, 1) := by decide +kernel
theorem dX1_handOver_12 : decode cX1_handOver 12 = .ok (.aload_n 3, 1) := by decide +kernel
theorem dX1_handOver_13 : decode cX1_handOver 13 = .ok (.arraylength, 1) := by decide +kernel
theorem dX1_handOver_14 : decode cX1_handOver 14 = .ok (.istore 4, 2) := by decide +kernel
theorem dX1_handOver_16 : decode cX1_handOver 16 = .ok (.iconst 0, 1) := by decide +kernel
theorem dX1_handOver_17 : decode cX1_handOver 17 = .ok (.istore 5, 2) := by decide +kernel
theorem dX1_handOver_19 : decode cX1_handOver 19 = .ok (.iload 5, 2) := by decide +kernel
theorem dX1_handOver_21 : decode cX1_handOver 21 = .ok (.iload 4, 2) := by decide +kernel
theorem dX1_handOver_23 : decode cX1_handOver 23 = .ok (.if_icmp .ge 62, 3) := by decide +kernel
theorem dX1_handOver_26 : decode cX1_handOver 26 = .ok (.aload_n 3, 1) := by decide +kernel
theorem dX1_handOver_27 : decode cX1_handOver 27 = .ok (.iload 5, 2) := by decide +kernel
theorem dX1_handOver_29 : decode cX1_handOver 29 = .ok (.aaload, 1) := by decide +kernel
theorem dX1_handOver_30 : decode cX1_handOver 30 = .ok (.astore 6, 2) := by decide +kernel
theorem dX1_handOver_32 : decode cX1_handOver 32 = .ok (.aload 6, 2) := by decide +kernel
theorem dX1_handOver_34 : decode cX1_handOver 34 = .ok (.invokevirtual 93, 3) := by decide +kernel
theorem dX1_handOver_37 : decode cX1_handOver 37 = .ok (.ifCond .eq 42, 3) := by decide +kernel
theorem dX1_handOver_40 : decode cX1_handOver 40 = .ok (.aload 6, 2) := by decide +kernel
theorem dX1_handOver_42 : decode cX1_handOver 42 = .ok (.getfield 72, 3) := by decide +kernel
theorem dX1_handOver_45 : decode cX1_handOver 45 = .ok (.iload_n 1, 1) := by decide +kernel
theorem dX1_handOver_46 : decode cX1_handOver 46 = .ok (.if_icmp .ne 33, 3) := by decide +kernel
theorem dX1_handOver_49 : decode cX1_handOver 49 = .ok (.aload_n 0, 1) := by decide +kernel
theorem dX1_handOver_50 : decode cX1_handOver 50 = .ok (.aload 6, 2) := by decide +kernel
theorem dX1_handOver_52 : decode cX1_handOver 52 = .ok (.invokevirtual 121, 3) := by decide +kernel
theorem dX1_handOver_55 : decode cX1_handOver 55 = .ok (.aload 6, 2) := by decide +kernel
theorem dX1_handOver_57 : decode cX1_handOver 57 = .ok (.bipush (-2), 2) := by decide +kernel
theorem dX1_handOver_59 : decode cX1_handOver 59 = .ok (.putfield 79, 3) := by decide +kernel
theorem dX1_handOver_62 : decode cX1_handOver 62 = .ok (.iinc 2 1, 3) := by decide +kernel
theorem dX1_handOver_65 : decode cX1_handOver 65 = .ok (.aload_n 0, 1) := by decide +kernel
theorem dX1_handOver_66 : decode cX1_handOver 66 = .ok (.dup, 1) := by decide +kernel
theorem dX1_handOver_67 : decode cX1_handOver 67 = .ok (.getfield 40, 3) := by decide +kernel
theorem dX1_handOver_70 : decode cX1_handOver 70 = .ok (.aload 6, 2) := by decide +kernel
theorem dX1_handOver_72 : decode cX1_handOver 72 = .ok (.getfield 69, 3) := by decide +kernel
theorem dX1_handOver_75 : decode cX1_handOver 75 = .ok (.iadd, 1) := by decide +kernel
theorem dX1_handOver_76 : decode cX1_handOver 76 = .ok (.putfield 40, 3) := by decide +kernel
theorem dX1_handOver_79 : decode cX1_handOver 79 = .ok (.iinc 5 1, 3) := by decide +kernel
theorem dX1_handOver_82 : decode cX1_handOver 82 = .ok (.goto (-63), 3) := by decide +kernel
theorem dX1_handOver_85 : decode cX1_handOver 85 = .ok (.aload_n 0, 1) := by decide +kernel
theorem dX1_handOver_86 : decode cX1_handOver 86 = .ok (.dup, 1) := by decide +kernel
theorem dX1_handOver_87 : decode cX1_handOver 87 = .ok (.getfield 37, 3) := by decide +kernel
theorem dX1_handOver_90 : decode cX1_handOver 90 = .ok (.iload_n 2, 1) := by decide +kernel
theorem dX1_handOver_91 : decode cX1_handOver 91 = .ok (.iadd, 1) := by decide +kernel
theorem dX1_handOver_92 : decode cX1_handOver 92 = .ok (.putfield 37, 3) := by decide +kernel
theorem dX1_handOver_95 : decode cX1_handOver 95 = .ok (.iload_n 2, 1) := by decide +kernel
theorem dX1_handOver_96 : decode cX1_handOver 96 = .ok (.ireturn, 1) := by decide +kernel
theorem dX1_putInto_0 : decode cX1_putInto 0 = .ok (.aload_n 0, 1) := by decide +kernel
theorem dX1_putInto_1 : decode cX1_putInto 1 = .ok (.aload_n 1, 1) := by decide +kernel
theorem dX1_putInto_2 : decode cX1_putInto 2 = .ok (.iload_n 2, 1) := by decide +kernel
theorem dX1_putInto_3 : decode cX1_putInto 3 = .ok (.invokevirtual 136, 3) := by decide +kernel
theorem dX1_putInto_6 : decode cX1_putInto 6 = .ok (.istore_n 3, 1) := by decide +kernel
theorem dX1_putInto_7 : decode cX1_putInto 7 = .ok (.aload_n 1, 1) := by decide +kernel
theorem dX1_putInto_8 : decode cX1_putInto 8 = .ok (.aload_n 0, 1) := by decide +kernel
theorem dX1_putInto_9 : decode cX1_putInto 9 = .ok (.iload_n 2, 1) := by decide +kernel
theorem dX1_putInto_10 : decode cX1_putInto 10 = .ok (.iload_n 3, 1) := by decide +kernel
theorem dX1_putInto_11 : decode cX1_putInto 11 = .ok (.invokevirtual 139, 3) := by decide +kernel
theorem dX1_putInto_14 : decode cX1_putInto 14 = .ok (.putfield 143, 3) := by decide +kernel
theorem dX1_putInto_17 : decode cX1_putInto 17 = .ok (.aload_n 1, 1) := by decide +kernel
theorem dX1_putInto_18 : decode cX1_putInto 18 = .ok (.iload_n 3, 1) := by decide +kernel
theorem dX1_putInto_19 : decode cX1_putInto 19 = .ok (.putfield 114, 3) := by decide +kernel
theorem dX1_putInto_22 : decode cX1_putInto 22 = .ok (.aload_n 1, 1) := by decide +kernel
theorem dX1_putInto_23 : decode cX1_putInto 23 = .ok (.iload_n 2, 1) := by decide +kernel
theorem dX1_putInto_24 : decode cX1_putInto 24 = .ok (.putfield 79, 3) := by decide +kernel
theorem dX1_putInto_27 : decode cX1_putInto 27 = .ok (.return_, 1) := by decide +kernel
theorem dX1_takeOut_0 : decode cX1_takeOut 0 = .ok (.aload_n 1, 1) := by decide +kernel
theorem dX1_takeOut_1 : decode cX1_takeOut 1 = .ok (.getfield 79, 3) := by decide +kernel
theorem dX1_takeOut_4 : decode cX1_takeOut 4 = .ok (.istore_n 2, 1) := by decide +kernel
theorem dX1_takeOut_5 : decode cX1_takeOut 5 = .ok (.aload_n 1, 1) := by decide +kernel
theorem dX1_takeOut_6 : decode cX1_takeOut 6 = .ok (.iconst (-1), 1) := by decide +kernel
theorem dX1_takeOut_7 : decode cX1_takeOut 7 = .ok (.putfield 79, 3) := by decide +kernel
theorem dX1_takeOut_10 : decode cX1_takeOut 10 = .ok (.aload_n 0, 1) := by decide +kernel
theorem dX1_takeOut_11 : decode cX1_takeOut 11 = .ok (.iload_n 2, 1) := by decide +kernel
theorem dX1_takeOut_12 : decode cX1_takeOut 12 = .ok (.aload_n 1, 1) := by decide +kernel
theorem dX1_takeOut_13 : decode cX1_takeOut 13 = .ok (.getfield 114, 3) := by decide +kernel
theorem dX1_takeOut_16 : decode cX1_takeOut 16 = .ok (.invokevirtual 139, 3) := by decide +kernel
theorem dX1_takeOut_19 : decode cX1_takeOut 19 = .ok (.ifCond .ne 7, 3) := by decide +kernel
theorem dX1_takeOut_22 : decode cX1_takeOut 22 = .ok (.iconst 1, 1) := by decide +kernel
theorem dX1_takeOut_23 : decode cX1_takeOut 23 = .ok (.goto 4, 3) := by decide +kernel
theorem dX1_takeOut_26 : decode cX1_takeOut 26 = .ok (.iconst 0, 1) := by decide +kernel
theorem dX1_takeOut_27 : decode cX1_takeOut 27 = .ok (.istore_n 3, 1) := by decide +kernel
theorem dX1_takeOut_28 : decode cX1_takeOut 28 = .ok (.aload_n 0, 1) := by decide +kernel
theorem dX1_takeOut_29 : decode cX1_takeOut 29 = .ok (.getfield 11, 3) := by decide +kernel
theorem dX1_takeOut_32 : decode cX1_takeOut 32 = .ok (.astore 4, 2) := by decide +kernel
theorem dX1_takeOut_34 : decode cX1_takeOut 34 = .ok (.aload 4, 2) := by decide +kernel
theorem dX1_takeOut_36 : decode cX1_takeOut 36 = .ok (.arraylength, 1) := by decide +kernel
theorem dX1_takeOut_37 : decode cX1_takeOut 37 = .ok (.istore 5, 2) := by decide +kernel
theorem dX1_takeOut_39 : decode cX1_takeOut 39 = .ok (.iconst 0, 1) := by decide +kernel
theorem dX1_takeOut_40 : decode cX1_takeOut 40 = .ok (.istore 6, 2) := by decide +kernel
theorem dX1_takeOut_42 : decode cX1_takeOut 42 = .ok (.iload 6, 2) := by decide +kernel
theorem dX1_takeOut_44 : decode cX1_takeOut 44 = .ok (.iload 5, 2) := by decide +kernel
theorem dX1_takeOut_46 : decode cX1_takeOut 46 = .ok (.if_icmp .ge 96, 3) := by decide +kernel
theorem dX1_takeOut_49 : decode cX1_takeOut 49 = .ok (.aload 4, 2) := by decide +kernel
theorem dX1_takeOut_51 : decode cX1_takeOut 51 = .ok (.iload 6, 2) := by decide +kernel
theorem dX1_takeOut_53 : decode cX1_takeOut 53 = .ok (.aaload, 1) := by decide +kernel
theorem dX1_takeOut_54 : decode cX1_takeOut 54 = .ok (.astore 7, 2) := by decide +kernel
theorem dX1_takeOut_56 : decode cX1_takeOut 56 = .ok (.aload 7, 2) := by decide +kernel
theorem dX1_takeOut_58 : decode cX1_takeOut 58 = .ok (.getfield 79, 3) := by decide +kernel
theorem dX1_takeOut_61 : decode cX1_takeOut 61 = .ok (.iload_n 2, 1) := by decide +kernel
theorem dX1_takeOut_62 : decode cX1_takeOut 62 = .ok (.if_icmp .ne 38, 3) := by decide +kernel
theorem dX1_takeOut_65 : decode cX1_takeOut 65 = .ok (.aload 7, 2) := by decide +kernel
theorem dX1_takeOut_67 : decode cX1_takeOut 67 = .ok (.getfield 114, 3) := by decide +kernel
theorem dX1_takeOut_70 : decode cX1_takeOut 70 = .ok (.aload_n 1, 1) := by decide +kernel
theorem dX1_takeOut_71 : decode cX1_takeOut 71 = .ok (.getfield 114, 3) := by decide +kernel
theorem dX1_takeOut_74 : decode cX1_takeOut 74 = .ok (.if_icmp .ne 26, 3) := by decide +kernel
theorem dX1_takeOut_77 : decode cX1_takeOut 77 = .ok (.aload 7, 2) := by decide +kernel
theorem dX1_takeOut_79 : decode cX1_takeOut 79 = .ok (.getfield 143, 3) := by decide +kernel
theorem dX1_takeOut_82 : decode cX1_takeOut 82 = .ok (.aload_n 1, 1) := by decide +kernel
theorem dX1_takeOut_83 : decode cX1_takeOut 83 = .ok (.getfield 143, 3) := by decide +kernel
theorem dX1_takeOut_86 : decode cX1_takeOut 86 = .ok (.if_icmp .le 14, 3) := by decide +kernel
theorem dX1_takeOut_89 : decode cX1_takeOut 89 = .ok (.aload 7, 2) := by decide +kernel
theorem dX1_takeOut_91 : decode cX1_takeOut 91 = .ok (.dup, 1) := by decide +kernel
theorem dX1_takeOut_92 : decode cX1_takeOut 92 = .ok (.getfield 143, 3) := by decide +kernel
theorem dX1_takeOut_95 : decode cX1_takeOut 95 = .ok (.iconst 1, 1) := by decide +kernel
theorem dX1_takeOut_96 : decode cX1_takeOut 96 = .ok (.isub, 1) := by decide +kernel
theorem dX1_takeOut_97 : decode cX1_takeOut 97 = .ok (.putfield 143, 3) := by decide +kernel
theorem dX1_takeOut_100 : decode cX1_takeOut 100 = .ok (.aload 7, 2) := by decide +kernel
theorem dX1_takeOut_102 : decode cX1_takeOut 102 = .ok (.getfield 79, 3) := by decide +kernel
theorem dX1_takeOut_105 : decode cX1_takeOut 105 = .ok (.iload_n 2, 1) := by decide +kernel
theorem dX1_takeOut_106 : decode cX1_takeOut 106 = .ok (.if_icmp .ne 30, 3) := by decide +kernel
theorem dX1_takeOut_109 : decode cX1_takeOut 109 = .ok (.aload 7, 2) := by decide +kernel
theorem dX1_takeOut_111 : decode cX1_takeOut 111 = .ok (.getfield 114, 3) := by decide +kernel
theorem dX1_takeOut_114 : decode cX1_takeOut 114 = .ok (.aload_n 1, 1) := by decide +kernel
theorem dX1_takeOut_115 : decode cX1_takeOut 115 = .ok (.getfield 114, 3) := by decide +kernel
theorem dX1_takeOut_118 : decode cX1_takeOut 118 = .ok (.if_icmp .le 18, 3) := by decide +kernel
theorem dX1_takeOut_121 : decode cX1_takeOut 121 = .ok (.iload_n 3, 1) := by decide +kernel
theorem dX1_takeOut_122 : decode cX1_takeOut 122 = .ok (.ifCond .eq 14, 3) := by decide +kernel
theorem dX1_takeOut_125 : decode cX1_takeOut 125 = .ok (.aload 7, 2) := by decide +kernel
theorem dX1_takeOut_127 : decode cX1_takeOut 127 = .ok (.dup, 1) := by decide +kernel
theorem dX1_takeOut_128 : decode cX1_takeOut 128 = .ok (.getfield 114, 3) := by decide +kernel
theorem dX1_takeOut_131 : decode cX1_takeOut 131 = .ok (.iconst 1, 1) := by decide +kernel
theorem dX1_takeOut_132 : decode cX1_takeOut 132 = .ok (.isub, 1) := by decide +kernel
theorem dX1_takeOut_133 : decode cX1_takeOut 133 = .ok (.putfield 114, 3) := by decide +kernel
theorem dX1_takeOut_136 : decode cX1_takeOut 136 = .ok (.iinc 6 1, 3) := by decide +kernel
theorem dX1_takeOut_139 : decode cX1_takeOut 139 = .ok (.goto (-97), 3) := by decide +kernel
theorem dX1_takeOut_142 : decode cX1_takeOut 142 = .ok (.return_, 1) := by decide +kernel
theorem dX1_refusal_0 : decode cX1_refusal 0 = .ok (.aload_n 0, 1) := by decide +kernel
theorem dX1_refusal_1 : decode cX1_refusal 1 = .ok (.aload_n 1, 1) := by decide +kernel
theorem dX1_refusal_2 : decode cX1_refusal 2 = .ok (.iload_n 2, 1) := by decide +kernel
theorem dX1_refusal_3 : decode cX1_refusal 3 = .ok (.invokevirtual 136, 3) := by decide +kernel
theorem dX1_refusal_6 : decode cX1_refusal 6 = .ok (.istore_n 3, 1) := by decide +kernel
theorem dX1_refusal_7 : decode cX1_refusal 7 = .ok (.aload_n 1, 1) := by decide +kernel
theorem dX1_refusal_8 : decode cX1_refusal 8 = .ok (.getfield 69, 3) := by decide +kernel
theorem dX1_refusal_11 : decode cX1_refusal 11 = .ok (.aload_n 0, 1) := by decide +kernel
theorem dX1_refusal_12 : decode cX1_refusal 12 = .ok (.iload_n 2, 1) := by decide +kernel
theorem dX1_refusal_13 : decode cX1_refusal 13 = .ok (.invokevirtual 146, 3) := by decide +kernel
theorem dX1_refusal_16 : decode cX1_refusal 16 = .ok (.if_icmp .le 5, 3) := by decide +kernel
theorem dX1_refusal_19 : decode cX1_refusal 19 = .ok (.iconst 1, 1) := by decide +kernel
theorem dX1_refusal_20 : decode cX1_refusal 20 = .ok (.ireturn, 1) := by decide +kernel
theorem dX1_refusal_21 : decode cX1_refusal 21 = .ok (.iload_n 3, 1) := by decide +kernel
theorem dX1_refusal_22 : decode cX1_refusal 22 = .ok (.iconst 5, 1) := by decide +kernel
theorem dX1_refusal_23 : decode cX1_refusal 23 = .ok (.if_icmp .lt 5, 3) := by decide +kernel
theorem dX1_refusal_26 : decode cX1_refusal 26 = .ok (.iconst 2, 1) := by decide +kernel
theorem dX1_refusal_27 : decode cX1_refusal 27 = .ok (.ireturn, 1) := by decide +kernel
theorem dX1_refusal_28 : decode cX1_refusal 28 = .ok (.aload_n 0, 1) := by decide +kernel
theorem dX1_refusal_29 : decode cX1_refusal 29 = .ok (.aload_n 1, 1) := by decide +kernel
theorem dX1_refusal_30 : decode cX1_refusal 30 = .ok (.iload_n 2, 1) := by decide +kernel
theorem dX1_refusal_31 : decode cX1_refusal 31 = .ok (.iload_n 3, 1) := by decide +kernel
theorem dX1_refusal_32 : decode cX1_refusal 32 = .ok (.invokevirtual 149, 3) := by decide +kernel
theorem dX1_refusal_35 : decode cX1_refusal 35 = .ok (.ifCond .eq 5, 3) := by decide +kernel
theorem dX1_refusal_38 : decode cX1_refusal 38 = .ok (.iconst 3, 1) := by decide +kernel
theorem dX1_refusal_39 : decode cX1_refusal 39 = .ok (.ireturn, 1) := by decide +kernel
theorem dX1_refusal_40 : decode cX1_refusal 40 = .ok (.aload_n 0, 1) := by decide +kernel
theorem dX1_refusal_41 : decode cX1_refusal 41 = .ok (.aload_n 1, 1) := by decide +kernel
theorem dX1_refusal_42 : decode cX1_refusal 42 = .ok (.iload_n 2, 1) := by decide +kernel
theorem dX1_refusal_43 : decode cX1_refusal 43 = .ok (.iload_n 3, 1) := by decide +kernel
theorem dX1_refusal_44 : decode cX1_refusal 44 = .ok (.invokevirtual 153, 3) := by decide +kernel
theorem dX1_refusal_47 : decode cX1_refusal 47 = .ok (.ifCond .eq 7, 3) := by decide +kernel
theorem dX1_refusal_50 : decode cX1_refusal 50 = .ok (.iconst 4, 1) := by decide +kernel
theorem dX1_refusal_51 : decode cX1_refusal 51 = .ok (.goto 4, 3) := by decide +kernel
theorem dX1_refusal_54 : decode cX1_refusal 54 = .ok (.iconst 0, 1) := by decide +kernel
theorem dX1_refusal_55 : decode cX1_refusal 55 = .ok (.ireturn, 1) := by decide +kernel
theorem dX1_targetLayer_0 : decode cX1_targetLayer 0 = .ok (.aload_n 0, 1) := by decide +kernel
theorem dX1_targetLayer_1 : decode cX1_targetLayer 1 = .ok (.iload_n 2, 1) := by decide +kernel
theorem dX1_targetLayer_2 : decode cX1_targetLayer 2 = .ok (.invokevirtual 117, 3) := by decide +kernel
theorem dX1_targetLayer_5 : decode cX1_targetLayer 5 = .ok (.istore_n 3, 1) := by decide +kernel
theorem dX1_targetLayer_6 : decode cX1_targetLayer 6 = .ok (.iload_n 3, 1) := by decide +kernel
theorem dX1_targetLayer_7 : decode cX1_targetLayer 7 = .ok (.ifCond .le 25, 3) := by decide +kernel
theorem dX1_targetLayer_10 : decode cX1_targetLayer 10 = .ok (.aload_n 0, 1) := by decide +kernel
theorem dX1_targetLayer_11 : decode cX1_targetLayer 11 = .ok (.iload_n 2, 1) := by decide +kernel
theorem dX1_targetLayer_12 : decode cX1_targetLayer 12 = .ok (.iload_n 3, 1) := by decide +kernel
theorem dX1_targetLayer_13 : decode cX1_targetLayer 13 = .ok (.iconst 1, 1) := by decide +kernel
theorem dX1_targetLayer_14 : decode cX1_targetLayer 14 = .ok (.isub, 1) := by decide +kernel
theorem dX1_targetLayer_15 : decode cX1_targetLayer 15 = .ok (.invokevirtual 156, 3) := by decide +kernel
theorem dX1_targetLayer_18 : decode cX1_targetLayer 18 = .ok (.aload_n 1, 1) := by decide +kernel
theorem dX1_targetLayer_19 : decode cX1_targetLayer 19 = .ok (.getfield 66, 3) := by decide +kernel
theorem dX1_targetLayer_22 : decode cX1_targetLayer 22 = .ok (.iadd, 1) := by decide +kernel
theorem dX1_targetLayer_23 : decode cX1_targetLayer 23 = .ok (.bipush 10, 2) := by decide +kernel
theorem dX1_targetLayer_25 : decode cX1_targetLayer 25 = .ok (.if_icmp .gt 7, 3) := by decide +kernel
theorem dX1_targetLayer_28 : decode cX1_targetLayer 28 = .ok (.iconst 1, 1) := by decide +kernel
theorem dX1_targetLayer_29 : decode cX1_targetLayer 29 = .ok (.goto 4, 3) := by decide +kernel
theorem dX1_targetLayer_32 : decode cX1_targetLayer 32 = .ok (.iconst 0, 1) := by decide +kernel
theorem dX1_targetLayer_33 : decode cX1_targetLayer 33 = .ok (.istore 4, 2) := by decide +kernel
theorem dX1_targetLayer_35 : decode cX1_targetLayer 35 = .ok (.iload 4, 2) := by decide +kernel
theorem dX1_targetLayer_37 : decode cX1_targetLayer 37 = .ok (.ifCond .eq 9, 3) := by decide +kernel
theorem dX1_targetLayer_40 : decode cX1_targetLayer 40 = .ok (.iload_n 3, 1) := by decide +kernel
theorem dX1_targetLayer_41 : decode cX1_targetLayer 41 = .ok (.iconst 1, 1) := by decide +kernel
theorem dX1_targetLayer_42 : decode cX1_targetLayer 42 = .ok (.isub, 1) := by decide +kernel
theorem dX1_targetLayer_43 : decode cX1_targetLayer 43 = .ok (.goto 4, 3) := by decide +kernel
theorem dX1_targetLayer_46 : decode cX1_targetLayer 46 = .ok (.iload_n 3, 1) := by decide +kernel
theorem dX1_targetLayer_47 : decode cX1_targetLayer 47 = .ok (.ireturn, 1) := by decide +kernel
theorem dX1_hasEarlierStopBelow_0 : decode cX1_hasEarlierStopBelow 0 = .ok (.aload_n 0, 1) := by decide +kernel
theorem dX1_hasEarlierStopBelow_1 : decode cX1_hasEarlierStopBelow 1 = .ok (.getfield 11, 3) := by decide +kernel
theorem dX1_hasEarlierStopBelow_4 : decode cX1_hasEarlierStopBelow 4 = .ok (.astore 4, 2) := by decide +kernel
theorem dX1_hasEarlierStopBelow_6 : decode cX1_hasEarlierStopBelow 6 = .ok (.aload 4, 2) := by decide +kernel
theorem dX1_hasEarlierStopBelow_8 : decode cX1_hasEarlierStopBelow 8 = .ok (.arraylength, 1) := by decide +kernel
theorem dX1_hasEarlierStopBelow_9 : decode cX1_hasEarlierStopBelow 9 = .ok (.istore 5, 2) := by decide +kernel
theorem dX1_hasEarlierStopBelow_11 : decode cX1_hasEarlierStopBelow 11 = .ok (.iconst 0, 1) := by decide +kernel
theorem dX1_hasEarlierStopBelow_12 : decode cX1_hasEarlierStopBelow 12 = .ok (.istore 6, 2) := by decide +kernel
theorem dX1_hasEarlierStopBelow_14 : decode cX1_hasEarlierStopBelow 14 = .ok (.iload 6, 2) := by decide +kernel
theorem dX1_hasEarlierStopBelow_16 : decode cX1_hasEarlierStopBelow 16 = .ok (.iload 5, 2) := by decide +kernel
theorem dX1_hasEarlierStopBelow_18 : decode cX1_hasEarlierStopBelow 18 = .ok (.if_icmp .ge 48, 3) := by decide +kernel
theorem dX1_hasEarlierStopBelow_21 : decode cX1_hasEarlierStopBelow 21 = .ok (.aload 4, 2) := by decide +kernel
theorem dX1_hasEarlierStopBelow_23 : decode cX1_hasEarlierStopBelow 23 = .ok (.iload 6, 2) := by decide +kernel
theorem dX1_hasEarlierStopBelow_25 : decode cX1_hasEarlierStopBelow 25 = .ok (.aaload, 1) := by decide +kernel
theorem dX1_hasEarlierStopBelow_26 : decode cX1_hasEarlierStopBelow 26 = .ok (.astore 7, 2) := by decide +kernel
theorem dX1_hasEarlierStopBelow_28 : decode cX1_hasEarlierStopBelow 28 = .ok (.aload 7, 2) := by decide +kernel
theorem dX1_hasEarlierStopBelow_30 : decode cX1_hasEarlierStopBelow 30 = .ok (.getfield 79, 3) := by decide +kernel
theorem dX1_hasEarlierStopBelow_33 : decode cX1_hasEarlierStopBelow 33 = .ok (.iload_n 2, 1) := by decide +kernel
theorem dX1_hasEarlierStopBelow_34 : decode cX1_hasEarlierStopBelow 34 = .ok (.if_icmp .ne 26, 3) := by decide +kernel
theorem dX1_hasEarlierStopBelow_37 : decode cX1_hasEarlierStopBelow 37 = .ok (.aload 7, 2) := by decide +kernel
theorem dX1_hasEarlierStopBelow_39 : decode cX1_hasEarlierStopBelow 39 = .ok (.getfield 114, 3) := by decide +kernel
theorem dX1_hasEarlierStopBelow_42 : decode cX1_hasEarlierStopBelow 42 = .ok (.iload_n 3, 1) := by decide +kernel
theorem dX1_hasEarlierStopBelow_43 : decode cX1_hasEarlierStopBelow 43 = .ok (.if_icmp .ge 17, 3) := by decide +kernel
theorem dX1_hasEarlierStopBelow_46 : decode cX1_hasEarlierStopBelow 46 = .ok (.aload 7, 2) := by decide +kernel
theorem dX1_hasEarlierStopBelow_48 : decode cX1_hasEarlierStopBelow 48 = .ok (.getfield 72, 3) := by decide +kernel
theorem dX1_hasEarlierStopBelow_51 : decode cX1_hasEarlierStopBelow 51 = .ok (.aload_n 1, 1) := by decide +kernel
theorem dX1_hasEarlierStopBelow_52 : decode cX1_hasEarlierStopBelow 52 = .ok (.getfield 72, 3) := by decide +kernel
theorem dX1_hasEarlierStopBelow_55 : decode cX1_hasEarlierStopBelow 55 = .ok (.if_icmp .ge 5, 3) := by decide +kernel
theorem dX1_hasEarlierStopBelow_58 : decode cX1_hasEarlierStopBelow 58 = .ok (.iconst 1, 1) := by decide +kernel
theorem dX1_hasEarlierStopBelow_59 : decode cX1_hasEarlierStopBelow 59 = .ok (.ireturn, 1) := by decide +kernel
theorem dX1_hasEarlierStopBelow_60 : decode cX1_hasEarlierStopBelow 60 = .ok (.iinc 6 1, 3) := by decide +kernel
theorem dX1_hasEarlierStopBelow_63 : decode cX1_hasEarlierStopBelow 63 = .ok (.goto (-49), 3) := by decide +kernel
theorem dX1_hasEarlierStopBelow_66 : decode cX1_hasEarlierStopBelow 66 = .ok (.iconst 0, 1) := by decide +kernel
theorem dX1_hasEarlierStopBelow_67 : decode cX1_hasEarlierStopBelow 67 = .ok (.ireturn, 1) := by decide +kernel
theorem dX1_crushesBelow_0 : decode cX1_crushesBelow 0 = .ok (.aload_n 0, 1) := by decide +kernel
theorem dX1_crushesBelow_1 : decode cX1_crushesBelow 1 = .ok (.getfield 11, 3) := by decide +kernel
theorem dX1_crushesBelow_4 : decode cX1_crushesBelow 4 = .ok (.astore 4, 2) := by decide +kernel
theorem dX1_crushesBelow_6 : decode cX1_crushesBelow 6 = .ok (.aload 4, 2) := by decide +kernel
theorem dX1_crushesBelow_8 : decode cX1_crushesBelow 8 = .ok (.arraylength, 1) := by decide +kernel
theorem dX1_crushesBelow_9 : decode cX1_crushesBelow 9 = .ok (.istore 5, 2) := by decide +kernel
theorem dX1_crushesBelow_11 : decode cX1_crushesBelow 11 = .ok (.iconst 0, 1) := by decide +kernel
theorem dX1_crushesBelow_12 : decode cX1_crushesBelow 12 = .ok (.istore 6, 2) := by decide +kernel
theorem dX1_crushesBelow_14 : decode cX1_crushesBelow 14 = .ok (.iload 6, 2) := by decide +kernel
theorem dX1_crushesBelow_16 : decode cX1_crushesBelow 16 = .ok (.iload 5, 2) := by decide +kernel
theorem dX1_crushesBelow_18 : decode cX1_crushesBelow 18 = .ok (.if_icmp .ge 64, 3) := by decide +kernel
theorem dX1_crushesBelow_21 : decode cX1_crushesBelow 21 = .ok (.aload 4, 2) := by decide +kernel
theorem dX1_crushesBelow_23 : decode cX1_crushesBelow 23 = .ok (.iload 6, 2) := by decide +kernel
theorem dX1_crushesBelow_25 : decode cX1_crushesBelow 25 = .ok (.aaload, 1) := by decide +kernel
theorem dX1_crushesBelow_26 : decode cX1_crushesBelow 26 = .ok (.astore 7, 2) := by decide +kernel
theorem dX1_crushesBelow_28 : decode cX1_crushesBelow 28 = .ok (.aload 7, 2) := by decide +kernel
theorem dX1_crushesBelow_30 : decode cX1_crushesBelow 30 = .ok (.getfield 79, 3) := by decide +kernel
theorem dX1_crushesBelow_33 : decode cX1_crushesBelow 33 = .ok (.iload_n 2, 1) := by decide +kernel
theorem dX1_crushesBelow_34 : decode cX1_crushesBelow 34 = .ok (.if_icmp .ne 42, 3) := by decide +kernel
theorem dX1_crushesBelow_37 : decode cX1_crushesBelow 37 = .ok (.aload 7, 2) := by decide +kernel
theorem dX1_crushesBelow_39 : decode cX1_crushesBelow 39 = .ok (.getfield 114, 3) := by decide +kernel
theorem dX1_crushesBelow_42 : decode cX1_crushesBelow 42 = .ok (.iload_n 3, 1) := by decide +kernel
theorem dX1_crushesBelow_43 : decode cX1_crushesBelow 43 = .ok (.if_icmp .ge 33, 3) := by decide +kernel
theorem dX1_crushesBelow_46 : decode cX1_crushesBelow 46 = .ok (.aload 7, 2) := by decide +kernel
theorem dX1_crushesBelow_48 : decode cX1_crushesBelow 48 = .ok (.getfield 75, 3) := by decide +kernel
theorem dX1_crushesBelow_51 : decode cX1_crushesBelow 51 = .ok (.ifCond .eq 25, 3) := by decide +kernel
theorem dX1_crushesBelow_54 : decode cX1_crushesBelow 54 = .ok (.aload_n 0, 1) := by decide +kernel
theorem dX1_crushesBelow_55 : decode cX1_crushesBelow 55 = .ok (.iload_n 2, 1) := by decide +kernel
theorem dX1_crushesBelow_56 : decode cX1_crushesBelow 56 = .ok (.aload 7, 2) := by decide +kernel
theorem dX1_crushesBelow_58 : decode cX1_crushesBelow 58 = .ok (.getfield 114, 3) := by decide +kernel
theorem dX1_crushesBelow_61 : decode cX1_crushesBelow 61 = .ok (.invokevirtual 159, 3) := by decide +kernel
theorem dX1_crushesBelow_64 : decode cX1_crushesBelow 64 = .ok (.aload_n 1, 1) := by decide +kernel
theorem dX1_crushesBelow_65 : decode cX1_crushesBelow 65 = .ok (.getfield 69, 3) := by decide +kernel
theorem dX1_crushesBelow_68 : decode cX1_crushesBelow 68 = .ok (.iadd, 1) := by decide +kernel
theorem dX1_crushesBelow_69 : decode cX1_crushesBelow 69 = .ok (.bipush 8, 2) := by decide +kernel
theorem dX1_crushesBelow_71 : decode cX1_crushesBelow 71 = .ok (.if_icmp .le 5, 3) := by decide +kernel
theorem dX1_crushesBelow_74 : decode cX1_crushesBelow 74 = .ok (.iconst 1, 1) := by decide +kernel
theorem dX1_crushesBelow_75 : decode cX1_crushesBelow 75 = .ok (.ireturn, 1) := by decide +kernel
theorem dX1_crushesBelow_76 : decode cX1_crushesBelow 76 = .ok (.iinc 6 1, 3) := by decide +kernel
theorem dX1_crushesBelow_79 : decode cX1_crushesBelow 79 = .ok (.goto (-65), 3) := by decide +kernel
theorem dX1_crushesBelow_82 : decode cX1_crushesBelow 82 = .ok (.iconst 0, 1) := by decide +kernel
theorem dX1_crushesBelow_83 : decode cX1_crushesBelow 83 = .ok (.ireturn, 1) := by decide +kernel
theorem dX1_find_0 : decode cX1_find 0 = .ok (.aload_n 0, 1) := by decide +kernel
theorem dX1_find_1 : decode cX1_find 1 = .ok (.getfield 11, 3) := by decide +kernel
theorem dX1_find_4 : decode cX1_find 4 = .ok (.astore_n 2, 1) := by decide +kernel
theorem dX1_find_5 : decode cX1_find 5 = .ok (.aload_n 2, 1) := by decide +kernel
theorem dX1_find_6 : decode cX1_find 6 = .ok (.arraylength, 1) := by decide +kernel
theorem dX1_find_7 : decode cX1_find 7 = .ok (.istore_n 3, 1) := by decide +kernel
theorem dX1_find_8 : decode cX1_find 8 = .ok (.iconst 0, 1) := by decide +kernel
theorem dX1_find_9 : decode cX1_find 9 = .ok (.istore 4, 2) := by decide +kernel
theorem dX1_find_11 : decode cX1_find 11 = .ok (.iload 4, 2) := by decide +kernel
theorem dX1_find_13 : decode cX1_find 13 = .ok (.iload_n 3, 1) := by decide +kernel
theorem dX1_find_14 : decode cX1_find 14 = .ok (.if_icmp .ge 35, 3) := by decide +kernel
theorem dX1_find_17 : decode cX1_find 17 = .ok (.aload_n 2, 1) := by decide +kernel
theorem dX1_find_18 : decode cX1_find 18 = .ok (.iload 4, 2) := by decide +kernel
theorem dX1_find_20 : decode cX1_find 20 = .ok (.aaload, 1) := by decide +kernel
theorem dX1_find_21 : decode cX1_find 21 = .ok (.astore 5, 2) := by decide +kernel
theorem dX1_find_23 : decode cX1_find 23 = .ok (.aload 5, 2) := by decide +kernel
theorem dX1_find_25 : decode cX1_find 25 = .ok (.invokevirtual 86, 3) := by decide +kernel
theorem dX1_find_28 : decode cX1_find 28 = .ok (.ifCond .eq 15, 3) := by decide +kernel
theorem dX1_find_31 : decode cX1_find 31 = .ok (.aload 5, 2) := by decide +kernel
theorem dX1_find_33 : decode cX1_find 33 = .ok (.getfield 63, 3) := by decide +kernel
theorem dX1_find_36 : decode cX1_find 36 = .ok (.iload_n 1, 1) := by decide +kernel
theorem dX1_find_37 : decode cX1_find 37 = .ok (.if_icmp .ne 6, 3) := by decide +kernel
theorem dX1_find_40 : decode cX1_find 40 = .ok (.aload 5, 2) := by decide +kernel
theorem dX1_find_42 : decode cX1_find 42 = .ok (.areturn, 1) := by decide +kernel
theorem dX1_find_43 : decode cX1_find 43 = .ok (.iinc 4 1, 3) := by decide +kernel
theorem dX1_find_46 : decode cX1_find 46 = .ok (.goto (-35), 3) := by decide +kernel
theorem dX1_find_49 : decode cX1_find 49 = .ok (.aload_n 0, 1) := by decide +kernel
theorem dX1_find_50 : decode cX1_find 50 = .ok (.getfield 18, 3) := by decide +kernel
theorem dX1_find_53 : decode cX1_find 53 = .ok (.areturn, 1) := by decide +kernel
theorem dX1_findRank_0 : decode cX1_findRank 0 = .ok (.aload_n 0, 1) := by decide +kernel
theorem dX1_findRank_1 : decode cX1_findRank 1 = .ok (.getfield 11, 3) := by decide +kernel
theorem dX1_findRank_4 : decode cX1_findRank 4 = .ok (.astore_n 2, 1) := by decide +kernel
theorem dX1_findRank_5 : decode cX1_findRank 5 = .ok (.aload_n 2, 1) := by decide +kernel
theorem dX1_findRank_6 : decode cX1_findRank 6 = .ok (.arraylength, 1) := by decide +kernel
theorem dX1_findRank_7 : decode cX1_findRank 7 = .ok (.istore_n 3, 1) := by decide +kernel
theorem dX1_findRank_8 : decode cX1_findRank 8 = .ok (.iconst 0, 1) := by decide +kernel
theorem dX1_findRank_9 : decode cX1_findRank 9 = .ok (.istore 4, 2) := by decide +kernel
theorem dX1_findRank_11 : decode cX1_findRank 11 = .ok (.iload 4, 2) := by decide +kernel
theorem dX1_findRank_13 : decode cX1_findRank 13 = .ok (.iload_n 3, 1) := by decide +kernel
theorem dX1_findRank_14 : decode cX1_findRank 14 = .ok (.if_icmp .ge 36, 3) := by decide +kernel
theorem dX1_findRank_17 : decode cX1_findRank 17 = .ok (.aload_n 2, 1) := by decide +kernel
theorem dX1_findRank_18 : decode cX1_findRank 18 = .ok (.iload 4, 2) := by decide +kernel
theorem dX1_findRank_20 : decode cX1_findRank 20 = .ok (.aaload, 1) := by decide +kernel
theorem dX1_findRank_21 : decode cX1_findRank 21 = .ok (.astore 5, 2) := by decide +kernel
theorem dX1_findRank_23 : decode cX1_findRank 23 = .ok (.aload 5, 2) := by decide +kernel
theorem dX1_findRank_25 : decode cX1_findRank 25 = .ok (.invokevirtual 86, 3) := by decide +kernel
theorem dX1_findRank_28 : decode cX1_findRank 28 = .ok (.ifCond .eq 16, 3) := by decide +kernel
theorem dX1_findRank_31 : decode cX1_findRank 31 = .ok (.aload_n 0, 1) := by decide +kernel
theorem dX1_findRank_32 : decode cX1_findRank 32 = .ok (.aload 5, 2) := by decide +kernel
theorem dX1_findRank_34 : decode cX1_findRank 34 = .ok (.invokevirtual 162, 3) := by decide +kernel
theorem dX1_findRank_37 : decode cX1_findRank 37 = .ok (.iload_n 1, 1) := by decide +kernel
theorem dX1_findRank_38 : decode cX1_findRank 38 = .ok (.if_icmp .ne 6, 3) := by decide +kernel
theorem dX1_findRank_41 : decode cX1_findRank 41 = .ok (.aload 5, 2) := by decide +kernel
theorem dX1_findRank_43 : decode cX1_findRank 43 = .ok (.areturn, 1) := by decide +kernel
theorem dX1_findRank_44 : decode cX1_findRank 44 = .ok (.iinc 4 1, 3) := by decide +kernel
theorem dX1_findRank_47 : decode cX1_findRank 47 = .ok (.goto (-36), 3) := by decide +kernel
theorem dX1_findRank_50 : decode cX1_findRank 50 = .ok (.aload_n 0, 1) := by decide +kernel
theorem dX1_findRank_51 : decode cX1_findRank 51 = .ok (.getfield 18, 3) := by decide +kernel
theorem dX1_findRank_54 : decode cX1_findRank 54 = .ok (.areturn, 1) := by decide +kernel
theorem dX1_findPlace_0 : decode cX1_findPlace 0 = .ok (.aload_n 0, 1) := by decide +kernel
theorem dX1_findPlace_1 : decode cX1_findPlace 1 = .ok (.getfield 11, 3) := by decide +kernel
theorem dX1_findPlace_4 : decode cX1_findPlace 4 = .ok (.astore 4, 2) := by decide +kernel
theorem dX1_findPlace_6 : decode cX1_findPlace 6 = .ok (.aload 4, 2) := by decide +kernel
theorem dX1_findPlace_8 : decode cX1_findPlace 8 = .ok (.arraylength, 1) := by decide +kernel
theorem dX1_findPlace_9 : decode cX1_findPlace 9 = .ok (.istore 5, 2) := by decide +kernel
theorem dX1_findPlace_11 : decode cX1_findPlace 11 = .ok (.iconst 0, 1) := by decide +kernel
theorem dX1_findPlace_12 : decode cX1_findPlace 12 = .ok (.istore 6, 2) := by decide +kernel
theorem dX1_findPlace_14 : decode cX1_findPlace 14 = .ok (.iload 6, 2) := by decide +kernel
theorem dX1_findPlace_16 : decode cX1_findPlace 16 = .ok (.iload 5, 2) := by decide +kernel
theorem dX1_findPlace_18 : decode cX1_findPlace 18 = .ok (.if_icmp .ge 46, 3) := by decide +kernel
theorem dX1_findPlace_21 : decode cX1_findPlace 21 = .ok (.aload 4, 2) := by decide +kernel
theorem dX1_findPlace_23 : decode cX1_findPlace 23 = .ok (.iload 6, 2) := by decide +kernel
theorem dX1_findPlace_25 : decode cX1_findPlace 25 = .ok (.aaload, 1) := by decide +kernel
theorem dX1_findPlace_26 : decode cX1_findPlace 26 = .ok (.astore 7, 2) := by decide +kernel
theorem dX1_findPlace_28 : decode cX1_findPlace 28 = .ok (.aload 7, 2) := by decide +kernel
theorem dX1_findPlace_30 : decode cX1_findPlace 30 = .ok (.getfield 79, 3) := by decide +kernel
theorem dX1_findPlace_33 : decode cX1_findPlace 33 = .ok (.iload_n 1, 1) := by decide +kernel
theorem dX1_findPlace_34 : decode cX1_findPlace 34 = .ok (.if_icmp .ne 24, 3) := by decide +kernel
theorem dX1_findPlace_37 : decode cX1_findPlace 37 = .ok (.aload 7, 2) := by decide +kernel
theorem dX1_findPlace_39 : decode cX1_findPlace 39 = .ok (.getfield 114, 3) := by decide +kernel
theorem dX1_findPlace_42 : decode cX1_findPlace 42 = .ok (.iload_n 2, 1) := by decide +kernel
theorem dX1_findPlace_43 : decode cX1_findPlace 43 = .ok (.if_icmp .ne 15, 3) := by decide +kernel
theorem dX1_findPlace_46 : decode cX1_findPlace 46 = .ok (.aload 7, 2) := by decide +kernel
theorem dX1_findPlace_48 : decode cX1_findPlace 48 = .ok (.getfield 143, 3) := by decide +kernel
theorem dX1_findPlace_51 : decode cX1_findPlace 51 = .ok (.iload_n 3, 1) := by decide +kernel
theorem dX1_findPlace_52 : decode cX1_findPlace 52 = .ok (.if_icmp .ne 6, 3) := by decide +kernel
theorem dX1_findPlace_55 : decode cX1_findPlace 55 = .ok (.aload 7, 2) := by decide +kernel
theorem dX1_findPlace_57 : decode cX1_findPlace 57 = .ok (.areturn, 1) := by decide +kernel
theorem dX1_findPlace_58 : decode cX1_findPlace 58 = .ok (.iinc 6 1, 3) := by decide +kernel
theorem dX1_findPlace_61 : decode cX1_findPlace 61 = .ok (.goto (-47), 3) := by decide +kernel
theorem dX1_findPlace_64 : decode cX1_findPlace 64 = .ok (.aload_n 0, 1) := by decide +kernel
theorem dX1_findPlace_65 : decode cX1_findPlace 65 = .ok (.getfield 18, 3) := by decide +kernel
theorem dX1_findPlace_68 : decode cX1_findPlace 68 = .ok (.areturn, 1) := by decide +kernel
theorem dX1_findFree_0 : decode cX1_findFree 0 = .ok (.aload_n 0, 1) := by decide +kernel
theorem dX1_findFree_1 : decode cX1_findFree 1 = .ok (.getfield 11, 3) := by decide +kernel
theorem dX1_findFree_4 : decode cX1_findFree 4 = .ok (.astore_n 1, 1) := by decide +kernel
theorem dX1_findFree_5 : decode cX1_findFree 5 = .ok (.aload_n 1, 1) := by decide +kernel
theorem dX1_findFree_6 : decode cX1_findFree 6 = .ok (.arraylength, 1) := by decide +kernel
theorem dX1_findFree_7 : decode cX1_findFree 7 = .ok (.istore_n 2, 1) := by decide +kernel
theorem dX1_findFree_8 : decode cX1_findFree 8 = .ok (.iconst 0, 1) := by decide +kernel
theorem dX1_findFree_9 : decode cX1_findFree 9 = .ok (.istore_n 3, 1) := by decide +kernel
theorem dX1_findFree_10 : decode cX1_findFree 10 = .ok (.iload_n 3, 1) := by decide +kernel
theorem dX1_findFree_11 : decode cX1_findFree 11 = .ok (.iload_n 2, 1) := by decide +kernel
theorem dX1_findFree_12 : decode cX1_findFree 12 = .ok (.if_icmp .ge 25, 3) := by decide +kernel
theorem dX1_findFree_15 : decode cX1_findFree 15 = .ok (.aload_n 1, 1) := by decide +kernel
theorem dX1_findFree_16 : decode cX1_findFree 16 = .ok (.iload_n 3, 1) := by decide +kernel
theorem dX1_findFree_17 : decode cX1_findFree 17 = .ok (.aaload, 1) := by decide +kernel
theorem dX1_findFree_18 : decode cX1_findFree 18 = .ok (.astore 4, 2) := by decide +kernel
theorem dX1_findFree_20 : decode cX1_findFree 20 = .ok (.aload 4, 2) := by decide +kernel
theorem dX1_findFree_22 : decode cX1_findFree 22 = .ok (.invokevirtual 86, 3) := by decide +kernel
theorem dX1_findFree_25 : decode cX1_findFree 25 = .ok (.ifCond .ne 6, 3) := by decide +kernel
theorem dX1_findFree_28 : decode cX1_findFree 28 = .ok (.aload 4, 2) := by decide +kernel
theorem dX1_findFree_30 : decode cX1_findFree 30 = .ok (.areturn, 1) := by decide +kernel
theorem dX1_findFree_31 : decode cX1_findFree 31 = .ok (.iinc 3 1, 3) := by decide +kernel
theorem dX1_findFree_34 : decode cX1_findFree 34 = .ok (.goto (-24), 3) := by decide +kernel
theorem dX1_findFree_37 : decode cX1_findFree 37 = .ok (.aload_n 0, 1) := by decide +kernel
theorem dX1_findFree_38 : decode cX1_findFree 38 = .ok (.getfield 18, 3) := by decide +kernel
theorem dX1_findFree_41 : decode cX1_findFree 41 = .ok (.areturn, 1) := by decide +kernel
theorem dX1_rankOf_0 : decode cX1_rankOf 0 = .ok (.iconst 0, 1) := by decide +kernel
theorem dX1_rankOf_1 : decode cX1_rankOf 1 = .ok (.istore_n 2, 1) := by decide +kernel
theorem dX1_rankOf_2 : decode cX1_rankOf 2 = .ok (.aload_n 0, 1) := by decide +kernel
theorem dX1_rankOf_3 : decode cX1_rankOf 3 = .ok (.getfield 11, 3) := by decide +kernel
theorem dX1_rankOf_6 : decode cX1_rankOf 6 = .ok (.astore_n 3, 1) := by decide +kernel
theorem dX1_rankOf_7 : decode cX1_rankOf 7 = .ok (.aload_n 3, 1) := by decide +kernel
theorem dX1_rankOf_8 : decode cX1_rankOf 8 = .ok (.arraylength, 1) := by decide +kernel
theorem dX1_rankOf_9 : decode cX1_rankOf 9 = .ok (.istore 4, 2) := by decide +kernel
theorem dX1_rankOf_11 : decode cX1_rankOf 11 = .ok (.iconst 0, 1) := by decide +kernel
theorem dX1_rankOf_12 : decode cX1_rankOf 12 = .ok (.istore 5, 2) := by decide +kernel
theorem dX1_rankOf_14 : decode cX1_rankOf 14 = .ok (.iload 5, 2) := by decide +kernel
theorem dX1_rankOf_16 : decode cX1_rankOf 16 = .ok (.iload 4, 2) := by decide +kernel
theorem dX1_rankOf_18 : decode cX1_rankOf 18 = .ok (.if_icmp .ge 35, 3) := by decide +kernel
theorem dX1_rankOf_21 : decode cX1_rankOf 21 = .ok (.aload_n 3, 1) := by decide +kernel
theorem dX1_rankOf_22 : decode cX1_rankOf 22 = .ok (.iload 5, 2) := by decide +kernel
theorem dX1_rankOf_24 : decode cX1_rankOf 24 = .ok (.aaload, 1) := by decide +kernel
theorem dX1_rankOf_25 : decode cX1_rankOf 25 = .ok (.astore 6, 2) := by decide +kernel
theorem dX1_rankOf_27 : decode cX1_rankOf 27 = .ok (.aload 6, 2) := by decide +kernel
theorem dX1_rankOf_29 : decode cX1_rankOf 29 = .ok (.invokevirtual 86, 3) := by decide +kernel
theorem dX1_rankOf_32 : decode cX1_rankOf 32 = .ok (.ifCond .eq 15, 3) := by decide +kernel
theorem dX1_rankOf_35 : decode cX1_rankOf 35 = .ok (.aload 6, 2) := by decide +kernel
theorem dX1_rankOf_37 : decode cX1_rankOf 37 = .ok (.aload_n 1, 1) := by decide +kernel
theorem dX1_rankOf_38 : decode cX1_rankOf 38 = .ok (.invokevirtual 166, 3) := by decide +kernel
theorem dX1_rankOf_41 : decode cX1_rankOf 41 = .ok (.ifCond .eq 6, 3) := by decide +kernel
theorem dX1_rankOf_44 : decode cX1_rankOf 44 = .ok (.iinc 2 1, 3) := by decide +kernel
theorem dX1_rankOf_47 : decode cX1_rankOf 47 = .ok (.iinc 5 1, 3) := by decide +kernel
theorem dX1_rankOf_50 : decode cX1_rankOf 50 = .ok (.goto (-36), 3) := by decide +kernel
theorem dX1_rankOf_53 : decode cX1_rankOf 53 = .ok (.iload_n 2, 1) := by decide +kernel
theorem dX1_rankOf_54 : decode cX1_rankOf 54 = .ok (.ireturn, 1) := by decide +kernel
theorem dX1_countItems_0 : decode cX1_countItems 0 = .ok (.iconst 0, 1) := by decide +kernel
theorem dX1_countItems_1 : decode cX1_countItems 1 = .ok (.istore_n 1, 1) := by decide +kernel
theorem dX1_countItems_2 : decode cX1_countItems 2 = .ok (.aload_n 0, 1) := by decide +kernel
theorem dX1_countItems_3 : decode cX1_countItems 3 = .ok (.getfield 11, 3) := by decide +kernel
theorem dX1_countItems_6 : decode cX1_countItems 6 = .ok (.astore_n 2, 1) := by decide +kernel
theorem dX1_countItems_7 : decode cX1_countItems 7 = .ok (.aload_n 2, 1) := by decide +kernel
theorem dX1_countItems_8 : decode cX1_countItems 8 = .ok (.arraylength, 1) := by decide +kernel
theorem dX1_countItems_9 : decode cX1_countItems 9 = .ok (.istore_n 3, 1) := by decide +kernel
theorem dX1_countItems_10 : decode cX1_countItems 10 = .ok (.iconst 0, 1) := by decide +kernel
theorem dX1_countItems_11 : decode cX1_countItems 11 = .ok (.istore 4, 2) := by decide +kernel
theorem dX1_countItems_13 : decode cX1_countItems 13 = .ok (.iload 4, 2) := by decide +kernel
theorem dX1_countItems_15 : decode cX1_countItems 15 = .ok (.iload_n 3, 1) := by decide +kernel
theorem dX1_countItems_16 : decode cX1_countItems 16 = .ok (.if_icmp .ge 26, 3) := by decide +kernel
theorem dX1_countItems_19 : decode cX1_countItems 19 = .ok (.aload_n 2, 1) := by decide +kernel
theorem dX1_countItems_20 : decode cX1_countItems 20 = .ok (.iload 4, 2) := by decide +kernel
theorem dX1_countItems_22 : decode cX1_countItems 22 = .ok (.aaload, 1) := by decide +kernel
theorem dX1_countItems_23 : decode cX1_countItems 23 = .ok (.astore 5, 2) := by decide +kernel
theorem dX1_countItems_25 : decode cX1_countItems 25 = .ok (.aload 5, 2) := by decide +kernel
theorem dX1_countItems_27 : decode cX1_countItems 27 = .ok (.invokevirtual 86, 3) := by decide +kernel
theorem dX1_countItems_30 : decode cX1_countItems 30 = .ok (.ifCond .eq 6, 3) := by decide +kernel
theorem dX1_countItems_33 : decode cX1_countItems 33 = .ok (.iinc 1 1, 3) := by decide +kernel
theorem dX1_countItems_36 : decode cX1_countItems 36 = .ok (.iinc 4 1, 3) := by decide +kernel
theorem dX1_countItems_39 : decode cX1_countItems 39 = .ok (.goto (-26), 3) := by decide +kernel
theorem dX1_countItems_42 : decode cX1_countItems 42 = .ok (.iload_n 1, 1) := by decide +kernel
theorem dX1_countItems_43 : decode cX1_countItems 43 = .ok (.ireturn, 1) := by decide +kernel
theorem dX1_countDepot_0 : decode cX1_countDepot 0 = .ok (.iconst 0, 1) := by decide +kernel
theorem dX1_countDepot_1 : decode cX1_countDepot 1 = .ok (.istore_n 1, 1) := by decide +kernel
theorem dX1_countDepot_2 : decode cX1_countDepot 2 = .ok (.aload_n 0, 1) := by decide +kernel
theorem dX1_countDepot_3 : decode cX1_countDepot 3 = .ok (.getfield 11, 3) := by decide +kernel
theorem dX1_countDepot_6 : decode cX1_countDepot 6 = .ok (.astore_n 2, 1) := by decide +kernel
theorem dX1_countDepot_7 : decode cX1_countDepot 7 = .ok (.aload_n 2, 1) := by decide +kernel
theorem dX1_countDepot_8 : decode cX1_countDepot 8 = .ok (.arraylength, 1) := by decide +kernel
theorem dX1_countDepot_9 : decode cX1_countDepot 9 = .ok (.istore_n 3, 1) := by decide +kernel
theorem dX1_countDepot_10 : decode cX1_countDepot 10 = .ok (.iconst 0, 1) := by decide +kernel
theorem dX1_countDepot_11 : decode cX1_countDepot 11 = .ok (.istore 4, 2) := by decide +kernel
theorem dX1_countDepot_13 : decode cX1_countDepot 13 = .ok (.iload 4, 2) := by decide +kernel
theorem dX1_countDepot_15 : decode cX1_countDepot 15 = .ok (.iload_n 3, 1) := by decide +kernel
theorem dX1_countDepot_16 : decode cX1_countDepot 16 = .ok (.if_icmp .ge 26, 3) := by decide +kernel
theorem dX1_countDepot_19 : decode cX1_countDepot 19 = .ok (.aload_n 2, 1) := by decide +kernel
theorem dX1_countDepot_20 : decode cX1_countDepot 20 = .ok (.iload 4, 2) := by decide +kernel
theorem dX1_countDepot_22 : decode cX1_countDepot 22 = .ok (.aaload, 1) := by decide +kernel
theorem dX1_countDepot_23 : decode cX1_countDepot 23 = .ok (.astore 5, 2) := by decide +kernel
theorem dX1_countDepot_25 : decode cX1_countDepot 25 = .ok (.aload 5, 2) := by decide +kernel
theorem dX1_countDepot_27 : decode cX1_countDepot 27 = .ok (.invokevirtual 127, 3) := by decide +kernel
theorem dX1_countDepot_30 : decode cX1_countDepot 30 = .ok (.ifCond .eq 6, 3) := by decide +kernel
theorem dX1_countDepot_33 : decode cX1_countDepot 33 = .ok (.iinc 1 1, 3) := by decide +kernel
theorem dX1_countDepot_36 : decode cX1_countDepot 36 = .ok (.iinc 4 1, 3) := by decide +kernel
theorem dX1_countDepot_39 : decode cX1_countDepot 39 = .ok (.goto (-26), 3) := by decide +kernel
theorem dX1_countDepot_42 : decode cX1_countDepot 42 = .ok (.iload_n 1, 1) := by decide +kernel
theorem dX1_countDepot_43 : decode cX1_countDepot 43 = .ok (.ireturn, 1) := by decide +kernel
theorem dX1_hasPackedItem_0 : decode cX1_hasPackedItem 0 = .ok (.aload_n 0, 1) := by decide +kernel
theorem dX1_hasPackedItem_1 : decode cX1_hasPackedItem 1 = .ok (.invokevirtual 170, 3) := by decide +kernel
theorem dX1_hasPackedItem_4 : decode cX1_hasPackedItem 4 = .ok (.aload_n 0, 1) := by decide +kernel
theorem dX1_hasPackedItem_5 : decode cX1_hasPackedItem 5 = .ok (.invokevirtual 55, 3) := by decide +kernel
theorem dX1_hasPackedItem_8 : decode cX1_hasPackedItem 8 = .ok (.if_icmp .ge 7, 3) := by decide +kernel
theorem dX1_hasPackedItem_11 : decode cX1_hasPackedItem 11 = .ok (.iconst 1, 1) := by decide +kernel
theorem dX1_hasPackedItem_12 : decode cX1_hasPackedItem 12 = .ok (.goto 4, 3) := by decide +kernel
theorem dX1_hasPackedItem_15 : decode cX1_hasPackedItem 15 = .ok (.iconst 0, 1) := by decide +kernel
theorem dX1_hasPackedItem_16 : decode cX1_hasPackedItem 16 = .ok (.ireturn, 1) := by decide +kernel
theorem dX1_lowestPackedStop_0 : decode cX1_lowestPackedStop 0 = .ok (.bipush 30, 2) := by decide +kernel
theorem dX1_lowestPackedStop_2 : decode cX1_lowestPackedStop 2 = .ok (.istore_n 1, 1) := by decide +kernel
theorem dX1_lowestPackedStop_3 : decode cX1_lowestPackedStop 3 = .ok (.aload_n 0, 1) := by decide +kernel
theorem dX1_lowestPackedStop_4 : decode cX1_lowestPackedStop 4 = .ok (.getfield 11, 3) := by decide +kernel
theorem dX1_lowestPackedStop_7 : decode cX1_lowestPackedStop 7 = .ok (.astore_n 2, 1) := by decide +kernel
theorem dX1_lowestPackedStop_8 : decode cX1_lowestPackedStop 8 = .ok (.aload_n 2, 1) := by decide +kernel
theorem dX1_lowestPackedStop_9 : decode cX1_lowestPackedStop 9 = .ok (.arraylength, 1) := by decide +kernel
theorem dX1_lowestPackedStop_10 : decode cX1_lowestPackedStop 10 = .ok (.istore_n 3, 1) := by decide +kernel
theorem dX1_lowestPackedStop_11 : decode cX1_lowestPackedStop 11 = .ok (.iconst 0, 1) := by decide +kernel
theorem dX1_lowestPackedStop_12 : decode cX1_lowestPackedStop 12 = .ok (.istore 4, 2) := by decide +kernel
theorem dX1_lowestPackedStop_14 : decode cX1_lowestPackedStop 14 = .ok (.iload 4, 2) := by decide +kernel
theorem dX1_lowestPackedStop_16 : decode cX1_lowestPackedStop 16 = .ok (.iload_n 3, 1) := by decide +kernel
theorem dX1_lowestPackedStop_17 : decode cX1_lowestPackedStop 17 = .ok (.if_icmp .ge 33, 3) := by decide +kernel
theorem dX1_lowestPackedStop_20 : decode cX1_lowestPackedStop 20 = .ok (.aload_n 2, 1) := by decide +kernel
theorem dX1_lowestPackedStop_21 : decode cX1_lowestPackedStop 21 = .ok (.iload 4, 2) := by decide +kernel
theorem dX1_lowestPackedStop_23 : decode cX1_lowestPackedStop 23 = .ok (.aaload, 1) := by decide +kernel
theorem dX1_lowestPackedStop_24 : decode cX1_lowestPackedStop 24 = .ok (.astore 5, 2) := by decide +kernel
theorem dX1_lowestPackedStop_26 : decode cX1_lowestPackedStop 26 = .ok (.aload 5, 2) := by decide +kernel
theorem dX1_lowestPackedStop_28 : decode cX1_lowestPackedStop 28 = .ok (.invokevirtual 93, 3) := by decide +kernel
theorem dX1_lowestPackedStop_31 : decode cX1_lowestPackedStop 31 = .ok (.ifCond .eq 13, 3) := by decide +kernel
theorem dX1_lowestPackedStop_34 : decode cX1_lowestPackedStop 34 = .ok (.iload_n 1, 1) := by decide +kernel
theorem dX1_lowestPackedStop_35 : decode cX1_lowestPackedStop 35 = .ok (.aload 5, 2) := by decide +kernel
theorem dX1_lowestPackedStop_37 : decode cX1_lowestPackedStop 37 = .ok (.getfield 72, 3) := by decide +kernel
theorem dX1_lowestPackedStop_40 : decode cX1_lowestPackedStop 40 = .ok (.invokestatic 173, 3) := by decide +kernel
theorem dX1_lowestPackedStop_43 : decode cX1_lowestPackedStop 43 = .ok (.istore_n 1, 1) := by decide +kernel
theorem dX1_lowestPackedStop_44 : decode cX1_lowestPackedStop 44 = .ok (.iinc 4 1, 3) := by decide +kernel
theorem dX1_lowestPackedStop_47 : decode cX1_lowestPackedStop 47 = .ok (.goto (-33), 3) := by decide +kernel
theorem dX1_lowestPackedStop_50 : decode cX1_lowestPackedStop 50 = .ok (.iload_n 1, 1) := by decide +kernel
theorem dX1_lowestPackedStop_51 : decode cX1_lowestPackedStop 51 = .ok (.ireturn, 1) := by decide +kernel
theorem dX1_packedWeight_0 : decode cX1_packedWeight 0 = .ok (.iconst 0, 1) := by decide +kernel
theorem dX1_packedWeight_1 : decode cX1_packedWeight 1 = .ok (.istore_n 1, 1) := by decide +kernel
theorem dX1_packedWeight_2 : decode cX1_packedWeight 2 = .ok (.aload_n 0, 1) := by decide +kernel
theorem dX1_packedWeight_3 : decode cX1_packedWeight 3 = .ok (.getfield 11, 3) := by decide +kernel
theorem dX1_packedWeight_6 : decode cX1_packedWeight 6 = .ok (.astore_n 2, 1) := by decide +kernel
theorem dX1_packedWeight_7 : decode cX1_packedWeight 7 = .ok (.aload_n 2, 1) := by decide +kernel
theorem dX1_packedWeight_8 : decode cX1_packedWeight 8 = .ok (.arraylength, 1) := by decide +kernel
theorem dX1_packedWeight_9 : decode cX1_packedWeight 9 = .ok (.istore_n 3, 1) := by decide +kernel
theorem dX1_packedWeight_10 : decode cX1_packedWeight 10 = .ok (.iconst 0, 1) := by decide +kernel
theorem dX1_packedWeight_11 : decode cX1_packedWeight 11 = .ok (.istore 4, 2) := by decide +kernel
theorem dX1_packedWeight_13 : decode cX1_packedWeight 13 = .ok (.iload 4, 2) := by decide +kernel
theorem dX1_packedWeight_15 : decode cX1_packedWeight 15 = .ok (.iload_n 3, 1) := by decide +kernel
theorem dX1_packedWeight_16 : decode cX1_packedWeight 16 = .ok (.if_icmp .ge 31, 3) := by decide +kernel
theorem dX1_packedWeight_19 : decode cX1_packedWeight 19 = .ok (.aload_n 2, 1) := by decide +kernel
theorem dX1_packedWeight_20 : decode cX1_packedWeight 20 = .ok (.iload 4, 2) := by decide +kernel
theorem dX1_packedWeight_22 : decode cX1_packedWeight 22 = .ok (.aaload, 1) := by decide +kernel
theorem dX1_packedWeight_23 : decode cX1_packedWeight 23 = .ok (.astore 5, 2) := by decide +kernel
theorem dX1_packedWeight_25 : decode cX1_packedWeight 25 = .ok (.aload 5, 2) := by decide +kernel
theorem dX1_packedWeight_27 : decode cX1_packedWeight 27 = .ok (.invokevirtual 93, 3) := by decide +kernel
theorem dX1_packedWeight_30 : decode cX1_packedWeight 30 = .ok (.ifCond .eq 11, 3) := by decide +kernel
theorem dX1_packedWeight_33 : decode cX1_packedWeight 33 = .ok (.iload_n 1, 1) := by decide +kernel
theorem dX1_packedWeight_34 : decode cX1_packedWeight 34 = .ok (.aload 5, 2) := by decide +kernel
theorem dX1_packedWeight_36 : decode cX1_packedWeight 36 = .ok (.getfield 69, 3) := by decide +kernel
theorem dX1_packedWeight_39 : decode cX1_packedWeight 39 = .ok (.iadd, 1) := by decide +kernel
theorem dX1_packedWeight_40 : decode cX1_packedWeight 40 = .ok (.istore_n 1, 1) := by decide +kernel
theorem dX1_packedWeight_41 : decode cX1_packedWeight 41 = .ok (.iinc 4 1, 3) := by decide +kernel
theorem dX1_packedWeight_44 : decode cX1_packedWeight 44 = .ok (.goto (-31), 3) := by decide +kernel
theorem dX1_packedWeight_47 : decode cX1_packedWeight 47 = .ok (.iload_n 1, 1) := by decide +kernel
theorem dX1_packedWeight_48 : decode cX1_packedWeight 48 = .ok (.ireturn, 1) := by decide +kernel
theorem dX1_hasBag_0 : decode cX1_hasBag 0 = .ok (.iload_n 1, 1) := by decide +kernel
theorem dX1_hasBag_1 : decode cX1_hasBag 1 = .ok (.ifCond .lt 15, 3) := by decide +kernel
theorem dX1_hasBag_4 : decode cX1_hasBag 4 = .ok (.iload_n 1, 1) := by decide +kernel
theorem dX1_hasBag_5 : decode cX1_hasBag 5 = .ok (.aload_n 0, 1) := by decide +kernel
theorem dX1_hasBag_6 : decode cX1_hasBag 6 = .ok (.getfield 34, 3) := by decide +kernel
theorem dX1_hasBag_9 : decode cX1_hasBag 9 = .ok (.if_icmp .ge 7, 3) := by decide +kernel
theorem dX1_hasBag_12 : decode cX1_hasBag 12 = .ok (.iconst 1, 1) := by decide +kernel
theorem dX1_hasBag_13 : decode cX1_hasBag 13 = .ok (.goto 4, 3) := by decide +kernel
theorem dX1_hasBag_16 : decode cX1_hasBag 16 = .ok (.iconst 0, 1) := by decide +kernel
theorem dX1_hasBag_17 : decode cX1_hasBag 17 = .ok (.ireturn, 1) := by decide +kernel
theorem dX1_limit_0 : decode cX1_limit 0 = .ok (.iload_n 1, 1) := by decide +kernel
theorem dX1_limit_1 : decode cX1_limit 1 = .ok (.ifCond .lt 21, 3) := by decide +kernel
theorem dX1_limit_4 : decode cX1_limit 4 = .ok (.iload_n 1, 1) := by decide +kernel
theorem dX1_limit_5 : decode cX1_limit 5 = .ok (.aload_n 0, 1) := by decide +kernel
theorem dX1_limit_6 : decode cX1_limit 6 = .ok (.getfield 22, 3) := by decide +kernel
theorem dX1_limit_9 : decode cX1_limit 9 = .ok (.arraylength, 1) := by decide +kernel
theorem dX1_limit_10 : decode cX1_limit 10 = .ok (.if_icmp .ge 12, 3) := by decide +kernel
theorem dX1_limit_13 : decode cX1_limit 13 = .ok (.aload_n 0, 1) := by decide +kernel
theorem dX1_limit_14 : decode cX1_limit 14 = .ok (.getfield 22, 3) := by decide +kernel
theorem dX1_limit_17 : decode cX1_limit 17 = .ok (.iload_n 1, 1) := by decide +kernel
theorem dX1_limit_18 : decode cX1_limit 18 = .ok (.iaload, 1) := by decide +kernel
theorem dX1_limit_19 : decode cX1_limit 19 = .ok (.goto 4, 3) := by decide +kernel
theorem dX1_limit_22 : decode cX1_limit 22 = .ok (.iconst 0, 1) := by decide +kernel
theorem dX1_limit_23 : decode cX1_limit 23 = .ok (.ireturn, 1) := by decide +kernel
theorem dX1_sumOfLimits_0 : decode cX1_sumOfLimits 0 = .ok (.iconst 0, 1) := by decide +kernel
theorem dX1_sumOfLimits_1 : decode cX1_sumOfLimits 1 = .ok (.istore_n 1, 1) := by decide +kernel
theorem dX1_sumOfLimits_2 : decode cX1_sumOfLimits 2 = .ok (.iconst 0, 1) := by decide +kernel
theorem dX1_sumOfLimits_3 : decode cX1_sumOfLimits 3 = .ok (.istore_n 2, 1) := by decide +kernel
theorem dX1_sumOfLimits_4 : decode cX1_sumOfLimits 4 = .ok (.iload_n 2, 1) := by decide +kernel
theorem dX1_sumOfLimits_5 : decode cX1_sumOfLimits 5 = .ok (.aload_n 0, 1) := by decide +kernel
theorem dX1_sumOfLimits_6 : decode cX1_sumOfLimits 6 = .ok (.getfield 34, 3) := by decide +kernel
theorem dX1_sumOfLimits_9 : decode cX1_sumOfLimits 9 = .ok (.if_icmp .ge 17, 3) := by decide +kernel
theorem dX1_sumOfLimits_12 : decode cX1_sumOfLimits 12 = .ok (.iload_n 1, 1) := by decide +kernel
theorem dX1_sumOfLimits_13 : decode cX1_sumOfLimits 13 = .ok (.aload_n 0, 1) := by decide +kernel
theorem dX1_sumOfLimits_14 : decode cX1_sumOfLimits 14 = .ok (.iload_n 2, 1) := by decide +kernel
theorem dX1_sumOfLimits_15 : decode cX1_sumOfLimits 15 = .ok (.invokevirtual 178, 3) := by decide +kernel
theorem dX1_sumOfLimits_18 : decode cX1_sumOfLimits 18 = .ok (.iadd, 1) := by decide +kernel
theorem dX1_sumOfLimits_19 : decode cX1_sumOfLimits 19 = .ok (.istore_n 1, 1) := by decide +kernel
theorem dX1_sumOfLimits_20 : decode cX1_sumOfLimits 20 = .ok (.iinc 2 1, 3) := by decide +kernel
theorem dX1_sumOfLimits_23 : decode cX1_sumOfLimits 23 = .ok (.goto (-19), 3) := by decide +kernel
theorem dX1_sumOfLimits_26 : decode cX1_sumOfLimits 26 = .ok (.iload_n 1, 1) := by decide +kernel
theorem dX1_sumOfLimits_27 : decode cX1_sumOfLimits 27 = .ok (.ireturn, 1) := by decide +kernel
theorem dX1_weightByItems_0 : decode cX1_weightByItems 0 = .ok (.iconst 0, 1) := by decide +kernel
theorem dX1_weightByItems_1 : decode cX1_weightByItems 1 = .ok (.istore_n 2, 1) := by decide +kernel
theorem dX1_weightByItems_2 : decode cX1_weightByItems 2 = .ok (.aload_n 0, 1) := by decide +kernel
theorem dX1_weightByItems_3 : decode cX1_weightByItems 3 = .ok (.getfield 11, 3) := by decide +kernel
theorem dX1_weightByItems_6 : decode cX1_weightByItems 6 = .ok (.astore_n 3, 1) := by decide +kernel
theorem dX1_weightByItems_7 : decode cX1_weightByItems 7 = .ok (.aload_n 3, 1) := by decide +kernel
theorem dX1_weightByItems_8 : decode cX1_weightByItems 8 = .ok (.arraylength, 1) := by decide +kernel
theorem dX1_weightByItems_9 : decode cX1_weightByItems 9 = .ok (.istore 4, 2) := by decide +kernel
theorem dX1_weightByItems_11 : decode cX1_weightByItems 11 = .ok (.iconst 0, 1) := by decide +kernel
theorem dX1_weightByItems_12 : decode cX1_weightByItems 12 = .ok (.istore 5, 2) := by decide +kernel
theorem dX1_weightByItems_14 : decode cX1_weightByItems 14 = .ok (.iload 5, 2) := by decide +kernel
theorem dX1_weightByItems_16 : decode cX1_weightByItems 16 = .ok (.iload 4, 2) := by decide +kernel
theorem dX1_weightByItems_18 : decode cX1_weightByItems 18 = .ok (.if_icmp .ge 32, 3) := by decide +kernel
theorem dX1_weightByItems_21 : decode cX1_weightByItems 21 = .ok (.aload_n 3, 1) := by decide +kernel
theorem dX1_weightByItems_22 : decode cX1_weightByItems 22 = .ok (.iload 5, 2) := by decide +kernel
theorem dX1_weightByItems_24 : decode cX1_weightByItems 24 = .ok (.aaload, 1) := by decide +kernel
theorem dX1_weightByItems_25 : decode cX1_weightByItems 25 = .ok (.astore 6, 2) := by decide +kernel
theorem dX1_weightByItems_27 : decode cX1_weightByItems 27 = .ok (.aload 6, 2) := by decide +kernel
theorem dX1_weightByItems_29 : decode cX1_weightByItems 29 = .ok (.getfield 79, 3) := by decide +kernel
theorem dX1_weightByItems_32 : decode cX1_weightByItems 32 = .ok (.iload_n 1, 1) := by decide +kernel
theorem dX1_weightByItems_33 : decode cX1_weightByItems 33 = .ok (.if_icmp .ne 11, 3) := by decide +kernel
theorem dX1_weightByItems_36 : decode cX1_weightByItems 36 = .ok (.iload_n 2, 1) := by decide +kernel
theorem dX1_weightByItems_37 : decode cX1_weightByItems 37 = .ok (.aload 6, 2) := by decide +kernel
theorem dX1_weightByItems_39 : decode cX1_weightByItems 39 = .ok (.getfield 69, 3) := by decide +kernel
theorem dX1_weightByItems_42 : decode cX1_weightByItems 42 = .ok (.iadd, 1) := by decide +kernel
theorem dX1_weightByItems_43 : decode cX1_weightByItems 43 = .ok (.istore_n 2, 1) := by decide +kernel
theorem dX1_weightByItems_44 : decode cX1_weightByItems 44 = .ok (.iinc 5 1, 3) := by decide +kernel
theorem dX1_weightByItems_47 : decode cX1_weightByItems 47 = .ok (.goto (-33), 3) := by decide +kernel
theorem dX1_weightByItems_50 : decode cX1_weightByItems 50 = .ok (.iload_n 2, 1) := by decide +kernel
theorem dX1_weightByItems_51 : decode cX1_weightByItems 51 = .ok (.ireturn, 1) := by decide +kernel
theorem dX1_weightByLayers_0 : decode cX1_weightByLayers 0 = .ok (.aload_n 0, 1) := by decide +kernel
theorem dX1_weightByLayers_1 : decode cX1_weightByLayers 1 = .ok (.iload_n 1, 1) := by decide +kernel
theorem dX1_weightByLayers_2 : decode cX1_weightByLayers 2 = .ok (.iconst 0, 1) := by decide +kernel
theorem dX1_weightByLayers_3 : decode cX1_weightByLayers 3 = .ok (.invokevirtual 159, 3) := by decide +kernel
theorem dX1_weightByLayers_6 : decode cX1_weightByLayers 6 = .ok (.aload_n 0, 1) := by decide +kernel
theorem dX1_weightByLayers_7 : decode cX1_weightByLayers 7 = .ok (.iload_n 1, 1) := by decide +kernel
theorem dX1_weightByLayers_8 : decode cX1_weightByLayers 8 = .ok (.iconst 0, 1) := by decide +kernel
theorem dX1_weightByLayers_9 : decode cX1_weightByLayers 9 = .ok (.invokevirtual 181, 3) := by decide +kernel
theorem dX1_weightByLayers_12 : decode cX1_weightByLayers 12 = .ok (.iadd, 1) := by decide +kernel
theorem dX1_weightByLayers_13 : decode cX1_weightByLayers 13 = .ok (.ireturn, 1) := by decide +kernel
theorem dX1_roomIn_0 : decode cX1_roomIn 0 = .ok (.aload_n 0, 1) := by decide +kernel
theorem dX1_roomIn_1 : decode cX1_roomIn 1 = .ok (.iload_n 1, 1) := by decide +kernel
theorem dX1_roomIn_2 : decode cX1_roomIn 2 = .ok (.invokevirtual 178, 3) := by decide +kernel
theorem dX1_roomIn_5 : decode cX1_roomIn 5 = .ok (.aload_n 0, 1) := by decide +kernel
theorem dX1_roomIn_6 : decode cX1_roomIn 6 = .ok (.iload_n 1, 1) := by decide +kernel
theorem dX1_roomIn_7 : decode cX1_roomIn 7 = .ok (.invokevirtual 184, 3) := by decide +kernel
theorem dX1_roomIn_10 : decode cX1_roomIn 10 = .ok (.isub, 1) := by decide +kernel
theorem dX1_roomIn_11 : decode cX1_roomIn 11 = .ok (.ireturn, 1) := by decide +kernel
theorem dX1_findEmptiest_0 : decode cX1_findEmptiest 0 = .ok (.iconst 0, 1) := by decide +kernel
theorem dX1_findEmptiest_1 : decode cX1_findEmptiest 1 = .ok (.istore_n 1, 1) := by decide +kernel
theorem dX1_findEmptiest_2 : decode cX1_findEmptiest 2 = .ok (.iconst 1, 1) := by decide +kernel
theorem dX1_findEmptiest_3 : decode cX1_findEmptiest 3 = .ok (.istore_n 2, 1) := by decide +kernel
theorem dX1_findEmptiest_4 : decode cX1_findEmptiest 4 = .ok (.iload_n 2, 1) := by decide +kernel
theorem dX1_findEmptiest_5 : decode cX1_findEmptiest 5 = .ok (.aload_n 0, 1) := by decide +kernel
theorem dX1_findEmptiest_6 : decode cX1_findEmptiest 6 = .ok (.getfield 34, 3) := by decide +kernel
theorem dX1_findEmptiest_9 : decode cX1_findEmptiest 9 = .ok (.if_icmp .ge 24, 3) := by decide +kernel
theorem dX1_findEmptiest_12 : decode cX1_findEmptiest 12 = .ok (.aload_n 0, 1) := by decide +kernel
theorem dX1_findEmptiest_13 : decode cX1_findEmptiest 13 = .ok (.iload_n 2, 1) := by decide +kernel
theorem dX1_findEmptiest_14 : decode cX1_findEmptiest 14 = .ok (.invokevirtual 146, 3) := by decide +kernel
theorem dX1_findEmptiest_17 : decode cX1_findEmptiest 17 = .ok (.aload_n 0, 1) := by decide +kernel
theorem dX1_findEmptiest_18 : decode cX1_findEmptiest 18 = .ok (.iload_n 1, 1) := by decide +kernel
theorem dX1_findEmptiest_19 : decode cX1_findEmptiest 19 = .ok (.invokevirtual 146, 3) := by decide +kernel
theorem dX1_findEmptiest_22 : decode cX1_findEmptiest 22 = .ok (.if_icmp .le 5, 3) := by decide +kernel
theorem dX1_findEmptiest_25 : decode cX1_findEmptiest 25 = .ok (.iload_n 2, 1) := by decide +kernel
theorem dX1_findEmptiest_26 : decode cX1_findEmptiest 26 = .ok (.istore_n 1, 1) := by decide +kernel
theorem dX1_findEmptiest_27 : decode cX1_findEmptiest 27 = .ok (.iinc 2 1, 3) := by decide +kernel
theorem dX1_findEmptiest_30 : decode cX1_findEmptiest 30 = .ok (.goto (-26), 3) := by decide +kernel
theorem dX1_findEmptiest_33 : decode cX1_findEmptiest 33 = .ok (.iload_n 1, 1) := by decide +kernel
theorem dX1_findEmptiest_34 : decode cX1_findEmptiest 34 = .ok (.ireturn, 1) := by decide +kernel
theorem dX1_countLayers_0 : decode cX1_countLayers 0 = .ok (.iconst 0, 1) := by decide +kernel
theorem dX1_countLayers_1 : decode cX1_countLayers 1 = .ok (.istore_n 2, 1) := by decide +kernel
theorem dX1_countLayers_2 : decode cX1_countLayers 2 = .ok (.aload_n 0, 1) := by decide +kernel
theorem dX1_countLayers_3 : decode cX1_countLayers 3 = .ok (.getfield 11, 3) := by decide +kernel
theorem dX1_countLayers_6 : decode cX1_countLayers 6 = .ok (.astore_n 3, 1) := by decide +kernel
theorem dX1_countLayers_7 : decode cX1_countLayers 7 = .ok (.aload_n 3, 1) := by decide +kernel
theorem dX1_countLayers_8 : decode cX1_countLayers 8 = .ok (.arraylength, 1) := by decide +kernel
theorem dX1_countLayers_9 : decode cX1_countLayers 9 = .ok (.istore 4, 2) := by decide +kernel
theorem dX1_countLayers_11 : decode cX1_countLayers 11 = .ok (.iconst 0, 1) := by decide +kernel
theorem dX1_countLayers_12 : decode cX1_countLayers 12 = .ok (.istore 5, 2) := by decide +kernel
theorem dX1_countLayers_14 : decode cX1_countLayers 14 = .ok (.iload 5, 2) := by decide +kernel
theorem dX1_countLayers_16 : decode cX1_countLayers 16 = .ok (.iload 4, 2) := by decide +kernel
theorem dX1_countLayers_18 : decode cX1_countLayers 18 = .ok (.if_icmp .ge 36, 3) := by decide +kernel
theorem dX1_countLayers_21 : decode cX1_countLayers 21 = .ok (.aload_n 3, 1) := by decide +kernel
theorem dX1_countLayers_22 : decode cX1_countLayers 22 = .ok (.iload 5, 2) := by decide +kernel
theorem dX1_countLayers_24 : decode cX1_countLayers 24 = .ok (.aaload, 1) := by decide +kernel
theorem dX1_countLayers_25 : decode cX1_countLayers 25 = .ok (.astore 6, 2) := by decide +kernel
theorem dX1_countLayers_27 : decode cX1_countLayers 27 = .ok (.aload 6, 2) := by decide +kernel
theorem dX1_countLayers_29 : decode cX1_countLayers 29 = .ok (.getfield 79, 3) := by decide +kernel
theorem dX1_countLayers_32 : decode cX1_countLayers 32 = .ok (.iload_n 1, 1) := by decide +kernel
theorem dX1_countLayers_33 : decode cX1_countLayers 33 = .ok (.if_icmp .ne 15, 3) := by decide +kernel
theorem dX1_countLayers_36 : decode cX1_countLayers 36 = .ok (.iload_n 2, 1) := by decide +kernel
theorem dX1_countLayers_37 : decode cX1_countLayers 37 = .ok (.aload 6, 2) := by decide +kernel
theorem dX1_countLayers_39 : decode cX1_countLayers 39 = .ok (.getfield 114, 3) := by decide +kernel
theorem dX1_countLayers_42 : decode cX1_countLayers 42 = .ok (.iconst 1, 1) := by decide +kernel
theorem dX1_countLayers_43 : decode cX1_countLayers 43 = .ok (.iadd, 1) := by decide +kernel
theorem dX1_countLayers_44 : decode cX1_countLayers 44 = .ok (.invokestatic 187, 3) := by decide +kernel
theorem dX1_countLayers_47 : decode cX1_countLayers 47 = .ok (.istore_n 2, 1) := by decide +kernel
theorem dX1_countLayers_48 : decode cX1_countLayers 48 = .ok (.iinc 5 1, 3) := by decide +kernel
theorem dX1_countLayers_51 : decode cX1_countLayers 51 = .ok (.goto (-37), 3) := by decide +kernel
theorem dX1_countLayers_54 : decode cX1_countLayers 54 = .ok (.iload_n 2, 1) := by decide +kernel
theorem dX1_countLayers_55 : decode cX1_countLayers 55 = .ok (.ireturn, 1) := by decide +kernel
theorem dX1_countInLayer_0 : decode cX1_countInLayer 0 = .ok (.iconst 0, 1) := by decide +kernel
theorem dX1_countInLayer_1 : decode cX1_countInLayer 1 = .ok (.istore_n 3, 1) := by decide +kernel
theorem dX1_countInLayer_2 : decode cX1_countInLayer 2 = .ok (.aload_n 0, 1) := by decide +kernel
theorem dX1_countInLayer_3 : decode cX1_countInLayer 3 = .ok (.getfield 11, 3) := by decide +kernel
theorem dX1_countInLayer_6 : decode cX1_countInLayer 6 = .ok (.astore 4, 2) := by decide +kernel
theorem dX1_countInLayer_8 : decode cX1_countInLayer 8 = .ok (.aload 4, 2) := by decide +kernel
theorem dX1_countInLayer_10 : decode cX1_countInLayer 10 = .ok (.arraylength, 1) := by decide +kernel
theorem dX1_countInLayer_11 : decode cX1_countInLayer 11 = .ok (.istore 5, 2) := by decide +kernel
theorem dX1_countInLayer_13 : decode cX1_countInLayer 13 = .ok (.iconst 0, 1) := by decide +kernel
theorem dX1_countInLayer_14 : decode cX1_countInLayer 14 = .ok (.istore 6, 2) := by decide +kernel
theorem dX1_countInLayer_16 : decode cX1_countInLayer 16 = .ok (.iload 6, 2) := by decide +kernel
theorem dX1_countInLayer_18 : decode cX1_countInLayer 18 = .ok (.iload 5, 2) := by decide +kernel
theorem dX1_countInLayer_20 : decode cX1_countInLayer 20 = .ok (.if_icmp .ge 37, 3) := by decide +kernel
theorem dX1_countInLayer_23 : decode cX1_countInLayer 23 = .ok (.aload 4, 2) := by decide +kernel
theorem dX1_countInLayer_25 : decode cX1_countInLayer 25 = .ok (.iload 6, 2) := by decide +kernel
theorem dX1_countInLayer_27 : decode cX1_countInLayer 27 = .ok (.aaload, 1) := by decide +kernel
theorem dX1_countInLayer_28 : decode cX1_countInLayer 28 = .ok (.astore 7, 2) := by decide +kernel
theorem dX1_countInLayer_30 : decode cX1_countInLayer 30 = .ok (.aload 7, 2) := by decide +kernel
theorem dX1_countInLayer_32 : decode cX1_countInLayer 32 = .ok (.getfield 79, 3) := by decide +kernel
theorem dX1_countInLayer_35 : decode cX1_countInLayer 35 = .ok (.iload_n 1, 1) := by decide +kernel
theorem dX1_countInLayer_36 : decode cX1_countInLayer 36 = .ok (.if_icmp .ne 15, 3) := by decide +kernel
theorem dX1_countInLayer_39 : decode cX1_countInLayer 39 = .ok (.aload 7, 2) := by decide +kernel
theorem dX1_countInLayer_41 : decode cX1_countInLayer 41 = .ok (.getfield 114, 3) := by decide +kernel
theorem dX1_countInLayer_44 : decode cX1_countInLayer 44 = .ok (.iload_n 2, 1) := by decide +kernel
theorem dX1_countInLayer_45 : decode cX1_countInLayer 45 = .ok (.if_icmp .ne 6, 3) := by decide +kernel
theorem dX1_countInLayer_48 : decode cX1_countInLayer 48 = .ok (.iinc 3 1, 3) := by decide +kernel
theorem dX1_countInLayer_51 : decode cX1_countInLayer 51 = .ok (.iinc 6 1, 3) := by decide +kernel
theorem dX1_countInLayer_54 : decode cX1_countInLayer 54 = .ok (.goto (-38), 3) := by decide +kernel
theorem dX1_countInLayer_57 : decode cX1_countInLayer 57 = .ok (.iload_n 3, 1) := by decide +kernel
theorem dX1_countInLayer_58 : decode cX1_countInLayer 58 = .ok (.ireturn, 1) := by decide +kernel
theorem dX1_sizeOfLayer_0 : decode cX1_sizeOfLayer 0 = .ok (.iconst 0, 1) := by decide +kernel
theorem dX1_sizeOfLayer_1 : decode cX1_sizeOfLayer 1 = .ok (.istore_n 3, 1) := by decide +kernel
theorem dX1_sizeOfLayer_2 : decode cX1_sizeOfLayer 2 = .ok (.aload_n 0, 1) := by decide +kernel
theorem dX1_sizeOfLayer_3 : decode cX1_sizeOfLayer 3 = .ok (.getfield 11, 3) := by decide +kernel
theorem dX1_sizeOfLayer_6 : decode cX1_sizeOfLayer 6 = .ok (.astore 4, 2) := by decide +kernel
theorem dX1_sizeOfLayer_8 : decode cX1_sizeOfLayer 8 = .ok (.aload 4, 2) := by decide +kernel
theorem dX1_sizeOfLayer_10 : decode cX1_sizeOfLayer 10 = .ok (.arraylength, 1) := by decide +kernel
theorem dX1_sizeOfLayer_11 : decode cX1_sizeOfLayer 11 = .ok (.istore 5, 2) := by decide +kernel
theorem dX1_sizeOfLayer_13 : decode cX1_sizeOfLayer 13 = .ok (.iconst 0, 1) := by decide +kernel
theorem dX1_sizeOfLayer_14 : decode cX1_sizeOfLayer 14 = .ok (.istore 6, 2) := by decide +kernel
theorem dX1_sizeOfLayer_16 : decode cX1_sizeOfLayer 16 = .ok (.iload 6, 2) := by decide +kernel
theorem dX1_sizeOfLayer_18 : decode cX1_sizeOfLayer 18 = .ok (.iload 5, 2) := by decide +kernel
theorem dX1_sizeOfLayer_20 : decode cX1_sizeOfLayer 20 = .ok (.if_icmp .ge 42, 3) := by decide +kernel
theorem dX1_sizeOfLayer_23 : decode cX1_sizeOfLayer 23 = .ok (.aload 4, 2) := by decide +kernel
theorem dX1_sizeOfLayer_25 : decode cX1_sizeOfLayer 25 = .ok (.iload 6, 2) := by decide +kernel
theorem dX1_sizeOfLayer_27 : decode cX1_sizeOfLayer 27 = .ok (.aaload, 1) := by decide +kernel
theorem dX1_sizeOfLayer_28 : decode cX1_sizeOfLayer 28 = .ok (.astore 7, 2) := by decide +kernel
theorem dX1_sizeOfLayer_30 : decode cX1_sizeOfLayer 30 = .ok (.aload 7, 2) := by decide +kernel
theorem dX1_sizeOfLayer_32 : decode cX1_sizeOfLayer 32 = .ok (.getfield 79, 3) := by decide +kernel
theorem dX1_sizeOfLayer_35 : decode cX1_sizeOfLayer 35 = .ok (.iload_n 1, 1) := by decide +kernel
theorem dX1_sizeOfLayer_36 : decode cX1_sizeOfLayer 36 = .ok (.if_icmp .ne 20, 3) := by decide +kernel
theorem dX1_sizeOfLayer_39 : decode cX1_sizeOfLayer 39 = .ok (.aload 7, 2) := by decide +kernel
theorem dX1_sizeOfLayer_41 : decode cX1_sizeOfLayer 41 = .ok (.getfield 114, 3) := by decide +kernel
theorem dX1_sizeOfLayer_44 : decode cX1_sizeOfLayer 44 = .ok (.iload_n 2, 1) := by decide +kernel
theorem dX1_sizeOfLayer_45 : decode cX1_sizeOfLayer 45 = .ok (.if_icmp .ne 11, 3) := by decide +kernel
theorem dX1_sizeOfLayer_48 : decode cX1_sizeOfLayer 48 = .ok (.iload_n 3, 1) := by decide +kernel
theorem dX1_sizeOfLayer_49 : decode cX1_sizeOfLayer 49 = .ok (.aload 7, 2) := by decide +kernel
theorem dX1_sizeOfLayer_51 : decode cX1_sizeOfLayer 51 = .ok (.getfield 66, 3) := by decide +kernel
theorem dX1_sizeOfLayer_54 : decode cX1_sizeOfLayer 54 = .ok (.iadd, 1) := by decide +kernel
theorem dX1_sizeOfLayer_55 : decode cX1_sizeOfLayer 55 = .ok (.istore_n 3, 1) := by decide +kernel
theorem dX1_sizeOfLayer_56 : decode cX1_sizeOfLayer 56 = .ok (.iinc 6 1, 3) := by decide +kernel
theorem dX1_sizeOfLayer_59 : decode cX1_sizeOfLayer 59 = .ok (.goto (-43), 3) := by decide +kernel
theorem dX1_sizeOfLayer_62 : decode cX1_sizeOfLayer 62 = .ok (.iload_n 3, 1) := by decide +kernel
theorem dX1_sizeOfLayer_63 : decode cX1_sizeOfLayer 63 = .ok (.ireturn, 1) := by decide +kernel
theorem dX1_weightOfLayer_0 : decode cX1_weightOfLayer 0 = .ok (.iconst 0, 1) := by decide +kernel
theorem dX1_weightOfLayer_1 : decode cX1_weightOfLayer 1 = .ok (.istore_n 3, 1) := by decide +kernel
theorem dX1_weightOfLayer_2 : decode cX1_weightOfLayer 2 = .ok (.aload_n 0, 1) := by decide +kernel
theorem dX1_weightOfLayer_3 : decode cX1_weightOfLayer 3 = .ok (.getfield 11, 3) := by decide +kernel
theorem dX1_weightOfLayer_6 : decode cX1_weightOfLayer 6 = .ok (.astore 4, 2) := by decide +kernel
theorem dX1_weightOfLayer_8 : decode cX1_weightOfLayer 8 = .ok (.aload 4, 2) := by decide +kernel
theorem dX1_weightOfLayer_10 : decode cX1_weightOfLayer 10 = .ok (.arraylength, 1) := by decide +kernel
theorem dX1_weightOfLayer_11 : decode cX1_weightOfLayer 11 = .ok (.istore 5, 2) := by decide +kernel
theorem dX1_weightOfLayer_13 : decode cX1_weightOfLayer 13 = .ok (.iconst 0, 1) := by decide +kernel
theorem dX1_weightOfLayer_14 : decode cX1_weightOfLayer 14 = .ok (.istore 6, 2) := by decide +kernel
theorem dX1_weightOfLayer_16 : decode cX1_weightOfLayer 16 = .ok (.iload 6, 2) := by decide +kernel
theorem dX1_weightOfLayer_18 : decode cX1_weightOfLayer 18 = .ok (.iload 5, 2) := by decide +kernel
theorem dX1_weightOfLayer_20 : decode cX1_weightOfLayer 20 = .ok (.if_icmp .ge 42, 3) := by decide +kernel
theorem dX1_weightOfLayer_23 : decode cX1_weightOfLayer 23 = .ok (.aload 4, 2) := by decide +kernel
theorem dX1_weightOfLayer_25 : decode cX1_weightOfLayer 25 = .ok (.iload 6, 2) := by decide +kernel
theorem dX1_weightOfLayer_27 : decode cX1_weightOfLayer 27 = .ok (.aaload, 1) := by decide +kernel
theorem dX1_weightOfLayer_28 : decode cX1_weightOfLayer 28 = .ok (.astore 7, 2) := by decide +kernel
theorem dX1_weightOfLayer_30 : decode cX1_weightOfLayer 30 = .ok (.aload 7, 2) := by decide +kernel
theorem dX1_weightOfLayer_32 : decode cX1_weightOfLayer 32 = .ok (.getfield 79, 3) := by decide +kernel
theorem dX1_weightOfLayer_35 : decode cX1_weightOfLayer 35 = .ok (.iload_n 1, 1) := by decide +kernel
theorem dX1_weightOfLayer_36 : decode cX1_weightOfLayer 36 = .ok (.if_icmp .ne 20, 3) := by decide +kernel
theorem dX1_weightOfLayer_39 : decode cX1_weightOfLayer 39 = .ok (.aload 7, 2) := by decide +kernel
theorem dX1_weightOfLayer_41 : decode cX1_weightOfLayer 41 = .ok (.getfield 114, 3) := by decide +kernel
theorem dX1_weightOfLayer_44 : decode cX1_weightOfLayer 44 = .ok (.iload_n 2, 1) := by decide +kernel
theorem dX1_weightOfLayer_45 : decode cX1_weightOfLayer 45 = .ok (.if_icmp .ne 11, 3) := by decide +kernel
theorem dX1_weightOfLayer_48 : decode cX1_weightOfLayer 48 = .ok (.iload_n 3, 1) := by decide +kernel
theorem dX1_weightOfLayer_49 : decode cX1_weightOfLayer 49 = .ok (.aload 7, 2) := by decide +kernel
theorem dX1_weightOfLayer_51 : decode cX1_weightOfLayer 51 = .ok (.getfield 69, 3) := by decide +kernel
theorem dX1_weightOfLayer_54 : decode cX1_weightOfLayer 54 = .ok (.iadd, 1) := by decide +kernel
theorem dX1_weightOfLayer_55 : decode cX1_weightOfLayer 55 = .ok (.istore_n 3, 1) := by decide +kernel
theorem dX1_weightOfLayer_56 : decode cX1_weightOfLayer 56 = .ok (.iinc 6 1, 3) := by decide +kernel
theorem dX1_weightOfLayer_59 : decode cX1_weightOfLayer 59 = .ok (.goto (-43), 3) := by decide +kernel
theorem dX1_weightOfLayer_62 : decode cX1_weightOfLayer 62 = .ok (.iload_n 3, 1) := by decide +kernel
theorem dX1_weightOfLayer_63 : decode cX1_weightOfLayer 63 = .ok (.ireturn, 1) := by decide +kernel
theorem dX1_loadOn_0 : decode cX1_loadOn 0 = .ok (.iconst 0, 1) := by decide +kernel
theorem dX1_loadOn_1 : decode cX1_loadOn 1 = .ok (.istore_n 3, 1) := by decide +kernel
theorem dX1_loadOn_2 : decode cX1_loadOn 2 = .ok (.aload_n 0, 1) := by decide +kernel
theorem dX1_loadOn_3 : decode cX1_loadOn 3 = .ok (.getfield 11, 3) := by decide +kernel
theorem dX1_loadOn_6 : decode cX1_loadOn 6 = .ok (.astore 4, 2) := by decide +kernel
theorem dX1_loadOn_8 : decode cX1_loadOn 8 = .ok (.aload 4, 2) := by decide +kernel
theorem dX1_loadOn_10 : decode cX1_loadOn 10 = .ok (.arraylength, 1) := by decide +kernel
theorem dX1_loadOn_11 : decode cX1_loadOn 11 = .ok (.istore 5, 2) := by decide +kernel
theorem dX1_loadOn_13 : decode cX1_loadOn 13 = .ok (.iconst 0, 1) := by decide +kernel
theorem dX1_loadOn_14 : decode cX1_loadOn 14 = .ok (.istore 6, 2) := by decide +kernel
theorem dX1_loadOn_16 : decode cX1_loadOn 16 = .ok (.iload 6, 2) := by decide +kernel
theorem dX1_loadOn_18 : decode cX1_loadOn 18 = .ok (.iload 5, 2) := by decide +kernel
theorem dX1_loadOn_20 : decode cX1_loadOn 20 = .ok (.if_icmp .ge 42, 3) := by decide +kernel
theorem dX1_loadOn_23 : decode cX1_loadOn 23 = .ok (.aload 4, 2) := by decide +kernel
theorem dX1_loadOn_25 : decode cX1_loadOn 25 = .ok (.iload 6, 2) := by decide +kernel
theorem dX1_loadOn_27 : decode cX1_loadOn 27 = .ok (.aaload, 1) := by decide +kernel
theorem dX1_loadOn_28 : decode cX1_loadOn 28 = .ok (.astore 7, 2) := by decide +kernel
theorem dX1_loadOn_30 : decode cX1_loadOn 30 = .ok (.aload 7, 2) := by decide +kernel
theorem dX1_loadOn_32 : decode cX1_loadOn 32 = .ok (.getfield 79, 3) := by decide +kernel
theorem dX1_loadOn_35 : decode cX1_loadOn 35 = .ok (.iload_n 1, 1) := by decide +kernel
theorem dX1_loadOn_36 : decode cX1_loadOn 36 = .ok (.if_icmp .ne 20, 3) := by decide +kernel
theorem dX1_loadOn_39 : decode cX1_loadOn 39 = .ok (.aload 7, 2) := by decide +kernel
theorem dX1_loadOn_41 : decode cX1_loadOn 41 = .ok (.getfield 114, 3) := by decide +kernel
theorem dX1_loadOn_44 : decode cX1_loadOn 44 = .ok (.iload_n 2, 1) := by decide +kernel
theorem dX1_loadOn_45 : decode cX1_loadOn 45 = .ok (.if_icmp .le 11, 3) := by decide +kernel
theorem dX1_loadOn_48 : decode cX1_loadOn 48 = .ok (.iload_n 3, 1) := by decide +kernel
theorem dX1_loadOn_49 : decode cX1_loadOn 49 = .ok (.aload 7, 2) := by decide +kernel
theorem dX1_loadOn_51 : decode cX1_loadOn 51 = .ok (.getfield 69, 3) := by decide +kernel
theorem dX1_loadOn_54 : decode cX1_loadOn 54 = .ok (.iadd, 1) := by decide +kernel
theorem dX1_loadOn_55 : decode cX1_loadOn 55 = .ok (.istore_n 3, 1) := by decide +kernel
theorem dX1_loadOn_56 : decode cX1_loadOn 56 = .ok (.iinc 6 1, 3) := by decide +kernel
theorem dX1_loadOn_59 : decode cX1_loadOn 59 = .ok (.goto (-43), 3) := by decide +kernel
theorem dX1_loadOn_62 : decode cX1_loadOn 62 = .ok (.iload_n 3, 1) := by decide +kernel
theorem dX1_loadOn_63 : decode cX1_loadOn 63 = .ok (.ireturn, 1) := by decide +kernel
theorem dX1_describe_0 : decode cX1_describe 0 = .ok (.aload_n 0, 1) := by decide +kernel
theorem dX1_describe_1 : decode cX1_describe 1 = .ok (.iload_n 1, 1) := by decide +kernel
theorem dX1_describe_2 : decode cX1_describe 2 = .ok (.invokevirtual 117, 3) := by decide +kernel
theorem dX1_describe_5 : decode cX1_describe 5 = .ok (.iconst 1, 1) := by decide +kernel
theorem dX1_describe_6 : decode cX1_describe 6 = .ok (.isub, 1) := by decide +kernel
theorem dX1_describe_7 : decode cX1_describe 7 = .ok (.istore_n 3, 1) := by decide +kernel
theorem dX1_describe_8 : decode cX1_describe 8 = .ok (.iload_n 3, 1) := by decide +kernel
theorem dX1_describe_9 : decode cX1_describe 9 = .ok (.ifCond .lt 30, 3) := by decide +kernel
theorem dX1_describe_12 : decode cX1_describe 12 = .ok (.aload_n 2, 1) := by decide +kernel
theorem dX1_describe_13 : decode cX1_describe 13 = .ok (.bipush 91, 2) := by decide +kernel
theorem dX1_describe_15 : decode cX1_describe 15 = .ok (.invokevirtual 190, 3) := by decide +kernel
theorem dX1_describe_18 : decode cX1_describe 18 = .ok (.pop, 1) := by decide +kernel
theorem dX1_describe_19 : decode cX1_describe 19 = .ok (.aload_n 0, 1) := by decide +kernel
theorem dX1_describe_20 : decode cX1_describe 20 = .ok (.iload_n 1, 1) := by decide +kernel
theorem dX1_describe_21 : decode cX1_describe 21 = .ok (.iload_n 3, 1) := by decide +kernel
theorem dX1_describe_22 : decode cX1_describe 22 = .ok (.aload_n 2, 1) := by decide +kernel
theorem dX1_describe_23 : decode cX1_describe 23 = .ok (.invokevirtual 196, 3) := by decide +kernel
theorem dX1_describe_26 : decode cX1_describe 26 = .ok (.aload_n 2, 1) := by decide +kernel
theorem dX1_describe_27 : decode cX1_describe 27 = .ok (.bipush 93, 2) := by decide +kernel
theorem dX1_describe_29 : decode cX1_describe 29 = .ok (.invokevirtual 190, 3) := by decide +kernel
theorem dX1_describe_32 : decode cX1_describe 32 = .ok (.pop, 1) := by decide +kernel
theorem dX1_describe_33 : decode cX1_describe 33 = .ok (.iinc 3 (-1), 3) := by decide +kernel
theorem dX1_describe_36 : decode cX1_describe 36 = .ok (.goto (-28), 3) := by decide +kernel
theorem dX1_describe_39 : decode cX1_describe 39 = .ok (.return_, 1) := by decide +kernel
theorem dX1_describeLayer_0 : decode cX1_describeLayer 0 = .ok (.aload_n 0, 1) := by decide +kernel
theorem dX1_describeLayer_1 : decode cX1_describeLayer 1 = .ok (.iload_n 1, 1) := by decide +kernel
theorem dX1_describeLayer_2 : decode cX1_describeLayer 2 = .ok (.iload_n 2, 1) := by decide +kernel
theorem dX1_describeLayer_3 : decode cX1_describeLayer 3 = .ok (.invokevirtual 139, 3) := by decide +kernel
theorem dX1_describeLayer_6 : decode cX1_describeLayer 6 = .ok (.istore 4, 2) := by decide +kernel
theorem dX1_describeLayer_8 : decode cX1_describeLayer 8 = .ok (.iconst 0, 1) := by decide +kernel
theorem dX1_describeLayer_9 : decode cX1_describeLayer 9 = .ok (.istore 5, 2) := by decide +kernel
theorem dX1_describeLayer_11 : decode cX1_describeLayer 11 = .ok (.iload 5, 2) := by decide +kernel
theorem dX1_describeLayer_13 : decode cX1_describeLayer 13 = .ok (.iload 4, 2) := by decide +kernel
theorem dX1_describeLayer_15 : decode cX1_describeLayer 15 = .ok (.if_icmp .ge 56, 3) := by decide +kernel
theorem dX1_describeLayer_18 : decode cX1_describeLayer 18 = .ok (.aload_n 0, 1) := by decide +kernel
theorem dX1_describeLayer_19 : decode cX1_describeLayer 19 = .ok (.iload_n 1, 1) := by decide +kernel
theorem dX1_describeLayer_20 : decode cX1_describeLayer 20 = .ok (.iload_n 2, 1) := by decide +kernel
theorem dX1_describeLayer_21 : decode cX1_describeLayer 21 = .ok (.iload 5, 2) := by decide +kernel
theorem dX1_describeLayer_23 : decode cX1_describeLayer 23 = .ok (.invokevirtual 200, 3) := by decide +kernel
theorem dX1_describeLayer_26 : decode cX1_describeLayer 26 = .ok (.astore 6, 2) := by decide +kernel
theorem dX1_describeLayer_28 : decode cX1_describeLayer 28 = .ok (.iload 5, 2) := by decide +kernel
theorem dX1_describeLayer_30 : decode cX1_describeLayer 30 = .ok (.ifCond .le 10, 3) := by decide +kernel
theorem dX1_describeLayer_33 : decode cX1_describeLayer 33 = .ok (.aload_n 3, 1) := by decide +kernel
theorem dX1_describeLayer_34 : decode cX1_describeLayer 34 = .ok (.bipush 32, 2) := by decide +kernel
theorem dX1_describeLayer_36 : decode cX1_describeLayer 36 = .ok (.invokevirtual 190, 3) := by decide +kernel
theorem dX1_describeLayer_39 : decode cX1_describeLayer 39 = .ok (.pop, 1) := by decide +kernel
theorem dX1_describeLayer_40 : decode cX1_describeLayer 40 = .ok (.aload_n 3, 1) := by decide +kernel
theorem dX1_describeLayer_41 : decode cX1_describeLayer 41 = .ok (.aload 6, 2) := by decide +kernel
theorem dX1_describeLayer_43 : decode cX1_describeLayer 43 = .ok (.getfield 63, 3) := by decide +kernel
theorem dX1_describeLayer_46 : decode cX1_describeLayer 46 = .ok (.invokevirtual 204, 3) := by decide +kernel
theorem dX1_describeLayer_49 : decode cX1_describeLayer 49 = .ok (.pop, 1) := by decide +kernel
theorem dX1_describeLayer_50 : decode cX1_describeLayer 50 = .ok (.aload 6, 2) := by decide +kernel
theorem dX1_describeLayer_52 : decode cX1_describeLayer 52 = .ok (.getfield 75, 3) := by decide +kernel
theorem dX1_describeLayer_55 : decode cX1_describeLayer 55 = .ok (.ifCond .eq 10, 3) := by decide +kernel
theorem dX1_describeLayer_58 : decode cX1_describeLayer 58 = .ok (.aload_n 3, 1) := by decide +kernel
theorem dX1_describeLayer_59 : decode cX1_describeLayer 59 = .ok (.bipush 33, 2) := by decide +kernel
theorem dX1_describeLayer_61 : decode cX1_describeLayer 61 = .ok (.invokevirtual 190, 3) := by decide +kernel
theorem dX1_describeLayer_64 : decode cX1_describeLayer 64 = .ok (.pop, 1) := by decide +kernel
theorem dX1_describeLayer_65 : decode cX1_describeLayer 65 = .ok (.iinc 5 1, 3) := by decide +kernel
theorem dX1_describeLayer_68 : decode cX1_describeLayer 68 = .ok (.goto (-57), 3) := by decide +kernel
theorem dX1_describeLayer_71 : decode cX1_describeLayer 71 = .ok (.return_, 1) := by decide +kernel
theorem dX1_bestBySets_0 : decode cX1_bestBySets 0 = .ok (.aload_n 0, 1) := by decide +kernel
theorem dX1_bestBySets_1 : decode cX1_bestBySets 1 = .ok (.getfield 11, 3) := by decide +kernel
theorem dX1_bestBySets_4 : decode cX1_bestBySets 4 = .ok (.iconst 0, 1) := by decide +kernel
theorem dX1_bestBySets_5 : decode cX1_bestBySets 5 = .ok (.aload_n 0, 1) := by decide +kernel
theorem dX1_bestBySets_6 : decode cX1_bestBySets 6 = .ok (.iload_n 1, 1) := by decide +kernel
theorem dX1_bestBySets_7 : decode cX1_bestBySets 7 = .ok (.invokevirtual 146, 3) := by decide +kernel
theorem dX1_bestBySets_10 : decode cX1_bestBySets 10 = .ok (.invokestatic 207, 3) := by decide +kernel
theorem dX1_bestBySets_13 : decode cX1_bestBySets 13 = .ok (.ireturn, 1) := by decide +kernel
theorem dX1_bestFrom_0 : decode cX1_bestFrom 0 = .ok (.iload_n 1, 1) := by decide +kernel
theorem dX1_bestFrom_1 : decode cX1_bestFrom 1 = .ok (.ifCond .lt 9, 3) := by decide +kernel
theorem dX1_bestFrom_4 : decode cX1_bestFrom 4 = .ok (.iload_n 1, 1) := by decide +kernel
theorem dX1_bestFrom_5 : decode cX1_bestFrom 5 = .ok (.aload_n 0, 1) := by decide +kernel
theorem dX1_bestFrom_6 : decode cX1_bestFrom 6 = .ok (.arraylength, 1) := by decide +kernel
theorem dX1_bestFrom_7 : decode cX1_bestFrom 7 = .ok (.if_icmp .lt 5, 3) := by decide +kernel
theorem dX1_bestFrom_10 : decode cX1_bestFrom 10 = .ok (.iconst 0, 1) := by decide +kernel
theorem dX1_bestFrom_11 : decode cX1_bestFrom 11 = .ok (.ireturn, 1) := by decide +kernel
theorem dX1_bestFrom_12 : decode cX1_bestFrom 12 = .ok (.aload_n 0, 1) := by decide +kernel
theorem dX1_bestFrom_13 : decode cX1_bestFrom 13 = .ok (.iload_n 1, 1) := by decide +kernel
theorem dX1_bestFrom_14 : decode cX1_bestFrom 14 = .ok (.aaload, 1) := by decide +kernel
theorem dX1_bestFrom_15 : decode cX1_bestFrom 15 = .ok (.astore_n 3, 1) := by decide +kernel
theorem dX1_bestFrom_16 : decode cX1_bestFrom 16 = .ok (.aload_n 0, 1) := by decide +kernel
theorem dX1_bestFrom_17 : decode cX1_bestFrom 17 = .ok (.iload_n 1, 1) := by decide +kernel
theorem dX1_bestFrom_18 : decode cX1_bestFrom 18 = .ok (.iconst 1, 1) := by decide +kernel
theorem dX1_bestFrom_19 : decode cX1_bestFrom 19 = .ok (.iadd, 1) := by decide +kernel
theorem dX1_bestFrom_20 : decode cX1_bestFrom 20 = .ok (.iload_n 2, 1) := by decide +kernel
theorem dX1_bestFrom_21 : decode cX1_bestFrom 21 = .ok (.invokestatic 207, 3) := by decide +kernel
theorem dX1_bestFrom_24 : decode cX1_bestFrom 24 = .ok (.istore 4, 2) := by decide +kernel
theorem dX1_bestFrom_26 : decode cX1_bestFrom 26 = .ok (.aload_n 3, 1) := by decide +kernel
theorem dX1_bestFrom_27 : decode cX1_bestFrom 27 = .ok (.invokevirtual 127, 3) := by decide +kernel
theorem dX1_bestFrom_30 : decode cX1_bestFrom 30 = .ok (.ifCond .eq 11, 3) := by decide +kernel
theorem dX1_bestFrom_33 : decode cX1_bestFrom 33 = .ok (.aload_n 3, 1) := by decide +kernel
theorem dX1_bestFrom_34 : decode cX1_bestFrom 34 = .ok (.getfield 69, 3) := by decide +kernel
theorem dX1_bestFrom_37 : decode cX1_bestFrom 37 = .ok (.iload_n 2, 1) := by decide +kernel
theorem dX1_bestFrom_38 : decode cX1_bestFrom 38 = .ok (.if_icmp .le 6, 3) := by decide +kernel
theorem dX1_bestFrom_41 : decode cX1_bestFrom 41 = .ok (.iload 4, 2) := by decide +kernel
theorem dX1_bestFrom_43 : decode cX1_bestFrom 43 = .ok (.ireturn, 1) := by decide +kernel
theorem dX1_bestFrom_44 : decode cX1_bestFrom 44 = .ok (.iload 4, 2) := by decide +kernel
theorem dX1_bestFrom_46 : decode cX1_bestFrom 46 = .ok (.aload_n 3, 1) := by decide +kernel
theorem dX1_bestFrom_47 : decode cX1_bestFrom 47 = .ok (.getfield 66, 3) := by decide +kernel
theorem dX1_bestFrom_50 : decode cX1_bestFrom 50 = .ok (.aload_n 0, 1) := by decide +kernel
theorem dX1_bestFrom_51 : decode cX1_bestFrom 51 = .ok (.iload_n 1, 1) := by decide +kernel
theorem dX1_bestFrom_52 : decode cX1_bestFrom 52 = .ok (.iconst 1, 1) := by decide +kernel
theorem dX1_bestFrom_53 : decode cX1_bestFrom 53 = .ok (.iadd, 1) := by decide +kernel
theorem dX1_bestFrom_54 : decode cX1_bestFrom 54 = .ok (.iload_n 2, 1) := by decide +kernel
theorem dX1_bestFrom_55 : decode cX1_bestFrom 55 = .ok (.aload_n 3, 1) := by decide +kernel
theorem dX1_bestFrom_56 : decode cX1_bestFrom 56 = .ok (.getfield 69, 3) := by decide +kernel
theorem dX1_bestFrom_59 : decode cX1_bestFrom 59 = .ok (.isub, 1) := by decide +kernel
theorem dX1_bestFrom_60 : decode cX1_bestFrom 60 = .ok (.invokestatic 207, 3) := by decide +kernel
theorem dX1_bestFrom_63 : decode cX1_bestFrom 63 = .ok (.iadd, 1) := by decide +kernel
theorem dX1_bestFrom_64 : decode cX1_bestFrom 64 = .ok (.invokestatic 187, 3) := by decide +kernel
theorem dX1_bestFrom_67 : decode cX1_bestFrom 67 = .ok (.ireturn, 1) := by decide +kernel
theorem dX1_bestByTable_0 : decode cX1_bestByTable 0 = .ok (.aload_n 0, 1) := by decide +kernel
theorem dX1_bestByTable_1 : decode cX1_bestByTable 1 = .ok (.iload_n 1, 1) := by decide +kernel
theorem dX1_bestByTable_2 : decode cX1_bestByTable 2 = .ok (.invokevirtual 146, 3) := by decide +kernel
theorem dX1_bestByTable_5 : decode cX1_bestByTable 5 = .ok (.istore_n 3, 1) := by decide +kernel
theorem dX1_bestByTable_6 : decode cX1_bestByTable 6 = .ok (.iload_n 3, 1) := by decide +kernel
theorem dX1_bestByTable_7 : decode cX1_bestByTable 7 = .ok (.ifCond .lt 9, 3) := by decide +kernel
theorem dX1_bestByTable_10 : decode cX1_bestByTable 10 = .ok (.iload_n 3, 1) := by decide +kernel
theorem dX1_bestByTable_11 : decode cX1_bestByTable 11 = .ok (.aload_n 2, 1) := by decide +kernel
theorem dX1_bestByTable_12 : decode cX1_bestByTable 12 = .ok (.arraylength, 1) := by decide +kernel
theorem dX1_bestByTable_13 : decode cX1_bestByTable 13 = .ok (.if_icmp .lt 5, 3) := by decide +kernel
theorem dX1_bestByTable_16 : decode cX1_bestByTable 16 = .ok (.iconst 0, 1) := by decide +kernel
theorem dX1_bestByTable_17 : decode cX1_bestByTable 17 = .ok (.ireturn, 1) := by decide +kernel
theorem dX1_bestByTable_18 : decode cX1_bestByTable 18 = .ok (.iconst 0, 1) := by decide +kernel
theorem dX1_bestByTable_19 : decode cX1_bestByTable 19 = .ok (.istore 4, 2) := by decide +kernel
theorem dX1_bestByTable_21 : decode cX1_bestByTable 21 = .ok (.iload 4, 2) := by decide +kernel
theorem dX1_bestByTable_23 : decode cX1_bestByTable 23 = .ok (.iload_n 3, 1) := by decide +kernel
theorem dX1_bestByTable_24 : decode cX1_bestByTable 24 = .ok (.if_icmp .gt 14, 3) := by decide +kernel
theorem dX1_bestByTable_27 : decode cX1_bestByTable 27 = .ok (.aload_n 2, 1) := by decide +kernel
theorem dX1_bestByTable_28 : decode cX1_bestByTable 28 = .ok (.iload 4, 2) := by decide +kernel
theorem dX1_bestByTable_30 : decode cX1_bestByTable 30 = .ok (.iconst 0, 1) := by decide +kernel
theorem dX1_bestByTable_31 : decode cX1_bestByTable 31 = .ok (.iastore, 1) := by decide +kernel
theorem dX1_bestByTable_32 : decode cX1_bestByTable 32 = .ok (.iinc 4 1, 3) := by decide +kernel
theorem dX1_bestByTable_35 : decode cX1_bestByTable 35 = .ok (.goto (-14), 3) := by decide +kernel
theorem dX1_bestByTable_38 : decode cX1_bestByTable 38 = .ok (.aload_n 0, 1) := by decide +kernel
theorem dX1_bestByTable_39 : decode cX1_bestByTable 39 = .ok (.getfield 11, 3) := by decide +kernel
theorem dX1_bestByTable_42 : decode cX1_bestByTable 42 = .ok (.astore 4, 2) := by decide +kernel
theorem dX1_bestByTable_44 : decode cX1_bestByTable 44 = .ok (.aload 4, 2) := by decide +kernel
theorem dX1_bestByTable_46 : decode cX1_bestByTable 46 = .ok (.arraylength, 1) := by decide +kernel
theorem dX1_bestByTable_47 : decode cX1_bestByTable 47 = .ok (.istore 5, 2) := by decide +kernel
theorem dX1_bestByTable_49 : decode cX1_bestByTable 49 = .ok (.iconst 0, 1) := by decide +kernel
theorem dX1_bestByTable_50 : decode cX1_bestByTable 50 = .ok (.istore 6, 2) := by decide +kernel
theorem dX1_bestByTable_52 : decode cX1_bestByTable 52 = .ok (.iload 6, 2) := by decide +kernel
theorem dX1_bestByTable_54 : decode cX1_bestByTable 54 = .ok (.iload 5, 2) := by decide +kernel
theorem dX1_bestByTable_56 : decode cX1_bestByTable 56 = .ok (.if_icmp .ge 31, 3) := by decide +kernel
theorem dX1_bestByTable_59 : decode cX1_bestByTable 59 = .ok (.aload 4, 2) := by decide +kernel
theorem dX1_bestByTable_61 : decode cX1_bestByTable 61 = .ok (.iload 6, 2) := by decide +kernel
theorem dX1_bestByTable_63 : decode cX1_bestByTable 63 = .ok (.aaload, 1) := by decide +kernel
theorem dX1_bestByTable_64 : decode cX1_bestByTable 64 = .ok (.astore 7, 2) := by decide +kernel
theorem dX1_bestByTable_66 : decode cX1_bestByTable 66 = .ok (.aload 7, 2) := by decide +kernel
