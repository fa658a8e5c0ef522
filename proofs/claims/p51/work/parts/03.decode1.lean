theorem dX1_bestByTable_68 : decode cX1_bestByTable 68 = .ok (.invokevirtual 127, 3) := by decide +kernel
theorem dX1_bestByTable_71 : decode cX1_bestByTable 71 = .ok (.ifCond .eq 10, 3) := by decide +kernel
theorem dX1_bestByTable_74 : decode cX1_bestByTable 74 = .ok (.aload_n 2, 1) := by decide +kernel
theorem dX1_bestByTable_75 : decode cX1_bestByTable 75 = .ok (.aload 7, 2) := by decide +kernel
theorem dX1_bestByTable_77 : decode cX1_bestByTable 77 = .ok (.iload_n 3, 1) := by decide +kernel
theorem dX1_bestByTable_78 : decode cX1_bestByTable 78 = .ok (.invokestatic 211, 3) := by decide +kernel
theorem dX1_bestByTable_81 : decode cX1_bestByTable 81 = .ok (.iinc 6 1, 3) := by decide +kernel
theorem dX1_bestByTable_84 : decode cX1_bestByTable 84 = .ok (.goto (-32), 3) := by decide +kernel
theorem dX1_bestByTable_87 : decode cX1_bestByTable 87 = .ok (.aload_n 2, 1) := by decide +kernel
theorem dX1_bestByTable_88 : decode cX1_bestByTable 88 = .ok (.iload_n 3, 1) := by decide +kernel
theorem dX1_bestByTable_89 : decode cX1_bestByTable 89 = .ok (.iaload, 1) := by decide +kernel
theorem dX1_bestByTable_90 : decode cX1_bestByTable 90 = .ok (.ireturn, 1) := by decide +kernel
theorem dX1_extendTable_0 : decode cX1_extendTable 0 = .ok (.iload_n 2, 1) := by decide +kernel
theorem dX1_extendTable_1 : decode cX1_extendTable 1 = .ok (.istore_n 3, 1) := by decide +kernel
theorem dX1_extendTable_2 : decode cX1_extendTable 2 = .ok (.iload_n 3, 1) := by decide +kernel
theorem dX1_extendTable_3 : decode cX1_extendTable 3 = .ok (.aload_n 1, 1) := by decide +kernel
theorem dX1_extendTable_4 : decode cX1_extendTable 4 = .ok (.getfield 69, 3) := by decide +kernel
theorem dX1_extendTable_7 : decode cX1_extendTable 7 = .ok (.if_icmp .lt 31, 3) := by decide +kernel
theorem dX1_extendTable_10 : decode cX1_extendTable 10 = .ok (.aload_n 0, 1) := by decide +kernel
theorem dX1_extendTable_11 : decode cX1_extendTable 11 = .ok (.iload_n 3, 1) := by decide +kernel
theorem dX1_extendTable_12 : decode cX1_extendTable 12 = .ok (.aload_n 0, 1) := by decide +kernel
theorem dX1_extendTable_13 : decode cX1_extendTable 13 = .ok (.iload_n 3, 1) := by decide +kernel
theorem dX1_extendTable_14 : decode cX1_extendTable 14 = .ok (.iaload, 1) := by decide +kernel
theorem dX1_extendTable_15 : decode cX1_extendTable 15 = .ok (.aload_n 0, 1) := by decide +kernel
theorem dX1_extendTable_16 : decode cX1_extendTable 16 = .ok (.iload_n 3, 1) := by decide +kernel
theorem dX1_extendTable_17 : decode cX1_extendTable 17 = .ok (.aload_n 1, 1) := by decide +kernel
theorem dX1_extendTable_18 : decode cX1_extendTable 18 = .ok (.getfield 69, 3) := by decide +kernel
theorem dX1_extendTable_21 : decode cX1_extendTable 21 = .ok (.isub, 1) := by decide +kernel
theorem dX1_extendTable_22 : decode cX1_extendTable 22 = .ok (.iaload, 1) := by decide +kernel
theorem dX1_extendTable_23 : decode cX1_extendTable 23 = .ok (.aload_n 1, 1) := by decide +kernel
theorem dX1_extendTable_24 : decode cX1_extendTable 24 = .ok (.getfield 66, 3) := by decide +kernel
theorem dX1_extendTable_27 : decode cX1_extendTable 27 = .ok (.iadd, 1) := by decide +kernel
theorem dX1_extendTable_28 : decode cX1_extendTable 28 = .ok (.invokestatic 187, 3) := by decide +kernel
theorem dX1_extendTable_31 : decode cX1_extendTable 31 = .ok (.iastore, 1) := by decide +kernel
theorem dX1_extendTable_32 : decode cX1_extendTable 32 = .ok (.iinc 3 (-1), 3) := by decide +kernel
theorem dX1_extendTable_35 : decode cX1_extendTable 35 = .ok (.goto (-33), 3) := by decide +kernel
theorem dX1_extendTable_38 : decode cX1_extendTable 38 = .ok (.return_, 1) := by decide +kernel
theorem dX3_init_0 : decode cX3_init 0 = .ok (.aload_n 0, 1) := by decide +kernel
theorem dX3_init_1 : decode cX3_init 1 = .ok (.invokespecial 3, 3) := by decide +kernel
theorem dX3_init_4 : decode cX3_init 4 = .ok (.aload_n 0, 1) := by decide +kernel
theorem dX3_init_5 : decode cX3_init 5 = .ok (.bipush 8, 2) := by decide +kernel
theorem dX3_init_7 : decode cX3_init 7 = .ok (.anewarray 9, 3) := by decide +kernel
theorem dX3_init_10 : decode cX3_init 10 = .ok (.putfield 11, 3) := by decide +kernel
theorem dX3_init_13 : decode cX3_init 13 = .ok (.iconst 0, 1) := by decide +kernel
theorem dX3_init_14 : decode cX3_init 14 = .ok (.istore_n 1, 1) := by decide +kernel
theorem dX3_init_15 : decode cX3_init 15 = .ok (.iload_n 1, 1) := by decide +kernel
theorem dX3_init_16 : decode cX3_init 16 = .ok (.aload_n 0, 1) := by decide +kernel
theorem dX3_init_17 : decode cX3_init 17 = .ok (.getfield 11, 3) := by decide +kernel
theorem dX3_init_20 : decode cX3_init 20 = .ok (.arraylength, 1) := by decide +kernel
theorem dX3_init_21 : decode cX3_init 21 = .ok (.if_icmp .ge 22, 3) := by decide +kernel
theorem dX3_init_24 : decode cX3_init 24 = .ok (.aload_n 0, 1) := by decide +kernel
theorem dX3_init_25 : decode cX3_init 25 = .ok (.getfield 11, 3) := by decide +kernel
theorem dX3_init_28 : decode cX3_init 28 = .ok (.iload_n 1, 1) := by decide +kernel
theorem dX3_init_29 : decode cX3_init 29 = .ok (.new 9, 3) := by decide +kernel
theorem dX3_init_32 : decode cX3_init 32 = .ok (.dup, 1) := by decide +kernel
theorem dX3_init_33 : decode cX3_init 33 = .ok (.invokespecial 17, 3) := by decide +kernel
theorem dX3_init_36 : decode cX3_init 36 = .ok (.aastore, 1) := by decide +kernel
theorem dX3_init_37 : decode cX3_init 37 = .ok (.iinc 1 1, 3) := by decide +kernel
theorem dX3_init_40 : decode cX3_init 40 = .ok (.goto (-25), 3) := by decide +kernel
theorem dX3_init_43 : decode cX3_init 43 = .ok (.return_, 1) := by decide +kernel
theorem dX3_push_0 : decode cX3_push 0 = .ok (.aload_n 0, 1) := by decide +kernel
theorem dX3_push_1 : decode cX3_push 1 = .ok (.getfield 18, 3) := by decide +kernel
theorem dX3_push_4 : decode cX3_push 4 = .ok (.bipush 8, 2) := by decide +kernel
theorem dX3_push_6 : decode cX3_push 6 = .ok (.if_icmp .lt 7, 3) := by decide +kernel
theorem dX3_push_9 : decode cX3_push 9 = .ok (.aload_n 0, 1) := by decide +kernel
theorem dX3_push_10 : decode cX3_push 10 = .ok (.invokevirtual 22, 3) := by decide +kernel
theorem dX3_push_13 : decode cX3_push 13 = .ok (.aload_n 0, 1) := by decide +kernel
theorem dX3_push_14 : decode cX3_push 14 = .ok (.getfield 11, 3) := by decide +kernel
theorem dX3_push_17 : decode cX3_push 17 = .ok (.aload_n 0, 1) := by decide +kernel
theorem dX3_push_18 : decode cX3_push 18 = .ok (.getfield 18, 3) := by decide +kernel
theorem dX3_push_21 : decode cX3_push 21 = .ok (.aaload, 1) := by decide +kernel
theorem dX3_push_22 : decode cX3_push 22 = .ok (.aload_n 1, 1) := by decide +kernel
theorem dX3_push_23 : decode cX3_push 23 = .ok (.invokevirtual 25, 3) := by decide +kernel
theorem dX3_push_26 : decode cX3_push 26 = .ok (.aload_n 0, 1) := by decide +kernel
theorem dX3_push_27 : decode cX3_push 27 = .ok (.dup, 1) := by decide +kernel
theorem dX3_push_28 : decode cX3_push 28 = .ok (.getfield 18, 3) := by decide +kernel
theorem dX3_push_31 : decode cX3_push 31 = .ok (.iconst 1, 1) := by decide +kernel
theorem dX3_push_32 : decode cX3_push 32 = .ok (.iadd, 1) := by decide +kernel
theorem dX3_push_33 : decode cX3_push 33 = .ok (.putfield 18, 3) := by decide +kernel
theorem dX3_push_36 : decode cX3_push 36 = .ok (.return_, 1) := by decide +kernel
theorem dX3_forgetOldest_0 : decode cX3_forgetOldest 0 = .ok (.aload_n 0, 1) := by decide +kernel
theorem dX3_forgetOldest_1 : decode cX3_forgetOldest 1 = .ok (.getfield 11, 3) := by decide +kernel
theorem dX3_forgetOldest_4 : decode cX3_forgetOldest 4 = .ok (.iconst 0, 1) := by decide +kernel
theorem dX3_forgetOldest_5 : decode cX3_forgetOldest 5 = .ok (.aaload, 1) := by decide +kernel
theorem dX3_forgetOldest_6 : decode cX3_forgetOldest 6 = .ok (.astore_n 1, 1) := by decide +kernel
theorem dX3_forgetOldest_7 : decode cX3_forgetOldest 7 = .ok (.iconst 1, 1) := by decide +kernel
theorem dX3_forgetOldest_8 : decode cX3_forgetOldest 8 = .ok (.istore_n 2, 1) := by decide +kernel
theorem dX3_forgetOldest_9 : decode cX3_forgetOldest 9 = .ok (.iload_n 2, 1) := by decide +kernel
theorem dX3_forgetOldest_10 : decode cX3_forgetOldest 10 = .ok (.bipush 8, 2) := by decide +kernel
theorem dX3_forgetOldest_12 : decode cX3_forgetOldest 12 = .ok (.if_icmp .ge 23, 3) := by decide +kernel
theorem dX3_forgetOldest_15 : decode cX3_forgetOldest 15 = .ok (.aload_n 0, 1) := by decide +kernel
theorem dX3_forgetOldest_16 : decode cX3_forgetOldest 16 = .ok (.getfield 11, 3) := by decide +kernel
theorem dX3_forgetOldest_19 : decode cX3_forgetOldest 19 = .ok (.iload_n 2, 1) := by decide +kernel
theorem dX3_forgetOldest_20 : decode cX3_forgetOldest 20 = .ok (.iconst 1, 1) := by decide +kernel
theorem dX3_forgetOldest_21 : decode cX3_forgetOldest 21 = .ok (.isub, 1) := by decide +kernel
theorem dX3_forgetOldest_22 : decode cX3_forgetOldest 22 = .ok (.aload_n 0, 1) := by decide +kernel
theorem dX3_forgetOldest_23 : decode cX3_forgetOldest 23 = .ok (.getfield 11, 3) := by decide +kernel
theorem dX3_forgetOldest_26 : decode cX3_forgetOldest 26 = .ok (.iload_n 2, 1) := by decide +kernel
theorem dX3_forgetOldest_27 : decode cX3_forgetOldest 27 = .ok (.aaload, 1) := by decide +kernel
theorem dX3_forgetOldest_28 : decode cX3_forgetOldest 28 = .ok (.aastore, 1) := by decide +kernel
theorem dX3_forgetOldest_29 : decode cX3_forgetOldest 29 = .ok (.iinc 2 1, 3) := by decide +kernel
theorem dX3_forgetOldest_32 : decode cX3_forgetOldest 32 = .ok (.goto (-23), 3) := by decide +kernel
theorem dX3_forgetOldest_35 : decode cX3_forgetOldest 35 = .ok (.aload_n 0, 1) := by decide +kernel
theorem dX3_forgetOldest_36 : decode cX3_forgetOldest 36 = .ok (.getfield 11, 3) := by decide +kernel
theorem dX3_forgetOldest_39 : decode cX3_forgetOldest 39 = .ok (.bipush 7, 2) := by decide +kernel
theorem dX3_forgetOldest_41 : decode cX3_forgetOldest 41 = .ok (.aload_n 1, 1) := by decide +kernel
theorem dX3_forgetOldest_42 : decode cX3_forgetOldest 42 = .ok (.aastore, 1) := by decide +kernel
theorem dX3_forgetOldest_43 : decode cX3_forgetOldest 43 = .ok (.aload_n 0, 1) := by decide +kernel
theorem dX3_forgetOldest_44 : decode cX3_forgetOldest 44 = .ok (.bipush 7, 2) := by decide +kernel
theorem dX3_forgetOldest_46 : decode cX3_forgetOldest 46 = .ok (.putfield 18, 3) := by decide +kernel
theorem dX3_forgetOldest_49 : decode cX3_forgetOldest 49 = .ok (.return_, 1) := by decide +kernel
theorem dX3_popInto_0 : decode cX3_popInto 0 = .ok (.aload_n 0, 1) := by decide +kernel
theorem dX3_popInto_1 : decode cX3_popInto 1 = .ok (.getfield 18, 3) := by decide +kernel
theorem dX3_popInto_4 : decode cX3_popInto 4 = .ok (.ifCond .le 26, 3) := by decide +kernel
theorem dX3_popInto_7 : decode cX3_popInto 7 = .ok (.aload_n 0, 1) := by decide +kernel
theorem dX3_popInto_8 : decode cX3_popInto 8 = .ok (.dup, 1) := by decide +kernel
theorem dX3_popInto_9 : decode cX3_popInto 9 = .ok (.getfield 18, 3) := by decide +kernel
theorem dX3_popInto_12 : decode cX3_popInto 12 = .ok (.iconst 1, 1) := by decide +kernel
theorem dX3_popInto_13 : decode cX3_popInto 13 = .ok (.isub, 1) := by decide +kernel
theorem dX3_popInto_14 : decode cX3_popInto 14 = .ok (.putfield 18, 3) := by decide +kernel
theorem dX3_popInto_17 : decode cX3_popInto 17 = .ok (.aload_n 1, 1) := by decide +kernel
theorem dX3_popInto_18 : decode cX3_popInto 18 = .ok (.aload_n 0, 1) := by decide +kernel
theorem dX3_popInto_19 : decode cX3_popInto 19 = .ok (.getfield 11, 3) := by decide +kernel
theorem dX3_popInto_22 : decode cX3_popInto 22 = .ok (.aload_n 0, 1) := by decide +kernel
theorem dX3_popInto_23 : decode cX3_popInto 23 = .ok (.getfield 18, 3) := by decide +kernel
theorem dX3_popInto_26 : decode cX3_popInto 26 = .ok (.aaload, 1) := by decide +kernel
theorem dX3_popInto_27 : decode cX3_popInto 27 = .ok (.invokevirtual 25, 3) := by decide +kernel
theorem dX3_popInto_30 : decode cX3_popInto 30 = .ok (.return_, 1) := by decide +kernel
theorem dX3_clear_0 : decode cX3_clear 0 = .ok (.aload_n 0, 1) := by decide +kernel
theorem dX3_clear_1 : decode cX3_clear 1 = .ok (.iconst 0, 1) := by decide +kernel
theorem dX3_clear_2 : decode cX3_clear 2 = .ok (.putfield 18, 3) := by decide +kernel
theorem dX3_clear_5 : decode cX3_clear 5 = .ok (.return_, 1) := by decide +kernel
theorem dX4_init_0 : decode cX4_init 0 = .ok (.aload_n 0, 1) := by decide +kernel
theorem dX4_init_1 : decode cX4_init 1 = .ok (.invokespecial 1, 3) := by decide +kernel
theorem dX4_init_4 : decode cX4_init 4 = .ok (.aload_n 0, 1) := by decide +kernel
theorem dX4_init_5 : decode cX4_init 5 = .ok (.bipush (-2), 2) := by decide +kernel
theorem dX4_init_7 : decode cX4_init 7 = .ok (.putfield 9, 3) := by decide +kernel
theorem dX4_init_10 : decode cX4_init 10 = .ok (.return_, 1) := by decide +kernel
theorem dX4_isThere_0 : decode cX4_isThere 0 = .ok (.aload_n 0, 1) := by decide +kernel
theorem dX4_isThere_1 : decode cX4_isThere 1 = .ok (.getfield 9, 3) := by decide +kernel
theorem dX4_isThere_4 : decode cX4_isThere 4 = .ok (.bipush (-2), 2) := by decide +kernel
theorem dX4_isThere_6 : decode cX4_isThere 6 = .ok (.if_icmp .eq 7, 3) := by decide +kernel
theorem dX4_isThere_9 : decode cX4_isThere 9 = .ok (.iconst 1, 1) := by decide +kernel
theorem dX4_isThere_10 : decode cX4_isThere 10 = .ok (.goto 4, 3) := by decide +kernel
theorem dX4_isThere_13 : decode cX4_isThere 13 = .ok (.iconst 0, 1) := by decide +kernel
theorem dX4_isThere_14 : decode cX4_isThere 14 = .ok (.ireturn, 1) := by decide +kernel
theorem dX4_isInDepot_0 : decode cX4_isInDepot 0 = .ok (.aload_n 0, 1) := by decide +kernel
theorem dX4_isInDepot_1 : decode cX4_isInDepot 1 = .ok (.getfield 9, 3) := by decide +kernel
theorem dX4_isInDepot_4 : decode cX4_isInDepot 4 = .ok (.iconst (-1), 1) := by decide +kernel
theorem dX4_isInDepot_5 : decode cX4_isInDepot 5 = .ok (.if_icmp .ne 7, 3) := by decide +kernel
theorem dX4_isInDepot_8 : decode cX4_isInDepot 8 = .ok (.iconst 1, 1) := by decide +kernel
theorem dX4_isInDepot_9 : decode cX4_isInDepot 9 = .ok (.goto 4, 3) := by decide +kernel
theorem dX4_isInDepot_12 : decode cX4_isInDepot 12 = .ok (.iconst 0, 1) := by decide +kernel
theorem dX4_isInDepot_13 : decode cX4_isInDepot 13 = .ok (.ireturn, 1) := by decide +kernel
theorem dX4_isInBag_0 : decode cX4_isInBag 0 = .ok (.aload_n 0, 1) := by decide +kernel
theorem dX4_isInBag_1 : decode cX4_isInBag 1 = .ok (.getfield 9, 3) := by decide +kernel
theorem dX4_isInBag_4 : decode cX4_isInBag 4 = .ok (.ifCond .lt 7, 3) := by decide +kernel
theorem dX4_isInBag_7 : decode cX4_isInBag 7 = .ok (.iconst 1, 1) := by decide +kernel
theorem dX4_isInBag_8 : decode cX4_isInBag 8 = .ok (.goto 4, 3) := by decide +kernel
theorem dX4_isInBag_11 : decode cX4_isInBag 11 = .ok (.iconst 0, 1) := by decide +kernel
theorem dX4_isInBag_12 : decode cX4_isInBag 12 = .ok (.ireturn, 1) := by decide +kernel
theorem dX4_ranksBefore_0 : decode cX4_ranksBefore 0 = .ok (.aload_n 0, 1) := by decide +kernel
theorem dX4_ranksBefore_1 : decode cX4_ranksBefore 1 = .ok (.getfield 13, 3) := by decide +kernel
theorem dX4_ranksBefore_4 : decode cX4_ranksBefore 4 = .ok (.aload_n 1, 1) := by decide +kernel
theorem dX4_ranksBefore_5 : decode cX4_ranksBefore 5 = .ok (.getfield 13, 3) := by decide +kernel
theorem dX4_ranksBefore_8 : decode cX4_ranksBefore 8 = .ok (.if_icmp .eq 20, 3) := by decide +kernel
theorem dX4_ranksBefore_11 : decode cX4_ranksBefore 11 = .ok (.aload_n 0, 1) := by decide +kernel
theorem dX4_ranksBefore_12 : decode cX4_ranksBefore 12 = .ok (.getfield 13, 3) := by decide +kernel
theorem dX4_ranksBefore_15 : decode cX4_ranksBefore 15 = .ok (.aload_n 1, 1) := by decide +kernel
theorem dX4_ranksBefore_16 : decode cX4_ranksBefore 16 = .ok (.getfield 13, 3) := by decide +kernel
theorem dX4_ranksBefore_19 : decode cX4_ranksBefore 19 = .ok (.if_icmp .le 7, 3) := by decide +kernel
theorem dX4_ranksBefore_22 : decode cX4_ranksBefore 22 = .ok (.iconst 1, 1) := by decide +kernel
theorem dX4_ranksBefore_23 : decode cX4_ranksBefore 23 = .ok (.goto 4, 3) := by decide +kernel
theorem dX4_ranksBefore_26 : decode cX4_ranksBefore 26 = .ok (.iconst 0, 1) := by decide +kernel
theorem dX4_ranksBefore_27 : decode cX4_ranksBefore 27 = .ok (.ireturn, 1) := by decide +kernel
theorem dX4_ranksBefore_28 : decode cX4_ranksBefore 28 = .ok (.aload_n 0, 1) := by decide +kernel
theorem dX4_ranksBefore_29 : decode cX4_ranksBefore 29 = .ok (.getfield 16, 3) := by decide +kernel
theorem dX4_ranksBefore_32 : decode cX4_ranksBefore 32 = .ok (.aload_n 1, 1) := by decide +kernel
theorem dX4_ranksBefore_33 : decode cX4_ranksBefore 33 = .ok (.getfield 16, 3) := by decide +kernel
theorem dX4_ranksBefore_36 : decode cX4_ranksBefore 36 = .ok (.if_icmp .eq 20, 3) := by decide +kernel
theorem dX4_ranksBefore_39 : decode cX4_ranksBefore 39 = .ok (.aload_n 0, 1) := by decide +kernel
theorem dX4_ranksBefore_40 : decode cX4_ranksBefore 40 = .ok (.getfield 16, 3) := by decide +kernel
theorem dX4_ranksBefore_43 : decode cX4_ranksBefore 43 = .ok (.aload_n 1, 1) := by decide +kernel
theorem dX4_ranksBefore_44 : decode cX4_ranksBefore 44 = .ok (.getfield 16, 3) := by decide +kernel
theorem dX4_ranksBefore_47 : decode cX4_ranksBefore 47 = .ok (.if_icmp .le 7, 3) := by decide +kernel
theorem dX4_ranksBefore_50 : decode cX4_ranksBefore 50 = .ok (.iconst 1, 1) := by decide +kernel
theorem dX4_ranksBefore_51 : decode cX4_ranksBefore 51 = .ok (.goto 4, 3) := by decide +kernel
theorem dX4_ranksBefore_54 : decode cX4_ranksBefore 54 = .ok (.iconst 0, 1) := by decide +kernel
theorem dX4_ranksBefore_55 : decode cX4_ranksBefore 55 = .ok (.ireturn, 1) := by decide +kernel
theorem dX4_ranksBefore_56 : decode cX4_ranksBefore 56 = .ok (.aload_n 0, 1) := by decide +kernel
theorem dX4_ranksBefore_57 : decode cX4_ranksBefore 57 = .ok (.getfield 19, 3) := by decide +kernel
theorem dX4_ranksBefore_60 : decode cX4_ranksBefore 60 = .ok (.aload_n 1, 1) := by decide +kernel
theorem dX4_ranksBefore_61 : decode cX4_ranksBefore 61 = .ok (.getfield 19, 3) := by decide +kernel
theorem dX4_ranksBefore_64 : decode cX4_ranksBefore 64 = .ok (.if_icmp .ge 7, 3) := by decide +kernel
theorem dX4_ranksBefore_67 : decode cX4_ranksBefore 67 = .ok (.iconst 1, 1) := by decide +kernel
theorem dX4_ranksBefore_68 : decode cX4_ranksBefore 68 = .ok (.goto 4, 3) := by decide +kernel
theorem dX4_ranksBefore_71 : decode cX4_ranksBefore 71 = .ok (.iconst 0, 1) := by decide +kernel
theorem dX4_ranksBefore_72 : decode cX4_ranksBefore 72 = .ok (.ireturn, 1) := by decide +kernel
theorem dX4_copyFrom_0 : decode cX4_copyFrom 0 = .ok (.aload_n 0, 1) := by decide +kernel
theorem dX4_copyFrom_1 : decode cX4_copyFrom 1 = .ok (.aload_n 1, 1) := by decide +kernel
theorem dX4_copyFrom_2 : decode cX4_copyFrom 2 = .ok (.getfield 19, 3) := by decide +kernel
theorem dX4_copyFrom_5 : decode cX4_copyFrom 5 = .ok (.putfield 19, 3) := by decide +kernel
theorem dX4_copyFrom_8 : decode cX4_copyFrom 8 = .ok (.aload_n 0, 1) := by decide +kernel
theorem dX4_copyFrom_9 : decode cX4_copyFrom 9 = .ok (.aload_n 1, 1) := by decide +kernel
theorem dX4_copyFrom_10 : decode cX4_copyFrom 10 = .ok (.getfield 22, 3) := by decide +kernel
theorem dX4_copyFrom_13 : decode cX4_copyFrom 13 = .ok (.putfield 22, 3) := by decide +kernel
theorem dX4_copyFrom_16 : decode cX4_copyFrom 16 = .ok (.aload_n 0, 1) := by decide +kernel
theorem dX4_copyFrom_17 : decode cX4_copyFrom 17 = .ok (.aload_n 1, 1) := by decide +kernel
theorem dX4_copyFrom_18 : decode cX4_copyFrom 18 = .ok (.getfield 16, 3) := by decide +kernel
theorem dX4_copyFrom_21 : decode cX4_copyFrom 21 = .ok (.putfield 16, 3) := by decide +kernel
theorem dX4_copyFrom_24 : decode cX4_copyFrom 24 = .ok (.aload_n 0, 1) := by decide +kernel
theorem dX4_copyFrom_25 : decode cX4_copyFrom 25 = .ok (.aload_n 1, 1) := by decide +kernel
theorem dX4_copyFrom_26 : decode cX4_copyFrom 26 = .ok (.getfield 13, 3) := by decide +kernel
theorem dX4_copyFrom_29 : decode cX4_copyFrom 29 = .ok (.putfield 13, 3) := by decide +kernel
theorem dX4_copyFrom_32 : decode cX4_copyFrom 32 = .ok (.aload_n 0, 1) := by decide +kernel
theorem dX4_copyFrom_33 : decode cX4_copyFrom 33 = .ok (.aload_n 1, 1) := by decide +kernel
theorem dX4_copyFrom_34 : decode cX4_copyFrom 34 = .ok (.getfield 25, 3) := by decide +kernel
theorem dX4_copyFrom_37 : decode cX4_copyFrom 37 = .ok (.putfield 25, 3) := by decide +kernel
theorem dX4_copyFrom_40 : decode cX4_copyFrom 40 = .ok (.aload_n 0, 1) := by decide +kernel
theorem dX4_copyFrom_41 : decode cX4_copyFrom 41 = .ok (.aload_n 1, 1) := by decide +kernel
theorem dX4_copyFrom_42 : decode cX4_copyFrom 42 = .ok (.getfield 9, 3) := by decide +kernel
theorem dX4_copyFrom_45 : decode cX4_copyFrom 45 = .ok (.putfield 9, 3) := by decide +kernel
theorem dX4_copyFrom_48 : decode cX4_copyFrom 48 = .ok (.aload_n 0, 1) := by decide +kernel
theorem dX4_copyFrom_49 : decode cX4_copyFrom 49 = .ok (.aload_n 1, 1) := by decide +kernel
theorem dX4_copyFrom_50 : decode cX4_copyFrom 50 = .ok (.getfield 29, 3) := by decide +kernel
theorem dX4_copyFrom_53 : decode cX4_copyFrom 53 = .ok (.putfield 29, 3) := by decide +kernel
theorem dX4_copyFrom_56 : decode cX4_copyFrom 56 = .ok (.aload_n 0, 1) := by decide +kernel
theorem dX4_copyFrom_57 : decode cX4_copyFrom 57 = .ok (.aload_n 1, 1) := by decide +kernel
theorem dX4_copyFrom_58 : decode cX4_copyFrom 58 = .ok (.getfield 32, 3) := by decide +kernel
theorem dX4_copyFrom_61 : decode cX4_copyFrom 61 = .ok (.putfield 32, 3) := by decide +kernel
theorem dX4_copyFrom_64 : decode cX4_copyFrom 64 = .ok (.return_, 1) := by decide +kernel
theorem dX6_init_0 : decode cX6_init 0 = .ok (.aload_n 0, 1) := by decide +kernel
theorem dX6_init_1 : decode cX6_init 1 = .ok (.invokespecial 3, 3) := by decide +kernel
theorem dX6_init_4 : decode cX6_init 4 = .ok (.aload_n 0, 1) := by decide +kernel
theorem dX6_init_5 : decode cX6_init 5 = .ok (.bipush 60, 2) := by decide +kernel
theorem dX6_init_7 : decode cX6_init 7 = .ok (.newarray .char, 2) := by decide +kernel
theorem dX6_init_9 : decode cX6_init 9 = .ok (.putfield 9, 3) := by decide +kernel
theorem dX6_init_12 : decode cX6_init 12 = .ok (.aload_n 0, 1) := by decide +kernel
theorem dX6_init_13 : decode cX6_init 13 = .ok (.getstatic 15, 3) := by decide +kernel
theorem dX6_init_16 : decode cX6_init 16 = .ok (.putfield 21, 3) := by decide +kernel
theorem dX6_init_19 : decode cX6_init 19 = .ok (.aload_n 0, 1) := by decide +kernel
theorem dX6_init_20 : decode cX6_init 20 = .ok (.iconst 3, 1) := by decide +kernel
theorem dX6_init_21 : decode cX6_init 21 = .ok (.newarray .int, 2) := by decide +kernel
theorem dX6_init_23 : decode cX6_init 23 = .ok (.putfield 24, 3) := by decide +kernel
theorem dX6_init_26 : decode cX6_init 26 = .ok (.return_, 1) := by decide +kernel
theorem dX6_isFull_0 : decode cX6_isFull 0 = .ok (.aload_n 0, 1) := by decide +kernel
theorem dX6_isFull_1 : decode cX6_isFull 1 = .ok (.getfield 28, 3) := by decide +kernel
theorem dX6_isFull_4 : decode cX6_isFull 4 = .ok (.aload_n 0, 1) := by decide +kernel
theorem dX6_isFull_5 : decode cX6_isFull 5 = .ok (.getfield 9, 3) := by decide +kernel
theorem dX6_isFull_8 : decode cX6_isFull 8 = .ok (.arraylength, 1) := by decide +kernel
theorem dX6_isFull_9 : decode cX6_isFull 9 = .ok (.if_icmp .lt 7, 3) := by decide +kernel
theorem dX6_isFull_12 : decode cX6_isFull 12 = .ok (.iconst 1, 1) := by decide +kernel
theorem dX6_isFull_13 : decode cX6_isFull 13 = .ok (.goto 4, 3) := by decide +kernel
theorem dX6_isFull_16 : decode cX6_isFull 16 = .ok (.iconst 0, 1) := by decide +kernel
theorem dX6_isFull_17 : decode cX6_isFull 17 = .ok (.ireturn, 1) := by decide +kernel
theorem dX6_append_0 : decode cX6_append 0 = .ok (.aload_n 0, 1) := by decide +kernel
theorem dX6_append_1 : decode cX6_append 1 = .ok (.invokevirtual 32, 3) := by decide +kernel
theorem dX6_append_4 : decode cX6_append 4 = .ok (.ifCond .ne 23, 3) := by decide +kernel
theorem dX6_append_7 : decode cX6_append 7 = .ok (.aload_n 0, 1) := by decide +kernel
theorem dX6_append_8 : decode cX6_append 8 = .ok (.getfield 9, 3) := by decide +kernel
theorem dX6_append_11 : decode cX6_append 11 = .ok (.aload_n 0, 1) := by decide +kernel
theorem dX6_append_12 : decode cX6_append 12 = .ok (.getfield 28, 3) := by decide +kernel
theorem dX6_append_15 : decode cX6_append 15 = .ok (.iload_n 1, 1) := by decide +kernel
theorem dX6_append_16 : decode cX6_append 16 = .ok (.castore, 1) := by decide +kernel
theorem dX6_append_17 : decode cX6_append 17 = .ok (.aload_n 0, 1) := by decide +kernel
theorem dX6_append_18 : decode cX6_append 18 = .ok (.dup, 1) := by decide +kernel
theorem dX6_append_19 : decode cX6_append 19 = .ok (.getfield 28, 3) := by decide +kernel
theorem dX6_append_22 : decode cX6_append 22 = .ok (.iconst 1, 1) := by decide +kernel
theorem dX6_append_23 : decode cX6_append 23 = .ok (.iadd, 1) := by decide +kernel
theorem dX6_append_24 : decode cX6_append 24 = .ok (.putfield 28, 3) := by decide +kernel
theorem dX6_append_27 : decode cX6_append 27 = .ok (.aload_n 0, 1) := by decide +kernel
theorem dX6_append_28 : decode cX6_append 28 = .ok (.getfield 28, 3) := by decide +kernel
theorem dX6_append_31 : decode cX6_append 31 = .ok (.ireturn, 1) := by decide +kernel
theorem dX6_clear_0 : decode cX6_clear 0 = .ok (.aload_n 0, 1) := by decide +kernel
theorem dX6_clear_1 : decode cX6_clear 1 = .ok (.iconst 0, 1) := by decide +kernel
theorem dX6_clear_2 : decode cX6_clear 2 = .ok (.putfield 28, 3) := by decide +kernel
theorem dX6_clear_5 : decode cX6_clear 5 = .ok (.return_, 1) := by decide +kernel
theorem dX6_rewind_0 : decode cX6_rewind 0 = .ok (.aload_n 0, 1) := by decide +kernel
theorem dX6_rewind_1 : decode cX6_rewind 1 = .ok (.iconst 0, 1) := by decide +kernel
theorem dX6_rewind_2 : decode cX6_rewind 2 = .ok (.putfield 36, 3) := by decide +kernel
theorem dX6_rewind_5 : decode cX6_rewind 5 = .ok (.return_, 1) := by decide +kernel
theorem dX6_countCommands_0 : decode cX6_countCommands 0 = .ok (.aload_n 0, 1) := by decide +kernel
theorem dX6_countCommands_1 : decode cX6_countCommands 1 = .ok (.invokevirtual 39, 3) := by decide +kernel
theorem dX6_countCommands_4 : decode cX6_countCommands 4 = .ok (.iconst 1, 1) := by decide +kernel
theorem dX6_countCommands_5 : decode cX6_countCommands 5 = .ok (.istore_n 1, 1) := by decide +kernel
theorem dX6_countCommands_6 : decode cX6_countCommands 6 = .ok (.iload_n 1, 1) := by decide +kernel
theorem dX6_countCommands_7 : decode cX6_countCommands 7 = .ok (.bipush 60, 2) := by decide +kernel
theorem dX6_countCommands_9 : decode cX6_countCommands 9 = .ok (.if_icmp .gt 42, 3) := by decide +kernel
theorem dX6_countCommands_12 : decode cX6_countCommands 12 = .ok (.aload_n 0, 1) := by decide +kernel
theorem dX6_countCommands_13 : decode cX6_countCommands 13 = .ok (.invokevirtual 42, 3) := by decide +kernel
theorem dX6_countCommands_16 : decode cX6_countCommands 16 = .ok (.ifCond .ne 5, 3) := by decide +kernel
theorem dX6_countCommands_19 : decode cX6_countCommands 19 = .ok (.iconst (-1), 1) := by decide +kernel
theorem dX6_countCommands_20 : decode cX6_countCommands 20 = .ok (.ireturn, 1) := by decide +kernel
theorem dX6_countCommands_21 : decode cX6_countCommands 21 = .ok (.aload_n 0, 1) := by decide +kernel
theorem dX6_countCommands_22 : decode cX6_countCommands 22 = .ok (.getfield 36, 3) := by decide +kernel
theorem dX6_countCommands_25 : decode cX6_countCommands 25 = .ok (.aload_n 0, 1) := by decide +kernel
theorem dX6_countCommands_26 : decode cX6_countCommands 26 = .ok (.getfield 28, 3) := by decide +kernel
theorem dX6_countCommands_29 : decode cX6_countCommands 29 = .ok (.if_icmp .lt 5, 3) := by decide +kernel
theorem dX6_countCommands_32 : decode cX6_countCommands 32 = .ok (.iload_n 1, 1) := by decide +kernel
theorem dX6_countCommands_33 : decode cX6_countCommands 33 = .ok (.ireturn, 1) := by decide +kernel
theorem dX6_countCommands_34 : decode cX6_countCommands 34 = .ok (.aload_n 0, 1) := by decide +kernel
theorem dX6_countCommands_35 : decode cX6_countCommands 35 = .ok (.bipush 59, 2) := by decide +kernel
theorem dX6_countCommands_37 : decode cX6_countCommands 37 = .ok (.invokevirtual 45, 3) := by decide +kernel
theorem dX6_countCommands_40 : decode cX6_countCommands 40 = .ok (.ifCond .ne 5, 3) := by decide +kernel
theorem dX6_countCommands_43 : decode cX6_countCommands 43 = .ok (.iconst (-1), 1) := by decide +kernel
theorem dX6_countCommands_44 : decode cX6_countCommands 44 = .ok (.ireturn, 1) := by decide +kernel
theorem dX6_countCommands_45 : decode cX6_countCommands 45 = .ok (.iinc 1 1, 3) := by decide +kernel
theorem dX6_countCommands_48 : decode cX6_countCommands 48 = .ok (.goto (-42), 3) := by decide +kernel
theorem dX6_countCommands_51 : decode cX6_countCommands 51 = .ok (.iconst (-1), 1) := by decide +kernel
theorem dX6_countCommands_52 : decode cX6_countCommands 52 = .ok (.ireturn, 1) := by decide +kernel
theorem dX6_readCommand_0 : decode cX6_readCommand 0 = .ok (.aload_n 0, 1) := by decide +kernel
theorem dX6_readCommand_1 : decode cX6_readCommand 1 = .ok (.getfield 36, 3) := by decide +kernel
theorem dX6_readCommand_4 : decode cX6_readCommand 4 = .ok (.istore_n 1, 1) := by decide +kernel
theorem dX6_readCommand_5 : decode cX6_readCommand 5 = .ok (.iload_n 1, 1) := by decide +kernel
theorem dX6_readCommand_6 : decode cX6_readCommand 6 = .ok (.istore_n 2, 1) := by decide +kernel
theorem dX6_readCommand_7 : decode cX6_readCommand 7 = .ok (.getstatic 49, 3) := by decide +kernel
theorem dX6_readCommand_10 : decode cX6_readCommand 10 = .ok (.astore_n 3, 1) := by decide +kernel
theorem dX6_readCommand_11 : decode cX6_readCommand 11 = .ok (.aload_n 3, 1) := by decide +kernel
theorem dX6_readCommand_12 : decode cX6_readCommand 12 = .ok (.arraylength, 1) := by decide +kernel
theorem dX6_readCommand_13 : decode cX6_readCommand 13 = .ok (.istore 4, 2) := by decide +kernel
theorem dX6_readCommand_15 : decode cX6_readCommand 15 = .ok (.iconst 0, 1) := by decide +kernel
theorem dX6_readCommand_16 : decode cX6_readCommand 16 = .ok (.istore 5, 2) := by decide +kernel
theorem dX6_readCommand_18 : decode cX6_readCommand 18 = .ok (.iload 5, 2) := by decide +kernel
theorem dX6_readCommand_20 : decode cX6_readCommand 20 = .ok (.iload 4, 2) := by decide +kernel
theorem dX6_readCommand_22 : decode cX6_readCommand 22 = .ok (.if_icmp .ge 49, 3) := by decide +kernel
theorem dX6_readCommand_25 : decode cX6_readCommand 25 = .ok (.aload_n 3, 1) := by decide +kernel
theorem dX6_readCommand_26 : decode cX6_readCommand 26 = .ok (.iload 5, 2) := by decide +kernel
theorem dX6_readCommand_28 : decode cX6_readCommand 28 = .ok (.aaload, 1) := by decide +kernel
theorem dX6_readCommand_29 : decode cX6_readCommand 29 = .ok (.astore 6, 2) := by decide +kernel
theorem dX6_readCommand_31 : decode cX6_readCommand 31 = .ok (.aload_n 0, 1) := by decide +kernel
theorem dX6_readCommand_32 : decode cX6_readCommand 32 = .ok (.iload_n 1, 1) := by decide +kernel
theorem dX6_readCommand_33 : decode cX6_readCommand 33 = .ok (.putfield 36, 3) := by decide +kernel
theorem dX6_readCommand_36 : decode cX6_readCommand 36 = .ok (.aload_n 0, 1) := by decide +kernel
theorem dX6_readCommand_37 : decode cX6_readCommand 37 = .ok (.aload 6, 2) := by decide +kernel
theorem dX6_readCommand_39 : decode cX6_readCommand 39 = .ok (.getfield 53, 3) := by decide +kernel
theorem dX6_readCommand_42 : decode cX6_readCommand 42 = .ok (.invokevirtual 57, 3) := by decide +kernel
theorem dX6_readCommand_45 : decode cX6_readCommand 45 = .ok (.ifCond .eq 11, 3) := by decide +kernel
theorem dX6_readCommand_48 : decode cX6_readCommand 48 = .ok (.aload_n 0, 1) := by decide +kernel
theorem dX6_readCommand_49 : decode cX6_readCommand 49 = .ok (.aload 6, 2) := by decide +kernel
theorem dX6_readCommand_51 : decode cX6_readCommand 51 = .ok (.putfield 21, 3) := by decide +kernel
theorem dX6_readCommand_54 : decode cX6_readCommand 54 = .ok (.iconst 1, 1) := by decide +kernel
theorem dX6_readCommand_55 : decode cX6_readCommand 55 = .ok (.ireturn, 1) := by decide +kernel
theorem dX6_readCommand_56 : decode cX6_readCommand 56 = .ok (.iload_n 2, 1) := by decide +kernel
theorem dX6_readCommand_57 : decode cX6_readCommand 57 = .ok (.aload_n 0, 1) := by decide +kernel
theorem dX6_readCommand_58 : decode cX6_readCommand 58 = .ok (.getfield 36, 3) := by decide +kernel
theorem dX6_readCommand_61 : decode cX6_readCommand 61 = .ok (.invokestatic 61, 3) := by decide +kernel
theorem dX6_readCommand_64 : decode cX6_readCommand 64 = .ok (.istore_n 2, 1) := by decide +kernel
theorem dX6_readCommand_65 : decode cX6_readCommand 65 = .ok (.iinc 5 1, 3) := by decide +kernel
theorem dX6_readCommand_68 : decode cX6_readCommand 68 = .ok (.goto (-50), 3) := by decide +kernel
theorem dX6_readCommand_71 : decode cX6_readCommand 71 = .ok (.aload_n 0, 1) := by decide +kernel
theorem dX6_readCommand_72 : decode cX6_readCommand 72 = .ok (.iload_n 2, 1) := by decide +kernel
theorem dX6_readCommand_73 : decode cX6_readCommand 73 = .ok (.putfield 36, 3) := by decide +kernel
theorem dX6_readCommand_76 : decode cX6_readCommand 76 = .ok (.iconst 0, 1) := by decide +kernel
theorem dX6_readCommand_77 : decode cX6_readCommand 77 = .ok (.ireturn, 1) := by decide +kernel
theorem dX6_readPattern_0 : decode cX6_readPattern 0 = .ok (.aload_n 0, 1) := by decide +kernel
theorem dX6_readPattern_1 : decode cX6_readPattern 1 = .ok (.iconst 0, 1) := by decide +kernel
theorem dX6_readPattern_2 : decode cX6_readPattern 2 = .ok (.putfield 67, 3) := by decide +kernel
theorem dX6_readPattern_5 : decode cX6_readPattern 5 = .ok (.aload_n 0, 1) := by decide +kernel
theorem dX6_readPattern_6 : decode cX6_readPattern 6 = .ok (.iconst 0, 1) := by decide +kernel
theorem dX6_readPattern_7 : decode cX6_readPattern 7 = .ok (.putfield 70, 3) := by decide +kernel
theorem dX6_readPattern_10 : decode cX6_readPattern 10 = .ok (.iconst 0, 1) := by decide +kernel
theorem dX6_readPattern_11 : decode cX6_readPattern 11 = .ok (.istore_n 2, 1) := by decide +kernel
theorem dX6_readPattern_12 : decode cX6_readPattern 12 = .ok (.iload_n 2, 1) := by decide +kernel
theorem dX6_readPattern_13 : decode cX6_readPattern 13 = .ok (.aload_n 1, 1) := by decide +kernel
theorem dX6_readPattern_14 : decode cX6_readPattern 14 = .ok (.invokevirtual 74, 3) := by decide +kernel
theorem dX6_readPattern_17 : decode cX6_readPattern 17 = .ok (.if_icmp .ge 23, 3) := by decide +kernel
theorem dX6_readPattern_20 : decode cX6_readPattern 20 = .ok (.aload_n 0, 1) := by decide +kernel
theorem dX6_readPattern_21 : decode cX6_readPattern 21 = .ok (.aload_n 1, 1) := by decide +kernel
theorem dX6_readPattern_22 : decode cX6_readPattern 22 = .ok (.iload_n 2, 1) := by decide +kernel
theorem dX6_readPattern_23 : decode cX6_readPattern 23 = .ok (.invokevirtual 79, 3) := by decide +kernel
theorem dX6_readPattern_26 : decode cX6_readPattern 26 = .ok (.invokevirtual 83, 3) := by decide +kernel
theorem dX6_readPattern_29 : decode cX6_readPattern 29 = .ok (.ifCond .ne 5, 3) := by decide +kernel
theorem dX6_readPattern_32 : decode cX6_readPattern 32 = .ok (.iconst 0, 1) := by decide +kernel
theorem dX6_readPattern_33 : decode cX6_readPattern 33 = .ok (.ireturn, 1) := by decide +kernel
theorem dX6_readPattern_34 : decode cX6_readPattern 34 = .ok (.iinc 2 1, 3) := by decide +kernel
theorem dX6_readPattern_37 : decode cX6_readPattern 37 = .ok (.goto (-25), 3) := by decide +kernel
theorem dX6_readPattern_40 : decode cX6_readPattern 40 = .ok (.iconst 1, 1) := by decide +kernel
theorem dX6_readPattern_41 : decode cX6_readPattern 41 = .ok (.ireturn, 1) := by decide +kernel
theorem dX6_readPart_0 : decode cX6_readPart 0 = .ok (.iload_n 1, 1) := by decide +kernel
theorem dX6_readPart_1 : decode cX6_readPart 1 = .ok (.bipush 78, 2) := by decide +kernel
theorem dX6_readPart_3 : decode cX6_readPart 3 = .ok (.if_icmp .ne 9, 3) := by decide +kernel
theorem dX6_readPart_6 : decode cX6_readPart 6 = .ok (.aload_n 0, 1) := by decide +kernel
theorem dX6_readPart_7 : decode cX6_readPart 7 = .ok (.iconst 2, 1) := by decide +kernel
theorem dX6_readPart_8 : decode cX6_readPart 8 = .ok (.invokevirtual 86, 3) := by decide +kernel
theorem dX6_readPart_11 : decode cX6_readPart 11 = .ok (.ireturn, 1) := by decide +kernel
theorem dX6_readPart_12 : decode cX6_readPart 12 = .ok (.iload_n 1, 1) := by decide +kernel
theorem dX6_readPart_13 : decode cX6_readPart 13 = .ok (.bipush 68, 2) := by decide +kernel
theorem dX6_readPart_15 : decode cX6_readPart 15 = .ok (.if_icmp .ne 9, 3) := by decide +kernel
theorem dX6_readPart_18 : decode cX6_readPart 18 = .ok (.aload_n 0, 1) := by decide +kernel
theorem dX6_readPart_19 : decode cX6_readPart 19 = .ok (.iconst 1, 1) := by decide +kernel
theorem dX6_readPart_20 : decode cX6_readPart 20 = .ok (.invokevirtual 86, 3) := by decide +kernel
theorem dX6_readPart_23 : decode cX6_readPart 23 = .ok (.ireturn, 1) := by decide +kernel
theorem dX6_readPart_24 : decode cX6_readPart 24 = .ok (.iload_n 1, 1) := by decide +kernel
theorem dX6_readPart_25 : decode cX6_readPart 25 = .ok (.bipush 33, 2) := by decide +kernel
theorem dX6_readPart_27 : decode cX6_readPart 27 = .ok (.if_icmp .ne 15, 3) := by decide +kernel
theorem dX6_readPart_30 : decode cX6_readPart 30 = .ok (.aload_n 0, 1) := by decide +kernel
theorem dX6_readPart_31 : decode cX6_readPart 31 = .ok (.aload_n 0, 1) := by decide +kernel
theorem dX6_readPart_32 : decode cX6_readPart 32 = .ok (.bipush 33, 2) := by decide +kernel
theorem dX6_readPart_34 : decode cX6_readPart 34 = .ok (.invokevirtual 45, 3) := by decide +kernel
theorem dX6_readPart_37 : decode cX6_readPart 37 = .ok (.putfield 70, 3) := by decide +kernel
theorem dX6_readPart_40 : decode cX6_readPart 40 = .ok (.iconst 1, 1) := by decide +kernel
theorem dX6_readPart_41 : decode cX6_readPart 41 = .ok (.ireturn, 1) := by decide +kernel
theorem dX6_readPart_42 : decode cX6_readPart 42 = .ok (.aload_n 0, 1) := by decide +kernel
theorem dX6_readPart_43 : decode cX6_readPart 43 = .ok (.iload_n 1, 1) := by decide +kernel
theorem dX6_readPart_44 : decode cX6_readPart 44 = .ok (.invokevirtual 45, 3) := by decide +kernel
theorem dX6_readPart_47 : decode cX6_readPart 47 = .ok (.ireturn, 1) := by decide +kernel
theorem dX6_readNumber_0 : decode cX6_readNumber 0 = .ok (.iconst 0, 1) := by decide +kernel
theorem dX6_readNumber_1 : decode cX6_readNumber 1 = .ok (.istore_n 2, 1) := by decide +kernel
theorem dX6_readNumber_2 : decode cX6_readNumber 2 = .ok (.iconst 0, 1) := by decide +kernel
theorem dX6_readNumber_3 : decode cX6_readNumber 3 = .ok (.istore_n 3, 1) := by decide +kernel
theorem dX6_readNumber_4 : decode cX6_readNumber 4 = .ok (.iload_n 3, 1) := by decide +kernel
theorem dX6_readNumber_5 : decode cX6_readNumber 5 = .ok (.iload_n 1, 1) := by decide +kernel
theorem dX6_readNumber_6 : decode cX6_readNumber 6 = .ok (.if_icmp .ge 44, 3) := by decide +kernel
theorem dX6_readNumber_9 : decode cX6_readNumber 9 = .ok (.aload_n 0, 1) := by decide +kernel
theorem dX6_readNumber_10 : decode cX6_readNumber 10 = .ok (.invokevirtual 90, 3) := by decide +kernel
theorem dX6_readNumber_13 : decode cX6_readNumber 13 = .ok (.ifCond .eq 37, 3) := by decide +kernel
theorem dX6_readNumber_16 : decode cX6_readNumber 16 = .ok (.bipush 10, 2) := by decide +kernel
theorem dX6_readNumber_18 : decode cX6_readNumber 18 = .ok (.iload_n 2, 1) := by decide +kernel
theorem dX6_readNumber_19 : decode cX6_readNumber 19 = .ok (.imul, 1) := by decide +kernel
theorem dX6_readNumber_20 : decode cX6_readNumber 20 = .ok (.aload_n 0, 1) := by decide +kernel
theorem dX6_readNumber_21 : decode cX6_readNumber 21 = .ok (.getfield 9, 3) := by decide +kernel
theorem dX6_readNumber_24 : decode cX6_readNumber 24 = .ok (.aload_n 0, 1) := by decide +kernel
theorem dX6_readNumber_25 : decode cX6_readNumber 25 = .ok (.getfield 36, 3) := by decide +kernel
theorem dX6_readNumber_28 : decode cX6_readNumber 28 = .ok (.caload, 1) := by decide +kernel
theorem dX6_readNumber_29 : decode cX6_readNumber 29 = .ok (.bipush 48, 2) := by decide +kernel
theorem dX6_readNumber_31 : decode cX6_readNumber 31 = .ok (.isub, 1) := by decide +kernel
theorem dX6_readNumber_32 : decode cX6_readNumber 32 = .ok (.iadd, 1) := by decide +kernel
theorem dX6_readNumber_33 : decode cX6_readNumber 33 = .ok (.istore_n 2, 1) := by decide +kernel
theorem dX6_readNumber_34 : decode cX6_readNumber 34 = .ok (.aload_n 0, 1) := by decide +kernel
theorem dX6_readNumber_35 : decode cX6_readNumber 35 = .ok (.dup, 1) := by decide +kernel
theorem dX6_readNumber_36 : decode cX6_readNumber 36 = .ok (.getfield 36, 3) := by decide +kernel
theorem dX6_readNumber_39 : decode cX6_readNumber 39 = .ok (.iconst 1, 1) := by decide +kernel
theorem dX6_readNumber_40 : decode cX6_readNumber 40 = .ok (.iadd, 1) := by decide +kernel
theorem dX6_readNumber_41 : decode cX6_readNumber 41 = .ok (.putfield 36, 3) := by decide +kernel
theorem dX6_readNumber_44 : decode cX6_readNumber 44 = .ok (.iinc 3 1, 3) := by decide +kernel
theorem dX6_readNumber_47 : decode cX6_readNumber 47 = .ok (.goto (-43), 3) := by decide +kernel
theorem dX6_readNumber_50 : decode cX6_readNumber 50 = .ok (.iload_n 3, 1) := by decide +kernel
theorem dX6_readNumber_51 : decode cX6_readNumber 51 = .ok (.ifCond .eq 15, 3) := by decide +kernel
theorem dX6_readNumber_54 : decode cX6_readNumber 54 = .ok (.aload_n 0, 1) := by decide +kernel
theorem dX6_readNumber_55 : decode cX6_readNumber 55 = .ok (.getfield 67, 3) := by decide +kernel
theorem dX6_readNumber_58 : decode cX6_readNumber 58 = .ok (.aload_n 0, 1) := by decide +kernel
theorem dX6_readNumber_59 : decode cX6_readNumber 59 = .ok (.getfield 24, 3) := by decide +kernel
theorem dX6_readNumber_62 : decode cX6_readNumber 62 = .ok (.arraylength, 1) := by decide +kernel
theorem dX6_readNumber_63 : decode cX6_readNumber 63 = .ok (.if_icmp .lt 5, 3) := by decide +kernel
theorem dX6_readNumber_66 : decode cX6_readNumber 66 = .ok (.iconst 0, 1) := by decide +kernel
theorem dX6_readNumber_67 : decode cX6_readNumber 67 = .ok (.ireturn, 1) := by decide +kernel
theorem dX6_readNumber_68 : decode cX6_readNumber 68 = .ok (.aload_n 0, 1) := by decide +kernel
theorem dX6_readNumber_69 : decode cX6_readNumber 69 = .ok (.getfield 24, 3) := by decide +kernel
theorem dX6_readNumber_72 : decode cX6_readNumber 72 = .ok (.aload_n 0, 1) := by decide +kernel
theorem dX6_readNumber_73 : decode cX6_readNumber 73 = .ok (.getfield 67, 3) := by decide +kernel
theorem dX6_readNumber_76 : decode cX6_readNumber 76 = .ok (.iload_n 2, 1) := by decide +kernel
theorem dX6_readNumber_77 : decode cX6_readNumber 77 = .ok (.iastore, 1) := by decide +kernel
theorem dX6_readNumber_78 : decode cX6_readNumber 78 = .ok (.aload_n 0, 1) := by decide +kernel
theorem dX6_readNumber_79 : decode cX6_readNumber 79 = .ok (.dup, 1) := by decide +kernel
theorem dX6_readNumber_80 : decode cX6_readNumber 80 = .ok (.getfield 67, 3) := by decide +kernel
theorem dX6_readNumber_83 : decode cX6_readNumber 83 = .ok (.iconst 1, 1) := by decide +kernel
theorem dX6_readNumber_84 : decode cX6_readNumber 84 = .ok (.iadd, 1) := by decide +kernel
theorem dX6_readNumber_85 : decode cX6_readNumber 85 = .ok (.putfield 67, 3) := by decide +kernel
theorem dX6_readNumber_88 : decode cX6_readNumber 88 = .ok (.iconst 1, 1) := by decide +kernel
theorem dX6_readNumber_89 : decode cX6_readNumber 89 = .ok (.ireturn, 1) := by decide +kernel
theorem dX6_isAtDigit_0 : decode cX6_isAtDigit 0 = .ok (.aload_n 0, 1) := by decide +kernel
theorem dX6_isAtDigit_1 : decode cX6_isAtDigit 1 = .ok (.getfield 36, 3) := by decide +kernel
theorem dX6_isAtDigit_4 : decode cX6_isAtDigit 4 = .ok (.aload_n 0, 1) := by decide +kernel
theorem dX6_isAtDigit_5 : decode cX6_isAtDigit 5 = .ok (.getfield 28, 3) := by decide +kernel
theorem dX6_isAtDigit_8 : decode cX6_isAtDigit 8 = .ok (.if_icmp .ge 35, 3) := by decide +kernel
theorem dX6_isAtDigit_11 : decode cX6_isAtDigit 11 = .ok (.aload_n 0, 1) := by decide +kernel
theorem dX6_isAtDigit_12 : decode cX6_isAtDigit 12 = .ok (.getfield 9, 3) := by decide +kernel
theorem dX6_isAtDigit_15 : decode cX6_isAtDigit 15 = .ok (.aload_n 0, 1) := by decide +kernel
theorem dX6_isAtDigit_16 : decode cX6_isAtDigit 16 = .ok (.getfield 36, 3) := by decide +kernel
theorem dX6_isAtDigit_19 : decode cX6_isAtDigit 19 = .ok (.caload, 1) := by decide +kernel
theorem dX6_isAtDigit_20 : decode cX6_isAtDigit 20 = .ok (.bipush 48, 2) := by decide +kernel
theorem dX6_isAtDigit_22 : decode cX6_isAtDigit 22 = .ok (.if_icmp .lt 21, 3) := by decide +kernel
theorem dX6_isAtDigit_25 : decode cX6_isAtDigit 25 = .ok (.aload_n 0, 1) := by decide +kernel
theorem dX6_isAtDigit_26 : decode cX6_isAtDigit 26 = .ok (.getfield 9, 3) := by decide +kernel
theorem dX6_isAtDigit_29 : decode cX6_isAtDigit 29 = .ok (.aload_n 0, 1) := by decide +kernel
theorem dX6_isAtDigit_30 : decode cX6_isAtDigit 30 = .ok (.getfield 36, 3) := by decide +kernel
theorem dX6_isAtDigit_33 : decode cX6_isAtDigit 33 = .ok (.caload, 1) := by decide +kernel
theorem dX6_isAtDigit_34 : decode cX6_isAtDigit 34 = .ok (.bipush 57, 2) := by decide +kernel
theorem dX6_isAtDigit_36 : decode cX6_isAtDigit 36 = .ok (.if_icmp .gt 7, 3) := by decide +kernel
theorem dX6_isAtDigit_39 : decode cX6_isAtDigit 39 = .ok (.iconst 1, 1) := by decide +kernel
theorem dX6_isAtDigit_40 : decode cX6_isAtDigit 40 = .ok (.goto 4, 3) := by decide +kernel
theorem dX6_isAtDigit_43 : decode cX6_isAtDigit 43 = .ok (.iconst 0, 1) := by decide +kernel
theorem dX6_isAtDigit_44 : decode cX6_isAtDigit 44 = .ok (.ireturn, 1) := by decide +kernel
theorem dX6_take_0 : decode cX6_take 0 = .ok (.aload_n 0, 1) := by decide +kernel
theorem dX6_take_1 : decode cX6_take 1 = .ok (.getfield 36, 3) := by decide +kernel
theorem dX6_take_4 : decode cX6_take 4 = .ok (.aload_n 0, 1) := by decide +kernel
theorem dX6_take_5 : decode cX6_take 5 = .ok (.getfield 28, 3) := by decide +kernel
theorem dX6_take_8 : decode cX6_take 8 = .ok (.if_icmp .ge 16, 3) := by decide +kernel
theorem dX6_take_11 : decode cX6_take 11 = .ok (.aload_n 0, 1) := by decide +kernel
theorem dX6_take_12 : decode cX6_take 12 = .ok (.getfield 9, 3) := by decide +kernel
theorem dX6_take_15 : decode cX6_take 15 = .ok (.aload_n 0, 1) := by decide +kernel
theorem dX6_take_16 : decode cX6_take 16 = .ok (.getfield 36, 3) := by decide +kernel
theorem dX6_take_19 : decode cX6_take 19 = .ok (.caload, 1) := by decide +kernel
theorem dX6_take_20 : decode cX6_take 20 = .ok (.iload_n 1, 1) := by decide +kernel
theorem dX6_take_21 : decode cX6_take 21 = .ok (.if_icmp .eq 5, 3) := by decide +kernel
theorem dX6_take_24 : decode cX6_take 24 = .ok (.iconst 0, 1) := by decide +kernel
theorem dX6_take_25 : decode cX6_take 25 = .ok (.ireturn, 1) := by decide +kernel
theorem dX6_take_26 : decode cX6_take 26 = .ok (.aload_n 0, 1) := by decide +kernel
theorem dX6_take_27 : decode cX6_take 27 = .ok (.dup, 1) := by decide +kernel
theorem dX6_take_28 : decode cX6_take 28 = .ok (.getfield 36, 3) := by decide +kernel
theorem dX6_take_31 : decode cX6_take 31 = .ok (.iconst 1, 1) := by decide +kernel
theorem dX6_take_32 : decode cX6_take 32 = .ok (.iadd, 1) := by decide +kernel
theorem dX6_take_33 : decode cX6_take 33 = .ok (.putfield 36, 3) := by decide +kernel
theorem dX6_take_36 : decode cX6_take 36 = .ok (.iconst 1, 1) := by decide +kernel
theorem dX6_take_37 : decode cX6_take 37 = .ok (.ireturn, 1) := by decide +kernel
theorem dX6_number_0 : decode cX6_number 0 = .ok (.iload_n 1, 1) := by decide +kernel
theorem dX6_number_1 : decode cX6_number 1 = .ok (.ifCond .lt 20, 3) := by decide +kernel
theorem dX6_number_4 : decode cX6_number 4 = .ok (.iload_n 1, 1) := by decide +kernel
theorem dX6_number_5 : decode cX6_number 5 = .ok (.aload_n 0, 1) := by decide +kernel
theorem dX6_number_6 : decode cX6_number 6 = .ok (.getfield 67, 3) := by decide +kernel
theorem dX6_number_9 : decode cX6_number 9 = .ok (.if_icmp .ge 12, 3) := by decide +kernel
theorem dX6_number_12 : decode cX6_number 12 = .ok (.aload_n 0, 1) := by decide +kernel
theorem dX6_number_13 : decode cX6_number 13 = .ok (.getfield 24, 3) := by decide +kernel
theorem dX6_number_16 : decode cX6_number 16 = .ok (.iload_n 1, 1) := by decide +kernel
theorem dX6_number_17 : decode cX6_number 17 = .ok (.iaload, 1) := by decide +kernel
theorem dX6_number_18 : decode cX6_number 18 = .ok (.goto 4, 3) := by decide +kernel
theorem dX6_number_21 : decode cX6_number 21 = .ok (.iconst 0, 1) := by decide +kernel
theorem dX6_number_22 : decode cX6_number 22 = .ok (.ireturn, 1) := by decide +kernel
theorem dX7_init_0 : decode cX7_init 0 = .ok (.aload_n 0, 1) := by decide +kernel
theorem dX7_init_1 : decode cX7_init 1 = .ok (.invokespecial 1, 3) := by decide +kernel
theorem dX7_init_4 : decode cX7_init 4 = .ok (.aload_n 0, 1) := by decide +kernel
theorem dX7_init_5 : decode cX7_init 5 = .ok (.new 7, 3) := by decide +kernel
theorem dX7_init_8 : decode cX7_init 8 = .ok (.dup, 1) := by decide +kernel
theorem dX7_init_9 : decode cX7_init 9 = .ok (.invokespecial 9, 3) := by decide +kernel
theorem dX7_init_12 : decode cX7_init 12 = .ok (.putfield 10, 3) := by decide +kernel
theorem dX7_init_15 : decode cX7_init 15 = .ok (.aload_n 0, 1) := by decide +kernel
theorem dX7_init_16 : decode cX7_init 16 = .ok (.new 7, 3) := by decide +kernel
theorem dX7_init_19 : decode cX7_init 19 = .ok (.dup, 1) := by decide +kernel
theorem dX7_init_20 : decode cX7_init 20 = .ok (.invokespecial 9, 3) := by decide +kernel
theorem dX7_init_23 : decode cX7_init 23 = .ok (.putfield 16, 3) := by decide +kernel
theorem dX7_init_26 : decode cX7_init 26 = .ok (.aload_n 0, 1) := by decide +kernel
theorem dX7_init_27 : decode cX7_init 27 = .ok (.new 7, 3) := by decide +kernel
theorem dX7_init_30 : decode cX7_init 30 = .ok (.dup, 1) := by decide +kernel
theorem dX7_init_31 : decode cX7_init 31 = .ok (.invokespecial 9, 3) := by decide +kernel
theorem dX7_init_34 : decode cX7_init 34 = .ok (.putfield 19, 3) := by decide +kernel
theorem dX7_init_37 : decode cX7_init 37 = .ok (.aload_n 0, 1) := by decide +kernel
theorem dX7_init_38 : decode cX7_init 38 = .ok (.new 22, 3) := by decide +kernel
theorem dX7_init_41 : decode cX7_init 41 = .ok (.dup, 1) := by decide +kernel
theorem dX7_init_42 : decode cX7_init 42 = .ok (.invokespecial 24, 3) := by decide +kernel
theorem dX7_init_45 : decode cX7_init 45 = .ok (.putfield 25, 3) := by decide +kernel
theorem dX7_init_48 : decode cX7_init 48 = .ok (.aload_n 0, 1) := by decide +kernel
theorem dX7_init_49 : decode cX7_init 49 = .ok (.new 29, 3) := by decide +kernel
theorem dX7_init_52 : decode cX7_init 52 = .ok (.dup, 1) := by decide +kernel
theorem dX7_init_53 : decode cX7_init 53 = .ok (.invokespecial 31, 3) := by decide +kernel
theorem dX7_init_56 : decode cX7_init 56 = .ok (.putfield 32, 3) := by decide +kernel
theorem dX7_init_59 : decode cX7_init 59 = .ok (.aload_n 0, 1) := by decide +kernel
theorem dX7_init_60 : decode cX7_init 60 = .ok (.new 36, 3) := by decide +kernel
theorem dX7_init_63 : decode cX7_init 63 = .ok (.dup, 1) := by decide +kernel
theorem dX7_init_64 : decode cX7_init 64 = .ok (.invokespecial 38, 3) := by decide +kernel
theorem dX7_init_67 : decode cX7_init 67 = .ok (.putfield 39, 3) := by decide +kernel
theorem dX7_init_70 : decode cX7_init 70 = .ok (.aload_n 0, 1) := by decide +kernel
theorem dX7_init_71 : decode cX7_init 71 = .ok (.bipush 100, 2) := by decide +kernel
theorem dX7_init_73 : decode cX7_init 73 = .ok (.newarray .int, 2) := by decide +kernel
theorem dX7_init_75 : decode cX7_init 75 = .ok (.putfield 43, 3) := by decide +kernel
theorem dX7_init_78 : decode cX7_init 78 = .ok (.aload_n 0, 1) := by decide +kernel
theorem dX7_init_79 : decode cX7_init 79 = .ok (.iconst 0, 1) := by decide +kernel
theorem dX7_init_80 : decode cX7_init 80 = .ok (.putfield 47, 3) := by decide +kernel
theorem dX7_init_83 : decode cX7_init 83 = .ok (.aload_n 0, 1) := by decide +kernel
theorem dX7_init_84 : decode cX7_init 84 = .ok (.iconst (-1), 1) := by decide +kernel
theorem dX7_init_85 : decode cX7_init 85 = .ok (.putfield 51, 3) := by decide +kernel
theorem dX7_init_88 : decode cX7_init 88 = .ok (.aload_n 0, 1) := by decide +kernel
theorem dX7_init_89 : decode cX7_init 89 = .ok (.iconst (-1), 1) := by decide +kernel
theorem dX7_init_90 : decode cX7_init 90 = .ok (.putfield 54, 3) := by decide +kernel
theorem dX7_init_93 : decode cX7_init 93 = .ok (.aload_n 0, 1) := by decide +kernel
theorem dX7_init_94 : decode cX7_init 94 = .ok (.iconst (-1), 1) := by decide +kernel
theorem dX7_init_95 : decode cX7_init 95 = .ok (.putfield 57, 3) := by decide +kernel
theorem dX7_init_98 : decode cX7_init 98 = .ok (.return_, 1) := by decide +kernel
theorem dX7_addBag_0 : decode cX7_addBag 0 = .ok (.aload_n 0, 1) := by decide +kernel
theorem dX7_addBag_1 : decode cX7_addBag 1 = .ok (.getfield 10, 3) := by decide +kernel
theorem dX7_addBag_4 : decode cX7_addBag 4 = .ok (.iload_n 1, 1) := by decide +kernel
theorem dX7_addBag_5 : decode cX7_addBag 5 = .ok (.invokevirtual 60, 3) := by decide +kernel
theorem dX7_addBag_8 : decode cX7_addBag 8 = .ok (.invokestatic 64, 3) := by decide +kernel
theorem dX7_addBag_11 : decode cX7_addBag 11 = .ok (.aload_n 0, 1) := by decide +kernel
theorem dX7_addBag_12 : decode cX7_addBag 12 = .ok (.getfield 25, 3) := by decide +kernel
theorem dX7_addBag_15 : decode cX7_addBag 15 = .ok (.aload_n 0, 1) := by decide +kernel
theorem dX7_addBag_16 : decode cX7_addBag 16 = .ok (.getfield 10, 3) := by decide +kernel
theorem dX7_addBag_19 : decode cX7_addBag 19 = .ok (.invokevirtual 68, 3) := by decide +kernel
theorem dX7_addBag_22 : decode cX7_addBag 22 = .ok (.aload_n 0, 1) := by decide +kernel
theorem dX7_addBag_23 : decode cX7_addBag 23 = .ok (.getfield 10, 3) := by decide +kernel
theorem dX7_addBag_26 : decode cX7_addBag 26 = .ok (.iload_n 1, 1) := by decide +kernel
theorem dX7_addBag_27 : decode cX7_addBag 27 = .ok (.invokevirtual 72, 3) := by decide +kernel
theorem dX7_addBag_30 : decode cX7_addBag 30 = .ok (.ireturn, 1) := by decide +kernel
theorem dX7_addItem_0 : decode cX7_addItem 0 = .ok (.aload_n 0, 1) := by decide +kernel
theorem dX7_addItem_1 : decode cX7_addItem 1 = .ok (.getfield 10, 3) := by decide +kernel
theorem dX7_addItem_4 : decode cX7_addItem 4 = .ok (.iload_n 1, 1) := by decide +kernel
theorem dX7_addItem_5 : decode cX7_addItem 5 = .ok (.iload_n 2, 1) := by decide +kernel
theorem dX7_addItem_6 : decode cX7_addItem 6 = .ok (.iload_n 3, 1) := by decide +kernel
theorem dX7_addItem_7 : decode cX7_addItem 7 = .ok (.invokevirtual 76, 3) := by decide +kernel
theorem dX7_addItem_10 : decode cX7_addItem 10 = .ok (.invokestatic 64, 3) := by decide +kernel
theorem dX7_addItem_13 : decode cX7_addItem 13 = .ok (.aload_n 0, 1) := by decide +kernel
theorem dX7_addItem_14 : decode cX7_addItem 14 = .ok (.getfield 25, 3) := by decide +kernel
theorem dX7_addItem_17 : decode cX7_addItem 17 = .ok (.aload_n 0, 1) := by decide +kernel
theorem dX7_addItem_18 : decode cX7_addItem 18 = .ok (.getfield 10, 3) := by decide +kernel
theorem dX7_addItem_21 : decode cX7_addItem 21 = .ok (.invokevirtual 68, 3) := by decide +kernel
theorem dX7_addItem_24 : decode cX7_addItem 24 = .ok (.aload_n 0, 1) := by decide +kernel
theorem dX7_addItem_25 : decode cX7_addItem 25 = .ok (.getfield 10, 3) := by decide +kernel
theorem dX7_addItem_28 : decode cX7_addItem 28 = .ok (.iload_n 1, 1) := by decide +kernel
theorem dX7_addItem_29 : decode cX7_addItem 29 = .ok (.iload_n 2, 1) := by decide +kernel
theorem dX7_addItem_30 : decode cX7_addItem 30 = .ok (.iload_n 3, 1) := by decide +kernel
theorem dX7_addItem_31 : decode cX7_addItem 31 = .ok (.iload 4, 2) := by decide +kernel
theorem dX7_addItem_33 : decode cX7_addItem 33 = .ok (.invokevirtual 80, 3) := by decide +kernel
theorem dX7_addItem_36 : decode cX7_addItem 36 = .ok (.ireturn, 1) := by decide +kernel
theorem dX7_removeItem_0 : decode cX7_removeItem 0 = .ok (.aload_n 0, 1) := by decide +kernel
theorem dX7_removeItem_1 : decode cX7_removeItem 1 = .ok (.getfield 10, 3) := by decide +kernel
theorem dX7_removeItem_4 : decode cX7_removeItem 4 = .ok (.iload_n 1, 1) := by decide +kernel
theorem dX7_removeItem_5 : decode cX7_removeItem 5 = .ok (.invokevirtual 84, 3) := by decide +kernel
theorem dX7_removeItem_8 : decode cX7_removeItem 8 = .ok (.invokestatic 64, 3) := by decide +kernel
theorem dX7_removeItem_11 : decode cX7_removeItem 11 = .ok (.aload_n 0, 1) := by decide +kernel
theorem dX7_removeItem_12 : decode cX7_removeItem 12 = .ok (.getfield 25, 3) := by decide +kernel
theorem dX7_removeItem_15 : decode cX7_removeItem 15 = .ok (.aload_n 0, 1) := by decide +kernel
theorem dX7_removeItem_16 : decode cX7_removeItem 16 = .ok (.getfield 10, 3) := by decide +kernel
theorem dX7_removeItem_19 : decode cX7_removeItem 19 = .ok (.invokevirtual 68, 3) := by decide +kernel
theorem dX7_removeItem_22 : decode cX7_removeItem 22 = .ok (.aload_n 0, 1) := by decide +kernel
theorem dX7_removeItem_23 : decode cX7_removeItem 23 = .ok (.getfield 10, 3) := by decide +kernel
theorem dX7_removeItem_26 : decode cX7_removeItem 26 = .ok (.iload_n 1, 1) := by decide +kernel
theorem dX7_removeItem_27 : decode cX7_removeItem 27 = .ok (.invokevirtual 87, 3) := by decide +kernel
theorem dX7_removeItem_30 : decode cX7_removeItem 30 = .ok (.ireturn, 1) := by decide +kernel
theorem dX7_pack_0 : decode cX7_pack 0 = .ok (.aload_n 0, 1) := by decide +kernel
theorem dX7_pack_1 : decode cX7_pack 1 = .ok (.getfield 10, 3) := by decide +kernel
theorem dX7_pack_4 : decode cX7_pack 4 = .ok (.iload_n 1, 1) := by decide +kernel
theorem dX7_pack_5 : decode cX7_pack 5 = .ok (.iload_n 2, 1) := by decide +kernel
theorem dX7_pack_6 : decode cX7_pack 6 = .ok (.invokevirtual 90, 3) := by decide +kernel
theorem dX7_pack_9 : decode cX7_pack 9 = .ok (.astore_n 3, 1) := by decide +kernel
theorem dX7_pack_10 : decode cX7_pack 10 = .ok (.aload_n 0, 1) := by decide +kernel
theorem dX7_pack_11 : decode cX7_pack 11 = .ok (.aload_n 3, 1) := by decide +kernel
theorem dX7_pack_12 : decode cX7_pack 12 = .ok (.iload_n 1, 1) := by decide +kernel
theorem dX7_pack_13 : decode cX7_pack 13 = .ok (.iload_n 2, 1) := by decide +kernel
theorem dX7_pack_14 : decode cX7_pack 14 = .ok (.invokevirtual 94, 3) := by decide +kernel
theorem dX7_pack_17 : decode cX7_pack 17 = .ok (.aload_n 3, 1) := by decide +kernel
theorem dX7_pack_18 : decode cX7_pack 18 = .ok (.invokestatic 64, 3) := by decide +kernel
theorem dX7_pack_21 : decode cX7_pack 21 = .ok (.aload_n 0, 1) := by decide +kernel
theorem dX7_pack_22 : decode cX7_pack 22 = .ok (.getfield 25, 3) := by decide +kernel
theorem dX7_pack_25 : decode cX7_pack 25 = .ok (.aload_n 0, 1) := by decide +kernel
theorem dX7_pack_26 : decode cX7_pack 26 = .ok (.getfield 10, 3) := by decide +kernel
theorem dX7_pack_29 : decode cX7_pack 29 = .ok (.invokevirtual 68, 3) := by decide +kernel
theorem dX7_pack_32 : decode cX7_pack 32 = .ok (.aload_n 0, 1) := by decide +kernel
theorem dX7_pack_33 : decode cX7_pack 33 = .ok (.getfield 10, 3) := by decide +kernel
theorem dX7_pack_36 : decode cX7_pack 36 = .ok (.iload_n 1, 1) := by decide +kernel
theorem dX7_pack_37 : decode cX7_pack 37 = .ok (.iload_n 2, 1) := by decide +kernel
theorem dX7_pack_38 : decode cX7_pack 38 = .ok (.invokevirtual 98, 3) := by decide +kernel
theorem dX7_pack_41 : decode cX7_pack 41 = .ok (.ireturn, 1) := by decide +kernel
theorem dX7_canPack_0 : decode cX7_canPack 0 = .ok (.aload_n 0, 1) := by decide +kernel
theorem dX7_canPack_1 : decode cX7_canPack 1 = .ok (.iload_n 1, 1) := by decide +kernel
theorem dX7_canPack_2 : decode cX7_canPack 2 = .ok (.invokevirtual 102, 3) := by decide +kernel
theorem dX7_canPack_5 : decode cX7_canPack 5 = .ok (.pop, 1) := by decide +kernel
theorem dX7_canPack_6 : decode cX7_canPack 6 = .ok (.aload_n 0, 1) := by decide +kernel
theorem dX7_canPack_7 : decode cX7_canPack 7 = .ok (.iload_n 2, 1) := by decide +kernel
theorem dX7_canPack_8 : decode cX7_canPack 8 = .ok (.invokevirtual 106, 3) := by decide +kernel
theorem dX7_canPack_11 : decode cX7_canPack 11 = .ok (.aload_n 0, 1) := by decide +kernel
theorem dX7_canPack_12 : decode cX7_canPack 12 = .ok (.getfield 10, 3) := by decide +kernel
theorem dX7_canPack_15 : decode cX7_canPack 15 = .ok (.iload_n 1, 1) := by decide +kernel
theorem dX7_canPack_16 : decode cX7_canPack 16 = .ok (.iload_n 2, 1) := by decide +kernel
theorem dX7_canPack_17 : decode cX7_canPack 17 = .ok (.invokevirtual 90, 3) := by decide +kernel
theorem dX7_canPack_20 : decode cX7_canPack 20 = .ok (.getstatic 110, 3) := by decide +kernel
theorem dX7_canPack_23 : decode cX7_canPack 23 = .ok (.if_acmp .ne 7, 3) := by decide +kernel
theorem dX7_canPack_26 : decode cX7_canPack 26 = .ok (.iconst 1, 1) := by decide +kernel
theorem dX7_canPack_27 : decode cX7_canPack 27 = .ok (.goto 4, 3) := by decide +kernel
theorem dX7_canPack_30 : decode cX7_canPack 30 = .ok (.iconst 0, 1) := by decide +kernel
theorem dX7_canPack_31 : decode cX7_canPack 31 = .ok (.ireturn, 1) := by decide +kernel
theorem dX7_unpack_0 : decode cX7_unpack 0 = .ok (.aload_n 0, 1) := by decide +kernel
theorem dX7_unpack_1 : decode cX7_unpack 1 = .ok (.getfield 10, 3) := by decide +kernel
theorem dX7_unpack_4 : decode cX7_unpack 4 = .ok (.iload_n 1, 1) := by decide +kernel
theorem dX7_unpack_5 : decode cX7_unpack 5 = .ok (.invokevirtual 116, 3) := by decide +kernel
theorem dX7_unpack_8 : decode cX7_unpack 8 = .ok (.invokestatic 64, 3) := by decide +kernel
theorem dX7_unpack_11 : decode cX7_unpack 11 = .ok (.aload_n 0, 1) := by decide +kernel
theorem dX7_unpack_12 : decode cX7_unpack 12 = .ok (.getfield 25, 3) := by decide +kernel
theorem dX7_unpack_15 : decode cX7_unpack 15 = .ok (.aload_n 0, 1) := by decide +kernel
theorem dX7_unpack_16 : decode cX7_unpack 16 = .ok (.getfield 10, 3) := by decide +kernel
theorem dX7_unpack_19 : decode cX7_unpack 19 = .ok (.invokevirtual 68, 3) := by decide +kernel
theorem dX7_unpack_22 : decode cX7_unpack 22 = .ok (.aload_n 0, 1) := by decide +kernel
theorem dX7_unpack_23 : decode cX7_unpack 23 = .ok (.getfield 10, 3) := by decide +kernel
theorem dX7_unpack_26 : decode cX7_unpack 26 = .ok (.iload_n 1, 1) := by decide +kernel
theorem dX7_unpack_27 : decode cX7_unpack 27 = .ok (.invokevirtual 119, 3) := by decide +kernel
theorem dX7_unpack_30 : decode cX7_unpack 30 = .ok (.ireturn, 1) := by decide +kernel
theorem dX7_autoPack_0 : decode cX7_autoPack 0 = .ok (.aload_n 0, 1) := by decide +kernel
theorem dX7_autoPack_1 : decode cX7_autoPack 1 = .ok (.getfield 10, 3) := by decide +kernel
theorem dX7_autoPack_4 : decode cX7_autoPack 4 = .ok (.iload_n 1, 1) := by decide +kernel
theorem dX7_autoPack_5 : decode cX7_autoPack 5 = .ok (.invokevirtual 122, 3) := by decide +kernel
theorem dX7_autoPack_8 : decode cX7_autoPack 8 = .ok (.invokestatic 64, 3) := by decide +kernel
theorem dX7_autoPack_11 : decode cX7_autoPack 11 = .ok (.aload_n 0, 1) := by decide +kernel
theorem dX7_autoPack_12 : decode cX7_autoPack 12 = .ok (.getfield 25, 3) := by decide +kernel
theorem dX7_autoPack_15 : decode cX7_autoPack 15 = .ok (.aload_n 0, 1) := by decide +kernel
theorem dX7_autoPack_16 : decode cX7_autoPack 16 = .ok (.getfield 10, 3) := by decide +kernel
theorem dX7_autoPack_19 : decode cX7_autoPack 19 = .ok (.invokevirtual 68, 3) := by decide +kernel
theorem dX7_autoPack_22 : decode cX7_autoPack 22 = .ok (.aload_n 0, 1) := by decide +kernel
theorem dX7_autoPack_23 : decode cX7_autoPack 23 = .ok (.getfield 10, 3) := by decide +kernel
theorem dX7_autoPack_26 : decode cX7_autoPack 26 = .ok (.iload_n 1, 1) := by decide +kernel
theorem dX7_autoPack_27 : decode cX7_autoPack 27 = .ok (.invokevirtual 125, 3) := by decide +kernel
theorem dX7_autoPack_30 : decode cX7_autoPack 30 = .ok (.ireturn, 1) := by decide +kernel
theorem dX7_deliver_0 : decode cX7_deliver 0 = .ok (.aload_n 0, 1) := by decide +kernel
theorem dX7_deliver_1 : decode cX7_deliver 1 = .ok (.getfield 10, 3) := by decide +kernel
theorem dX7_deliver_4 : decode cX7_deliver 4 = .ok (.invokevirtual 128, 3) := by decide +kernel
theorem dX7_deliver_7 : decode cX7_deliver 7 = .ok (.invokestatic 64, 3) := by decide +kernel
theorem dX7_deliver_10 : decode cX7_deliver 10 = .ok (.aload_n 0, 1) := by decide +kernel
theorem dX7_deliver_11 : decode cX7_deliver 11 = .ok (.getfield 25, 3) := by decide +kernel
theorem dX7_deliver_14 : decode cX7_deliver 14 = .ok (.aload_n 0, 1) := by decide +kernel
theorem dX7_deliver_15 : decode cX7_deliver 15 = .ok (.getfield 10, 3) := by decide +kernel
theorem dX7_deliver_18 : decode cX7_deliver 18 = .ok (.invokevirtual 68, 3) := by decide +kernel
theorem dX7_deliver_21 : decode cX7_deliver 21 = .ok (.aload_n 0, 1) := by decide +kernel
theorem dX7_deliver_22 : decode cX7_deliver 22 = .ok (.getfield 10, 3) := by decide +kernel
theorem dX7_deliver_25 : decode cX7_deliver 25 = .ok (.invokevirtual 132, 3) := by decide +kernel
theorem dX7_deliver_28 : decode cX7_deliver 28 = .ok (.ireturn, 1) := by decide +kernel
theorem dX7_nextStop_0 : decode cX7_nextStop 0 = .ok (.aload_n 0, 1) := by decide +kernel
theorem dX7_nextStop_1 : decode cX7_nextStop 1 = .ok (.getfield 10, 3) := by decide +kernel
theorem dX7_nextStop_4 : decode cX7_nextStop 4 = .ok (.invokevirtual 136, 3) := by decide +kernel
theorem dX7_nextStop_7 : decode cX7_nextStop 7 = .ok (.ifCond .ne 13, 3) := by decide +kernel
theorem dX7_nextStop_10 : decode cX7_nextStop 10 = .ok (.new 140, 3) := by decide +kernel
theorem dX7_nextStop_13 : decode cX7_nextStop 13 = .ok (.dup, 1) := by decide +kernel
theorem dX7_nextStop_14 : decode cX7_nextStop 14 = .ok (.ldc 142, 2) := by decide +kernel
theorem dX7_nextStop_16 : decode cX7_nextStop 16 = .ok (.invokespecial 144, 3) := by decide +kernel
theorem dX7_nextStop_19 : decode cX7_nextStop 19 = .ok (.athrow, 1) := by decide +kernel
theorem dX7_nextStop_20 : decode cX7_nextStop 20 = .ok (.aload_n 0, 1) := by decide +kernel
theorem dX7_nextStop_21 : decode cX7_nextStop 21 = .ok (.getfield 10, 3) := by decide +kernel
theorem dX7_nextStop_24 : decode cX7_nextStop 24 = .ok (.invokevirtual 147, 3) := by decide +kernel
theorem dX7_nextStop_27 : decode cX7_nextStop 27 = .ok (.ireturn, 1) := by decide +kernel
theorem dX7_deliveredCount_0 : decode cX7_deliveredCount 0 = .ok (.aload_n 0, 1) := by decide +kernel
theorem dX7_deliveredCount_1 : decode cX7_deliveredCount 1 = .ok (.getfield 10, 3) := by decide +kernel
theorem dX7_deliveredCount_4 : decode cX7_deliveredCount 4 = .ok (.getfield 150, 3) := by decide +kernel
theorem dX7_deliveredCount_7 : decode cX7_deliveredCount 7 = .ok (.ireturn, 1) := by decide +kernel
theorem dX7_deliveredWeight_0 : decode cX7_deliveredWeight 0 = .ok (.aload_n 0, 1) := by decide +kernel
theorem dX7_deliveredWeight_1 : decode cX7_deliveredWeight 1 = .ok (.getfield 10, 3) := by decide +kernel
theorem dX7_deliveredWeight_4 : decode cX7_deliveredWeight 4 = .ok (.getfield 153, 3) := by decide +kernel
theorem dX7_deliveredWeight_7 : decode cX7_deliveredWeight 7 = .ok (.ireturn, 1) := by decide +kernel
theorem dX7_itemCount_0 : decode cX7_itemCount 0 = .ok (.aload_n 0, 1) := by decide +kernel
theorem dX7_itemCount_1 : decode cX7_itemCount 1 = .ok (.getfield 10, 3) := by decide +kernel
theorem dX7_itemCount_4 : decode cX7_itemCount 4 = .ok (.invokevirtual 156, 3) := by decide +kernel
theorem dX7_itemCount_7 : decode cX7_itemCount 7 = .ok (.ireturn, 1) := by decide +kernel
theorem dX7_depotCount_0 : decode cX7_depotCount 0 = .ok (.aload_n 0, 1) := by decide +kernel
theorem dX7_depotCount_1 : decode cX7_depotCount 1 = .ok (.getfield 10, 3) := by decide +kernel
theorem dX7_depotCount_4 : decode cX7_depotCount 4 = .ok (.invokevirtual 159, 3) := by decide +kernel
theorem dX7_depotCount_7 : decode cX7_depotCount 7 = .ok (.ireturn, 1) := by decide +kernel
theorem dX7_exists_0 : decode cX7_exists 0 = .ok (.aload_n 0, 1) := by decide +kernel
theorem dX7_exists_1 : decode cX7_exists 1 = .ok (.getfield 10, 3) := by decide +kernel
theorem dX7_exists_4 : decode cX7_exists 4 = .ok (.iload_n 1, 1) := by decide +kernel
theorem dX7_exists_5 : decode cX7_exists 5 = .ok (.invokevirtual 162, 3) := by decide +kernel
theorem dX7_exists_8 : decode cX7_exists 8 = .ok (.invokevirtual 165, 3) := by decide +kernel
theorem dX7_exists_11 : decode cX7_exists 11 = .ok (.ireturn, 1) := by decide +kernel
theorem dX7_sizeOf_0 : decode cX7_sizeOf 0 = .ok (.aload_n 0, 1) := by decide +kernel
theorem dX7_sizeOf_1 : decode cX7_sizeOf 1 = .ok (.iload_n 1, 1) := by decide +kernel
theorem dX7_sizeOf_2 : decode cX7_sizeOf 2 = .ok (.invokevirtual 102, 3) := by decide +kernel
theorem dX7_sizeOf_5 : decode cX7_sizeOf 5 = .ok (.getfield 170, 3) := by decide +kernel
theorem dX7_sizeOf_8 : decode cX7_sizeOf 8 = .ok (.ireturn, 1) := by decide +kernel
theorem dX7_weightOf_0 : decode cX7_weightOf 0 = .ok (.aload_n 0, 1) := by decide +kernel
theorem dX7_weightOf_1 : decode cX7_weightOf 1 = .ok (.iload_n 1, 1) := by decide +kernel
theorem dX7_weightOf_2 : decode cX7_weightOf 2 = .ok (.invokevirtual 102, 3) := by decide +kernel
theorem dX7_weightOf_5 : decode cX7_weightOf 5 = .ok (.getfield 173, 3) := by decide +kernel
theorem dX7_weightOf_8 : decode cX7_weightOf 8 = .ok (.ireturn, 1) := by decide +kernel
theorem dX7_stopOf_0 : decode cX7_stopOf 0 = .ok (.aload_n 0, 1) := by decide +kernel
theorem dX7_stopOf_1 : decode cX7_stopOf 1 = .ok (.iload_n 1, 1) := by decide +kernel
theorem dX7_stopOf_2 : decode cX7_stopOf 2 = .ok (.invokevirtual 102, 3) := by decide +kernel
theorem dX7_stopOf_5 : decode cX7_stopOf 5 = .ok (.getfield 176, 3) := by decide +kernel
theorem dX7_stopOf_8 : decode cX7_stopOf 8 = .ok (.ireturn, 1) := by decide +kernel
theorem dX7_isFragile_0 : decode cX7_isFragile 0 = .ok (.aload_n 0, 1) := by decide +kernel
theorem dX7_isFragile_1 : decode cX7_isFragile 1 = .ok (.iload_n 1, 1) := by decide +kernel
theorem dX7_isFragile_2 : decode cX7_isFragile 2 = .ok (.invokevirtual 102, 3) := by decide +kernel
theorem dX7_isFragile_5 : decode cX7_isFragile 5 = .ok (.getfield 179, 3) := by decide +kernel
theorem dX7_isFragile_8 : decode cX7_isFragile 8 = .ok (.ireturn, 1) := by decide +kernel
theorem dX7_isPacked_0 : decode cX7_isPacked 0 = .ok (.aload_n 0, 1) := by decide +kernel
theorem dX7_isPacked_1 : decode cX7_isPacked 1 = .ok (.iload_n 1, 1) := by decide +kernel
theorem dX7_isPacked_2 : decode cX7_isPacked 2 = .ok (.invokevirtual 102, 3) := by decide +kernel
theorem dX7_isPacked_5 : decode cX7_isPacked 5 = .ok (.invokevirtual 183, 3) := by decide +kernel
theorem dX7_isPacked_8 : decode cX7_isPacked 8 = .ok (.ireturn, 1) := by decide +kernel
theorem dX7_bagOf_0 : decode cX7_bagOf 0 = .ok (.aload_n 0, 1) := by decide +kernel
theorem dX7_bagOf_1 : decode cX7_bagOf 1 = .ok (.iload_n 1, 1) := by decide +kernel
theorem dX7_bagOf_2 : decode cX7_bagOf 2 = .ok (.invokevirtual 186, 3) := by decide +kernel
theorem dX7_bagOf_5 : decode cX7_bagOf 5 = .ok (.getfield 189, 3) := by decide +kernel
theorem dX7_bagOf_8 : decode cX7_bagOf 8 = .ok (.ireturn, 1) := by decide +kernel
theorem dX7_layerOf_0 : decode cX7_layerOf 0 = .ok (.aload_n 0, 1) := by decide +kernel
theorem dX7_layerOf_1 : decode cX7_layerOf 1 = .ok (.iload_n 1, 1) := by decide +kernel
theorem dX7_layerOf_2 : decode cX7_layerOf 2 = .ok (.invokevirtual 186, 3) := by decide +kernel
theorem dX7_layerOf_5 : decode cX7_layerOf 5 = .ok (.getfield 192, 3) := by decide +kernel
theorem dX7_layerOf_8 : decode cX7_layerOf 8 = .ok (.ireturn, 1) := by decide +kernel
theorem dX7_itemAtRank_0 : decode cX7_itemAtRank 0 = .ok (.aload_n 0, 1) := by decide +kernel
theorem dX7_itemAtRank_1 : decode cX7_itemAtRank 1 = .ok (.getfield 10, 3) := by decide +kernel
theorem dX7_itemAtRank_4 : decode cX7_itemAtRank 4 = .ok (.iload_n 1, 1) := by decide +kernel
theorem dX7_itemAtRank_5 : decode cX7_itemAtRank 5 = .ok (.invokevirtual 195, 3) := by decide +kernel
theorem dX7_itemAtRank_8 : decode cX7_itemAtRank 8 = .ok (.astore_n 2, 1) := by decide +kernel
theorem dX7_itemAtRank_9 : decode cX7_itemAtRank 9 = .ok (.aload_n 2, 1) := by decide +kernel
theorem dX7_itemAtRank_10 : decode cX7_itemAtRank 10 = .ok (.invokevirtual 165, 3) := by decide +kernel
theorem dX7_itemAtRank_13 : decode cX7_itemAtRank 13 = .ok (.ifCond .ne 13, 3) := by decide +kernel
theorem dX7_itemAtRank_16 : decode cX7_itemAtRank 16 = .ok (.new 198, 3) := by decide +kernel
theorem dX7_itemAtRank_19 : decode cX7_itemAtRank 19 = .ok (.dup, 1) := by decide +kernel
theorem dX7_itemAtRank_20 : decode cX7_itemAtRank 20 = .ok (.ldc 200, 2) := by decide +kernel
theorem dX7_itemAtRank_22 : decode cX7_itemAtRank 22 = .ok (.invokespecial 202, 3) := by decide +kernel
theorem dX7_itemAtRank_25 : decode cX7_itemAtRank 25 = .ok (.athrow, 1) := by decide +kernel
theorem dX7_itemAtRank_26 : decode cX7_itemAtRank 26 = .ok (.aload_n 2, 1) := by decide +kernel
theorem dX7_itemAtRank_27 : decode cX7_itemAtRank 27 = .ok (.getfield 203, 3) := by decide +kernel
theorem dX7_itemAtRank_30 : decode cX7_itemAtRank 30 = .ok (.ireturn, 1) := by decide +kernel
theorem dX7_bagCount_0 : decode cX7_bagCount 0 = .ok (.aload_n 0, 1) := by decide +kernel
theorem dX7_bagCount_1 : decode cX7_bagCount 1 = .ok (.getfield 10, 3) := by decide +kernel
theorem dX7_bagCount_4 : decode cX7_bagCount 4 = .ok (.getfield 206, 3) := by decide +kernel
theorem dX7_bagCount_7 : decode cX7_bagCount 7 = .ok (.ireturn, 1) := by decide +kernel
theorem dX7_limitOf_0 : decode cX7_limitOf 0 = .ok (.aload_n 0, 1) := by decide +kernel
theorem dX7_limitOf_1 : decode cX7_limitOf 1 = .ok (.iload_n 1, 1) := by decide +kernel
theorem dX7_limitOf_2 : decode cX7_limitOf 2 = .ok (.invokevirtual 106, 3) := by decide +kernel
theorem dX7_limitOf_5 : decode cX7_limitOf 5 = .ok (.aload_n 0, 1) := by decide +kernel
theorem dX7_limitOf_6 : decode cX7_limitOf 6 = .ok (.getfield 10, 3) := by decide +kernel
theorem dX7_limitOf_9 : decode cX7_limitOf 9 = .ok (.iload_n 1, 1) := by decide +kernel
theorem dX7_limitOf_10 : decode cX7_limitOf 10 = .ok (.invokevirtual 209, 3) := by decide +kernel
theorem dX7_limitOf_13 : decode cX7_limitOf 13 = .ok (.ireturn, 1) := by decide +kernel
theorem dX7_weightIn_0 : decode cX7_weightIn 0 = .ok (.aload_n 0, 1) := by decide +kernel
theorem dX7_weightIn_1 : decode cX7_weightIn 1 = .ok (.iload_n 1, 1) := by decide +kernel
theorem dX7_weightIn_2 : decode cX7_weightIn 2 = .ok (.invokevirtual 106, 3) := by decide +kernel
theorem dX7_weightIn_5 : decode cX7_weightIn 5 = .ok (.aload_n 0, 1) := by decide +kernel
theorem dX7_weightIn_6 : decode cX7_weightIn 6 = .ok (.getfield 10, 3) := by decide +kernel
theorem dX7_weightIn_9 : decode cX7_weightIn 9 = .ok (.iload_n 1, 1) := by decide +kernel
theorem dX7_weightIn_10 : decode cX7_weightIn 10 = .ok (.invokevirtual 212, 3) := by decide +kernel
theorem dX7_weightIn_13 : decode cX7_weightIn 13 = .ok (.ireturn, 1) := by decide +kernel
theorem dX7_weightInByLayers_0 : decode cX7_weightInByLayers 0 = .ok (.aload_n 0, 1) := by decide +kernel
theorem dX7_weightInByLayers_1 : decode cX7_weightInByLayers 1 = .ok (.iload_n 1, 1) := by decide +kernel
theorem dX7_weightInByLayers_2 : decode cX7_weightInByLayers 2 = .ok (.invokevirtual 106, 3) := by decide +kernel
theorem dX7_weightInByLayers_5 : decode cX7_weightInByLayers 5 = .ok (.aload_n 0, 1) := by decide +kernel
theorem dX7_weightInByLayers_6 : decode cX7_weightInByLayers 6 = .ok (.getfield 10, 3) := by decide +kernel
theorem dX7_weightInByLayers_9 : decode cX7_weightInByLayers 9 = .ok (.iload_n 1, 1) := by decide +kernel
theorem dX7_weightInByLayers_10 : decode cX7_weightInByLayers 10 = .ok (.invokevirtual 215, 3) := by decide +kernel
theorem dX7_weightInByLayers_13 : decode cX7_weightInByLayers 13 = .ok (.ireturn, 1) := by decide +kernel
theorem dX7_weightLeft_0 : decode cX7_weightLeft 0 = .ok (.aload_n 0, 1) := by decide +kernel
theorem dX7_weightLeft_1 : decode cX7_weightLeft 1 = .ok (.iload_n 1, 1) := by decide +kernel
theorem dX7_weightLeft_2 : decode cX7_weightLeft 2 = .ok (.invokevirtual 106, 3) := by decide +kernel
theorem dX7_weightLeft_5 : decode cX7_weightLeft 5 = .ok (.aload_n 0, 1) := by decide +kernel
theorem dX7_weightLeft_6 : decode cX7_weightLeft 6 = .ok (.getfield 10, 3) := by decide +kernel
theorem dX7_weightLeft_9 : decode cX7_weightLeft 9 = .ok (.iload_n 1, 1) := by decide +kernel
theorem dX7_weightLeft_10 : decode cX7_weightLeft 10 = .ok (.invokevirtual 218, 3) := by decide +kernel
theorem dX7_weightLeft_13 : decode cX7_weightLeft 13 = .ok (.ireturn, 1) := by decide +kernel
theorem dX7_layerCount_0 : decode cX7_layerCount 0 = .ok (.aload_n 0, 1) := by decide +kernel
theorem dX7_layerCount_1 : decode cX7_layerCount 1 = .ok (.iload_n 1, 1) := by decide +kernel
theorem dX7_layerCount_2 : decode cX7_layerCount 2 = .ok (.invokevirtual 106, 3) := by decide +kernel
theorem dX7_layerCount_5 : decode cX7_layerCount 5 = .ok (.aload_n 0, 1) := by decide +kernel
theorem dX7_layerCount_6 : decode cX7_layerCount 6 = .ok (.getfield 10, 3) := by decide +kernel
theorem dX7_layerCount_9 : decode cX7_layerCount 9 = .ok (.iload_n 1, 1) := by decide +kernel
theorem dX7_layerCount_10 : decode cX7_layerCount 10 = .ok (.invokevirtual 221, 3) := by decide +kernel
theorem dX7_layerCount_13 : decode cX7_layerCount 13 = .ok (.ireturn, 1) := by decide +kernel
theorem dX7_itemsInLayer_0 : decode cX7_itemsInLayer 0 = .ok (.aload_n 0, 1) := by decide +kernel
theorem dX7_itemsInLayer_1 : decode cX7_itemsInLayer 1 = .ok (.iload_n 1, 1) := by decide +kernel
theorem dX7_itemsInLayer_2 : decode cX7_itemsInLayer 2 = .ok (.iload_n 2, 1) := by decide +kernel
theorem dX7_itemsInLayer_3 : decode cX7_itemsInLayer 3 = .ok (.invokevirtual 224, 3) := by decide +kernel
theorem dX7_itemsInLayer_6 : decode cX7_itemsInLayer 6 = .ok (.aload_n 0, 1) := by decide +kernel
theorem dX7_itemsInLayer_7 : decode cX7_itemsInLayer 7 = .ok (.getfield 10, 3) := by decide +kernel
theorem dX7_itemsInLayer_10 : decode cX7_itemsInLayer 10 = .ok (.iload_n 1, 1) := by decide +kernel
theorem dX7_itemsInLayer_11 : decode cX7_itemsInLayer 11 = .ok (.iload_n 2, 1) := by decide +kernel
theorem dX7_itemsInLayer_12 : decode cX7_itemsInLayer 12 = .ok (.invokevirtual 228, 3) := by decide +kernel
theorem dX7_itemsInLayer_15 : decode cX7_itemsInLayer 15 = .ok (.ireturn, 1) := by decide +kernel
theorem dX7_itemAt_0 : decode cX7_itemAt 0 = .ok (.aload_n 0, 1) := by decide +kernel
theorem dX7_itemAt_1 : decode cX7_itemAt 1 = .ok (.iload_n 1, 1) := by decide +kernel
theorem dX7_itemAt_2 : decode cX7_itemAt 2 = .ok (.iload_n 2, 1) := by decide +kernel
theorem dX7_itemAt_3 : decode cX7_itemAt 3 = .ok (.invokevirtual 224, 3) := by decide +kernel
theorem dX7_itemAt_6 : decode cX7_itemAt 6 = .ok (.aload_n 0, 1) := by decide +kernel
theorem dX7_itemAt_7 : decode cX7_itemAt 7 = .ok (.getfield 10, 3) := by decide +kernel
theorem dX7_itemAt_10 : decode cX7_itemAt 10 = .ok (.iload_n 1, 1) := by decide +kernel
theorem dX7_itemAt_11 : decode cX7_itemAt 11 = .ok (.iload_n 2, 1) := by decide +kernel
theorem dX7_itemAt_12 : decode cX7_itemAt 12 = .ok (.iload_n 3, 1) := by decide +kernel
theorem dX7_itemAt_13 : decode cX7_itemAt 13 = .ok (.invokevirtual 231, 3) := by decide +kernel
theorem dX7_itemAt_16 : decode cX7_itemAt 16 = .ok (.astore 4, 2) := by decide +kernel
theorem dX7_itemAt_18 : decode cX7_itemAt 18 = .ok (.aload 4, 2) := by decide +kernel
theorem dX7_itemAt_20 : decode cX7_itemAt 20 = .ok (.invokevirtual 165, 3) := by decide +kernel
theorem dX7_itemAt_23 : decode cX7_itemAt 23 = .ok (.ifCond .ne 13, 3) := by decide +kernel
theorem dX7_itemAt_26 : decode cX7_itemAt 26 = .ok (.new 140, 3) := by decide +kernel
theorem dX7_itemAt_29 : decode cX7_itemAt 29 = .ok (.dup, 1) := by decide +kernel
theorem dX7_itemAt_30 : decode cX7_itemAt 30 = .ok (.ldc 235, 2) := by decide +kernel
theorem dX7_itemAt_32 : decode cX7_itemAt 32 = .ok (.invokespecial 144, 3) := by decide +kernel
theorem dX7_itemAt_35 : decode cX7_itemAt 35 = .ok (.athrow, 1) := by decide +kernel
theorem dX7_itemAt_36 : decode cX7_itemAt 36 = .ok (.aload 4, 2) := by decide +kernel
theorem dX7_itemAt_38 : decode cX7_itemAt 38 = .ok (.getfield 203, 3) := by decide +kernel
theorem dX7_itemAt_41 : decode cX7_itemAt 41 = .ok (.ireturn, 1) := by decide +kernel
theorem dX7_sizeUsed_0 : decode cX7_sizeUsed 0 = .ok (.aload_n 0, 1) := by decide +kernel
theorem dX7_sizeUsed_1 : decode cX7_sizeUsed 1 = .ok (.iload_n 1, 1) := by decide +kernel
theorem dX7_sizeUsed_2 : decode cX7_sizeUsed 2 = .ok (.iload_n 2, 1) := by decide +kernel
theorem dX7_sizeUsed_3 : decode cX7_sizeUsed 3 = .ok (.invokevirtual 224, 3) := by decide +kernel
theorem dX7_sizeUsed_6 : decode cX7_sizeUsed 6 = .ok (.aload_n 0, 1) := by decide +kernel
theorem dX7_sizeUsed_7 : decode cX7_sizeUsed 7 = .ok (.getfield 10, 3) := by decide +kernel
theorem dX7_sizeUsed_10 : decode cX7_sizeUsed 10 = .ok (.iload_n 1, 1) := by decide +kernel
theorem dX7_sizeUsed_11 : decode cX7_sizeUsed 11 = .ok (.iload_n 2, 1) := by decide +kernel
theorem dX7_sizeUsed_12 : decode cX7_sizeUsed 12 = .ok (.invokevirtual 237, 3) := by decide +kernel
theorem dX7_sizeUsed_15 : decode cX7_sizeUsed 15 = .ok (.ireturn, 1) := by decide +kernel
theorem dX7_loadOf_0 : decode cX7_loadOf 0 = .ok (.aload_n 0, 1) := by decide +kernel
theorem dX7_loadOf_1 : decode cX7_loadOf 1 = .ok (.iload_n 1, 1) := by decide +kernel
theorem dX7_loadOf_2 : decode cX7_loadOf 2 = .ok (.iload_n 2, 1) := by decide +kernel
theorem dX7_loadOf_3 : decode cX7_loadOf 3 = .ok (.invokevirtual 224, 3) := by decide +kernel
theorem dX7_loadOf_6 : decode cX7_loadOf 6 = .ok (.aload_n 0, 1) := by decide +kernel
theorem dX7_loadOf_7 : decode cX7_loadOf 7 = .ok (.getfield 10, 3) := by decide +kernel
theorem dX7_loadOf_10 : decode cX7_loadOf 10 = .ok (.iload_n 1, 1) := by decide +kernel
theorem dX7_loadOf_11 : decode cX7_loadOf 11 = .ok (.iload_n 2, 1) := by decide +kernel
theorem dX7_loadOf_12 : decode cX7_loadOf 12 = .ok (.invokevirtual 240, 3) := by decide +kernel
theorem dX7_loadOf_15 : decode cX7_loadOf 15 = .ok (.ireturn, 1) := by decide +kernel
theorem dX7_bestLoad_0 : decode cX7_bestLoad 0 = .ok (.aload_n 0, 1) := by decide +kernel
theorem dX7_bestLoad_1 : decode cX7_bestLoad 1 = .ok (.iload_n 1, 1) := by decide +kernel
theorem dX7_bestLoad_2 : decode cX7_bestLoad 2 = .ok (.invokevirtual 106, 3) := by decide +kernel
theorem dX7_bestLoad_5 : decode cX7_bestLoad 5 = .ok (.aload_n 0, 1) := by decide +kernel
theorem dX7_bestLoad_6 : decode cX7_bestLoad 6 = .ok (.getfield 10, 3) := by decide +kernel
theorem dX7_bestLoad_9 : decode cX7_bestLoad 9 = .ok (.iload_n 1, 1) := by decide +kernel
theorem dX7_bestLoad_10 : decode cX7_bestLoad 10 = .ok (.invokevirtual 243, 3) := by decide +kernel
theorem dX7_bestLoad_13 : decode cX7_bestLoad 13 = .ok (.ireturn, 1) := by decide +kernel
theorem dX7_bestLoadByTable_0 : decode cX7_bestLoadByTable 0 = .ok (.aload_n 0, 1) := by decide +kernel
theorem dX7_bestLoadByTable_1 : decode cX7_bestLoadByTable 1 = .ok (.iload_n 1, 1) := by decide +kernel
theorem dX7_bestLoadByTable_2 : decode cX7_bestLoadByTable 2 = .ok (.invokevirtual 106, 3) := by decide +kernel
theorem dX7_bestLoadByTable_5 : decode cX7_bestLoadByTable 5 = .ok (.aload_n 0, 1) := by decide +kernel
theorem dX7_bestLoadByTable_6 : decode cX7_bestLoadByTable 6 = .ok (.getfield 10, 3) := by decide +kernel
theorem dX7_bestLoadByTable_9 : decode cX7_bestLoadByTable 9 = .ok (.iload_n 1, 1) := by decide +kernel
theorem dX7_bestLoadByTable_10 : decode cX7_bestLoadByTable 10 = .ok (.aload_n 0, 1) := by decide +kernel
theorem dX7_bestLoadByTable_11 : decode cX7_bestLoadByTable 11 = .ok (.getfield 43, 3) := by decide +kernel
theorem dX7_bestLoadByTable_14 : decode cX7_bestLoadByTable 14 = .ok (.invokevirtual 246, 3) := by decide +kernel
theorem dX7_bestLoadByTable_17 : decode cX7_bestLoadByTable 17 = .ok (.ireturn, 1) := by decide +kernel
theorem dX7_emptiestBag_0 : decode cX7_emptiestBag 0 = .ok (.aload_n 0, 1) := by decide +kernel
theorem dX7_emptiestBag_1 : decode cX7_emptiestBag 1 = .ok (.getfield 10, 3) := by decide +kernel
theorem dX7_emptiestBag_4 : decode cX7_emptiestBag 4 = .ok (.getfield 206, 3) := by decide +kernel
theorem dX7_emptiestBag_7 : decode cX7_emptiestBag 7 = .ok (.ifCond .ne 13, 3) := by decide +kernel
theorem dX7_emptiestBag_10 : decode cX7_emptiestBag 10 = .ok (.new 140, 3) := by decide +kernel
theorem dX7_emptiestBag_13 : decode cX7_emptiestBag 13 = .ok (.dup, 1) := by decide +kernel
theorem dX7_emptiestBag_14 : decode cX7_emptiestBag 14 = .ok (.ldc 250, 2) := by decide +kernel
theorem dX7_emptiestBag_16 : decode cX7_emptiestBag 16 = .ok (.invokespecial 144, 3) := by decide +kernel
theorem dX7_emptiestBag_19 : decode cX7_emptiestBag 19 = .ok (.athrow, 1) := by decide +kernel
theorem dX7_emptiestBag_20 : decode cX7_emptiestBag 20 = .ok (.aload_n 0, 1) := by decide +kernel
theorem dX7_emptiestBag_21 : decode cX7_emptiestBag 21 = .ok (.getfield 10, 3) := by decide +kernel
theorem dX7_emptiestBag_24 : decode cX7_emptiestBag 24 = .ok (.invokevirtual 252, 3) := by decide +kernel
theorem dX7_emptiestBag_27 : decode cX7_emptiestBag 27 = .ok (.ireturn, 1) := by decide +kernel
theorem dX7_shareUsed_0 : decode cX7_shareUsed 0 = .ok (.aload_n 0, 1) := by decide +kernel
theorem dX7_shareUsed_1 : decode cX7_shareUsed 1 = .ok (.getfield 10, 3) := by decide +kernel
theorem dX7_shareUsed_4 : decode cX7_shareUsed 4 = .ok (.invokevirtual 255, 3) := by decide +kernel
theorem dX7_shareUsed_7 : decode cX7_shareUsed 7 = .ok (.istore_n 1, 1) := by decide +kernel
theorem dX7_shareUsed_8 : decode cX7_shareUsed 8 = .ok (.iload_n 1, 1) := by decide +kernel
theorem dX7_shareUsed_9 : decode cX7_shareUsed 9 = .ok (.ifCond .ne 13, 3) := by decide +kernel
theorem dX7_shareUsed_12 : decode cX7_shareUsed 12 = .ok (.new 258, 3) := by decide +kernel
theorem dX7_shareUsed_15 : decode cX7_shareUsed 15 = .ok (.dup, 1) := by decide +kernel
theorem dX7_shareUsed_16 : decode cX7_shareUsed 16 = .ok (.ldc 250, 2) := by decide +kernel
theorem dX7_shareUsed_18 : decode cX7_shareUsed 18 = .ok (.invokespecial 260, 3) := by decide +kernel
theorem dX7_shareUsed_21 : decode cX7_shareUsed 21 = .ok (.athrow, 1) := by decide +kernel
theorem dX7_shareUsed_22 : decode cX7_shareUsed 22 = .ok (.aload_n 0, 1) := by decide +kernel
theorem dX7_shareUsed_23 : decode cX7_shareUsed 23 = .ok (.getfield 10, 3) := by decide +kernel
theorem dX7_shareUsed_26 : decode cX7_shareUsed 26 = .ok (.invokevirtual 261, 3) := by decide +kernel
theorem dX7_shareUsed_29 : decode cX7_shareUsed 29 = .ok (.i2d, 1) := by decide +kernel
theorem dX7_shareUsed_30 : decode cX7_shareUsed 30 = .ok (.iload_n 1, 1) := by decide +kernel
theorem dX7_shareUsed_31 : decode cX7_shareUsed 31 = .ok (.i2d, 1) := by decide +kernel
theorem dX7_shareUsed_32 : decode cX7_shareUsed 32 = .ok (.ddiv, 1) := by decide +kernel
theorem dX7_shareUsed_33 : decode cX7_shareUsed 33 = .ok (.dreturn, 1) := by decide +kernel
theorem dX7_refusalReason_0 : decode cX7_refusalReason 0 = .ok (.aload_n 0, 1) := by decide +kernel
theorem dX7_refusalReason_1 : decode cX7_refusalReason 1 = .ok (.getfield 47, 3) := by decide +kernel
theorem dX7_refusalReason_4 : decode cX7_refusalReason 4 = .ok (.ifCond .ne 14, 3) := by decide +kernel
theorem dX7_refusalReason_7 : decode cX7_refusalReason 7 = .ok (.new 140, 3) := by decide +kernel
theorem dX7_refusalReason_10 : decode cX7_refusalReason 10 = .ok (.dup, 1) := by decide +kernel
theorem dX7_refusalReason_11 : decode cX7_refusalReason 11 = .ok (.ldc_w 267, 3) := by decide +kernel
theorem dX7_refusalReason_14 : decode cX7_refusalReason 14 = .ok (.invokespecial 144, 3) := by decide +kernel
theorem dX7_refusalReason_17 : decode cX7_refusalReason 17 = .ok (.athrow, 1) := by decide +kernel
theorem dX7_refusalReason_18 : decode cX7_refusalReason 18 = .ok (.aload_n 0, 1) := by decide +kernel
theorem dX7_refusalReason_19 : decode cX7_refusalReason 19 = .ok (.getfield 47, 3) := by decide +kernel
theorem dX7_refusalReason_22 : decode cX7_refusalReason 22 = .ok (.ireturn, 1) := by decide +kernel
theorem dX7_refusedItem_0 : decode cX7_refusedItem 0 = .ok (.aload_n 0, 1) := by decide +kernel
theorem dX7_refusedItem_1 : decode cX7_refusedItem 1 = .ok (.getfield 47, 3) := by decide +kernel
theorem dX7_refusedItem_4 : decode cX7_refusedItem 4 = .ok (.ifCond .ne 14, 3) := by decide +kernel
theorem dX7_refusedItem_7 : decode cX7_refusedItem 7 = .ok (.new 140, 3) := by decide +kernel
theorem dX7_refusedItem_10 : decode cX7_refusedItem 10 = .ok (.dup, 1) := by decide +kernel
theorem dX7_refusedItem_11 : decode cX7_refusedItem 11 = .ok (.ldc_w 267, 3) := by decide +kernel
theorem dX7_refusedItem_14 : decode cX7_refusedItem 14 = .ok (.invokespecial 144, 3) := by decide +kernel
theorem dX7_refusedItem_17 : decode cX7_refusedItem 17 = .ok (.athrow, 1) := by decide +kernel
theorem dX7_refusedItem_18 : decode cX7_refusedItem 18 = .ok (.aload_n 0, 1) := by decide +kernel
theorem dX7_refusedItem_19 : decode cX7_refusedItem 19 = .ok (.getfield 51, 3) := by decide +kernel
theorem dX7_refusedItem_22 : decode cX7_refusedItem 22 = .ok (.ireturn, 1) := by decide +kernel
theorem dX7_writeLabel_0 : decode cX7_writeLabel 0 = .ok (.aload_n 0, 1) := by decide +kernel
theorem dX7_writeLabel_1 : decode cX7_writeLabel 1 = .ok (.iload_n 1, 1) := by decide +kernel
theorem dX7_writeLabel_2 : decode cX7_writeLabel 2 = .ok (.invokevirtual 106, 3) := by decide +kernel
theorem dX7_writeLabel_5 : decode cX7_writeLabel 5 = .ok (.aload_n 0, 1) := by decide +kernel
theorem dX7_writeLabel_6 : decode cX7_writeLabel 6 = .ok (.getfield 39, 3) := by decide +kernel
theorem dX7_writeLabel_9 : decode cX7_writeLabel 9 = .ok (.iconst 0, 1) := by decide +kernel
theorem dX7_writeLabel_10 : decode cX7_writeLabel 10 = .ok (.invokevirtual 269, 3) := by decide +kernel
theorem dX7_writeLabel_13 : decode cX7_writeLabel 13 = .ok (.aload_n 0, 1) := by decide +kernel
theorem dX7_writeLabel_14 : decode cX7_writeLabel 14 = .ok (.getfield 10, 3) := by decide +kernel
theorem dX7_writeLabel_17 : decode cX7_writeLabel 17 = .ok (.iload_n 1, 1) := by decide +kernel
theorem dX7_writeLabel_18 : decode cX7_writeLabel 18 = .ok (.aload_n 0, 1) := by decide +kernel
theorem dX7_writeLabel_19 : decode cX7_writeLabel 19 = .ok (.getfield 39, 3) := by decide +kernel
theorem dX7_writeLabel_22 : decode cX7_writeLabel 22 = .ok (.invokevirtual 272, 3) := by decide +kernel
theorem dX7_writeLabel_25 : decode cX7_writeLabel 25 = .ok (.aload_n 0, 1) := by decide +kernel
theorem dX7_writeLabel_26 : decode cX7_writeLabel 26 = .ok (.getfield 39, 3) := by decide +kernel
theorem dX7_writeLabel_29 : decode cX7_writeLabel 29 = .ok (.invokevirtual 276, 3) := by decide +kernel
theorem dX7_writeLabel_32 : decode cX7_writeLabel 32 = .ok (.ireturn, 1) := by decide +kernel
theorem dX7_labelAt_0 : decode cX7_labelAt 0 = .ok (.iload_n 1, 1) := by decide +kernel
theorem dX7_labelAt_1 : decode cX7_labelAt 1 = .ok (.ifCond .lt 14, 3) := by decide +kernel
theorem dX7_labelAt_4 : decode cX7_labelAt 4 = .ok (.iload_n 1, 1) := by decide +kernel
theorem dX7_labelAt_5 : decode cX7_labelAt 5 = .ok (.aload_n 0, 1) := by decide +kernel
theorem dX7_labelAt_6 : decode cX7_labelAt 6 = .ok (.getfield 39, 3) := by decide +kernel
theorem dX7_labelAt_9 : decode cX7_labelAt 9 = .ok (.invokevirtual 276, 3) := by decide +kernel
theorem dX7_labelAt_12 : decode cX7_labelAt 12 = .ok (.if_icmp .lt 14, 3) := by decide +kernel
theorem dX7_labelAt_15 : decode cX7_labelAt 15 = .ok (.new 198, 3) := by decide +kernel
theorem dX7_labelAt_18 : decode cX7_labelAt 18 = .ok (.dup, 1) := by decide +kernel
theorem dX7_labelAt_19 : decode cX7_labelAt 19 = .ok (.ldc_w 279, 3) := by decide +kernel
theorem dX7_labelAt_22 : decode cX7_labelAt 22 = .ok (.invokespecial 202, 3) := by decide +kernel
theorem dX7_labelAt_25 : decode cX7_labelAt 25 = .ok (.athrow, 1) := by decide +kernel
theorem dX7_labelAt_26 : decode cX7_labelAt 26 = .ok (.aload_n 0, 1) := by decide +kernel
theorem dX7_labelAt_27 : decode cX7_labelAt 27 = .ok (.getfield 39, 3) := by decide +kernel
theorem dX7_labelAt_30 : decode cX7_labelAt 30 = .ok (.iload_n 1, 1) := by decide +kernel
theorem dX7_labelAt_31 : decode cX7_labelAt 31 = .ok (.invokevirtual 281, 3) := by decide +kernel
theorem dX7_labelAt_34 : decode cX7_labelAt 34 = .ok (.ireturn, 1) := by decide +kernel
theorem dX7_type_0 : decode cX7_type 0 = .ok (.iload_n 1, 1) := by decide +kernel
theorem dX7_type_1 : decode cX7_type 1 = .ok (.bipush 32, 2) := by decide +kernel
theorem dX7_type_3 : decode cX7_type 3 = .ok (.if_icmp .lt 9, 3) := by decide +kernel
theorem dX7_type_6 : decode cX7_type 6 = .ok (.iload_n 1, 1) := by decide +kernel
theorem dX7_type_7 : decode cX7_type 7 = .ok (.bipush 126, 2) := by decide +kernel
theorem dX7_type_9 : decode cX7_type 9 = .ok (.if_icmp .le 14, 3) := by decide +kernel
theorem dX7_type_12 : decode cX7_type 12 = .ok (.new 285, 3) := by decide +kernel
theorem dX7_type_15 : decode cX7_type 15 = .ok (.dup, 1) := by decide +kernel
theorem dX7_type_16 : decode cX7_type 16 = .ok (.ldc_w 287, 3) := by decide +kernel
theorem dX7_type_19 : decode cX7_type 19 = .ok (.invokespecial 289, 3) := by decide +kernel
theorem dX7_type_22 : decode cX7_type 22 = .ok (.athrow, 1) := by decide +kernel
theorem dX7_type_23 : decode cX7_type 23 = .ok (.aload_n 0, 1) := by decide +kernel
theorem dX7_type_24 : decode cX7_type 24 = .ok (.getfield 32, 3) := by decide +kernel
theorem dX7_type_27 : decode cX7_type 27 = .ok (.invokevirtual 290, 3) := by decide +kernel
theorem dX7_type_30 : decode cX7_type 30 = .ok (.ifCond .eq 14, 3) := by decide +kernel
theorem dX7_type_33 : decode cX7_type 33 = .ok (.new 293, 3) := by decide +kernel
theorem dX7_type_36 : decode cX7_type 36 = .ok (.dup, 1) := by decide +kernel
theorem dX7_type_37 : decode cX7_type 37 = .ok (.ldc_w 295, 3) := by decide +kernel
theorem dX7_type_40 : decode cX7_type 40 = .ok (.invokespecial 297, 3) := by decide +kernel
theorem dX7_type_43 : decode cX7_type 43 = .ok (.athrow, 1) := by decide +kernel
theorem dX7_type_44 : decode cX7_type 44 = .ok (.aload_n 0, 1) := by decide +kernel
theorem dX7_type_45 : decode cX7_type 45 = .ok (.getfield 32, 3) := by decide +kernel
theorem dX7_type_48 : decode cX7_type 48 = .ok (.iload_n 1, 1) := by decide +kernel
theorem dX7_type_49 : decode cX7_type 49 = .ok (.invokevirtual 298, 3) := by decide +kernel
theorem dX7_type_52 : decode cX7_type 52 = .ok (.ireturn, 1) := by decide +kernel
theorem dX7_execute_0 : decode cX7_execute 0 = .ok (.aload_n 0, 1) := by decide +kernel
theorem dX7_execute_1 : decode cX7_execute 1 = .ok (.getfield 32, 3) := by decide +kernel
theorem dX7_execute_4 : decode cX7_execute 4 = .ok (.invokevirtual 302, 3) := by decide +kernel
theorem dX7_execute_7 : decode cX7_execute 7 = .ok (.istore_n 1, 1) := by decide +kernel
theorem dX7_execute_8 : decode cX7_execute 8 = .ok (.iload_n 1, 1) := by decide +kernel
theorem dX7_execute_9 : decode cX7_execute 9 = .ok (.iconst (-1), 1) := by decide +kernel
theorem dX7_execute_10 : decode cX7_execute 10 = .ok (.if_icmp .ne 32, 3) := by decide +kernel
theorem dX7_execute_13 : decode cX7_execute 13 = .ok (.aload_n 0, 1) := by decide +kernel
theorem dX7_execute_14 : decode cX7_execute 14 = .ok (.aload_n 0, 1) := by decide +kernel
theorem dX7_execute_15 : decode cX7_execute 15 = .ok (.getfield 32, 3) := by decide +kernel
theorem dX7_execute_18 : decode cX7_execute 18 = .ok (.getfield 305, 3) := by decide +kernel
theorem dX7_execute_21 : decode cX7_execute 21 = .ok (.putfield 54, 3) := by decide +kernel
theorem dX7_execute_24 : decode cX7_execute 24 = .ok (.aload_n 0, 1) := by decide +kernel
theorem dX7_execute_25 : decode cX7_execute 25 = .ok (.getfield 32, 3) := by decide +kernel
theorem dX7_execute_28 : decode cX7_execute 28 = .ok (.invokevirtual 308, 3) := by decide +kernel
theorem dX7_execute_31 : decode cX7_execute 31 = .ok (.new 285, 3) := by decide +kernel
theorem dX7_execute_34 : decode cX7_execute 34 = .ok (.dup, 1) := by decide +kernel
theorem dX7_execute_35 : decode cX7_execute 35 = .ok (.ldc_w 311, 3) := by decide +kernel
theorem dX7_execute_38 : decode cX7_execute 38 = .ok (.invokespecial 289, 3) := by decide +kernel
theorem dX7_execute_41 : decode cX7_execute 41 = .ok (.athrow, 1) := by decide +kernel
theorem dX7_execute_42 : decode cX7_execute 42 = .ok (.aload_n 0, 1) := by decide +kernel
theorem dX7_execute_43 : decode cX7_execute 43 = .ok (.getfield 16, 3) := by decide +kernel
theorem dX7_execute_46 : decode cX7_execute 46 = .ok (.aload_n 0, 1) := by decide +kernel
theorem dX7_execute_47 : decode cX7_execute 47 = .ok (.getfield 10, 3) := by decide +kernel
theorem dX7_execute_50 : decode cX7_execute 50 = .ok (.invokevirtual 313, 3) := by decide +kernel
theorem dX7_execute_53 : decode cX7_execute 53 = .ok (.aload_n 0, 1) := by decide +kernel
theorem dX7_execute_54 : decode cX7_execute 54 = .ok (.iload_n 1, 1) := by decide +kernel
theorem dX7_execute_55 : decode cX7_execute 55 = .ok (.invokevirtual 316, 3) := by decide +kernel
theorem dX7_execute_58 : decode cX7_execute 58 = .ok (.istore_n 2, 1) := by decide +kernel
theorem dX7_execute_59 : decode cX7_execute 59 = .ok (.aload_n 0, 1) := by decide +kernel
theorem dX7_execute_60 : decode cX7_execute 60 = .ok (.getfield 32, 3) := by decide +kernel
theorem dX7_execute_63 : decode cX7_execute 63 = .ok (.invokevirtual 308, 3) := by decide +kernel
theorem dX7_execute_66 : decode cX7_execute 66 = .ok (.iload_n 2, 1) := by decide +kernel
theorem dX7_execute_67 : decode cX7_execute 67 = .ok (.iload_n 1, 1) := by decide +kernel
theorem dX7_execute_68 : decode cX7_execute 68 = .ok (.if_icmp .ge 30, 3) := by decide +kernel
theorem dX7_execute_71 : decode cX7_execute 71 = .ok (.aload_n 0, 1) := by decide +kernel
theorem dX7_execute_72 : decode cX7_execute 72 = .ok (.getfield 10, 3) := by decide +kernel
theorem dX7_execute_75 : decode cX7_execute 75 = .ok (.aload_n 0, 1) := by decide +kernel
theorem dX7_execute_76 : decode cX7_execute 76 = .ok (.getfield 16, 3) := by decide +kernel
theorem dX7_execute_79 : decode cX7_execute 79 = .ok (.invokevirtual 313, 3) := by decide +kernel
theorem dX7_execute_82 : decode cX7_execute 82 = .ok (.aload_n 0, 1) := by decide +kernel
theorem dX7_execute_83 : decode cX7_execute 83 = .ok (.iload_n 2, 1) := by decide +kernel
theorem dX7_execute_84 : decode cX7_execute 84 = .ok (.putfield 57, 3) := by decide +kernel
theorem dX7_execute_87 : decode cX7_execute 87 = .ok (.new 293, 3) := by decide +kernel
theorem dX7_execute_90 : decode cX7_execute 90 = .ok (.dup, 1) := by decide +kernel
theorem dX7_execute_91 : decode cX7_execute 91 = .ok (.ldc_w 319, 3) := by decide +kernel
theorem dX7_execute_94 : decode cX7_execute 94 = .ok (.invokespecial 297, 3) := by decide +kernel
theorem dX7_execute_97 : decode cX7_execute 97 = .ok (.athrow, 1) := by decide +kernel
theorem dX7_execute_98 : decode cX7_execute 98 = .ok (.aload_n 0, 1) := by decide +kernel
theorem dX7_execute_99 : decode cX7_execute 99 = .ok (.getfield 25, 3) := by decide +kernel
theorem dX7_execute_102 : decode cX7_execute 102 = .ok (.aload_n 0, 1) := by decide +kernel
theorem dX7_execute_103 : decode cX7_execute 103 = .ok (.getfield 16, 3) := by decide +kernel
theorem dX7_execute_106 : decode cX7_execute 106 = .ok (.invokevirtual 68, 3) := by decide +kernel
theorem dX7_execute_109 : decode cX7_execute 109 = .ok (.iload_n 1, 1) := by decide +kernel
theorem dX7_execute_110 : decode cX7_execute 110 = .ok (.ireturn, 1) := by decide +kernel
theorem dX7_errorPosition_0 : decode cX7_errorPosition 0 = .ok (.aload_n 0, 1) := by decide +kernel
theorem dX7_errorPosition_1 : decode cX7_errorPosition 1 = .ok (.getfield 54, 3) := by decide +kernel
theorem dX7_errorPosition_4 : decode cX7_errorPosition 4 = .ok (.iconst (-1), 1) := by decide +kernel
theorem dX7_errorPosition_5 : decode cX7_errorPosition 5 = .ok (.if_icmp .ne 14, 3) := by decide +kernel
theorem dX7_errorPosition_8 : decode cX7_errorPosition 8 = .ok (.new 140, 3) := by decide +kernel
theorem dX7_errorPosition_11 : decode cX7_errorPosition 11 = .ok (.dup, 1) := by decide +kernel
theorem dX7_errorPosition_12 : decode cX7_errorPosition 12 = .ok (.ldc_w 321, 3) := by decide +kernel
theorem dX7_errorPosition_15 : decode cX7_errorPosition 15 = .ok (.invokespecial 144, 3) := by decide +kernel
theorem dX7_errorPosition_18 : decode cX7_errorPosition 18 = .ok (.athrow, 1) := by decide +kernel
theorem dX7_errorPosition_19 : decode cX7_errorPosition 19 = .ok (.aload_n 0, 1) := by decide +kernel
theorem dX7_errorPosition_20 : decode cX7_errorPosition 20 = .ok (.getfield 54, 3) := by decide +kernel
theorem dX7_errorPosition_23 : decode cX7_errorPosition 23 = .ok (.ireturn, 1) := by decide +kernel
theorem dX7_failedCommand_0 : decode cX7_failedCommand 0 = .ok (.aload_n 0, 1) := by decide +kernel
theorem dX7_failedCommand_1 : decode cX7_failedCommand 1 = .ok (.getfield 57, 3) := by decide +kernel
theorem dX7_failedCommand_4 : decode cX7_failedCommand 4 = .ok (.iconst (-1), 1) := by decide +kernel
theorem dX7_failedCommand_5 : decode cX7_failedCommand 5 = .ok (.if_icmp .ne 14, 3) := by decide +kernel
theorem dX7_failedCommand_8 : decode cX7_failedCommand 8 = .ok (.new 140, 3) := by decide +kernel
theorem dX7_failedCommand_11 : decode cX7_failedCommand 11 = .ok (.dup, 1) := by decide +kernel
theorem dX7_failedCommand_12 : decode cX7_failedCommand 12 = .ok (.ldc_w 323, 3) := by decide +kernel
theorem dX7_failedCommand_15 : decode cX7_failedCommand 15 = .ok (.invokespecial 144, 3) := by decide +kernel
theorem dX7_failedCommand_18 : decode cX7_failedCommand 18 = .ok (.athrow, 1) := by decide +kernel
theorem dX7_failedCommand_19 : decode cX7_failedCommand 19 = .ok (.aload_n 0, 1) := by decide +kernel
theorem dX7_failedCommand_20 : decode cX7_failedCommand 20 = .ok (.getfield 57, 3) := by decide +kernel
theorem dX7_failedCommand_23 : decode cX7_failedCommand 23 = .ok (.ireturn, 1) := by decide +kernel
theorem dX7_undo_0 : decode cX7_undo 0 = .ok (.aload_n 0, 1) := by decide +kernel
theorem dX7_undo_1 : decode cX7_undo 1 = .ok (.getfield 25, 3) := by decide +kernel
theorem dX7_undo_4 : decode cX7_undo 4 = .ok (.getfield 325, 3) := by decide +kernel
theorem dX7_undo_7 : decode cX7_undo 7 = .ok (.ifCond .ne 14, 3) := by decide +kernel
theorem dX7_undo_10 : decode cX7_undo 10 = .ok (.new 293, 3) := by decide +kernel
theorem dX7_undo_13 : decode cX7_undo 13 = .ok (.dup, 1) := by decide +kernel
theorem dX7_undo_14 : decode cX7_undo 14 = .ok (.ldc_w 328, 3) := by decide +kernel
theorem dX7_undo_17 : decode cX7_undo 17 = .ok (.invokespecial 297, 3) := by decide +kernel
theorem dX7_undo_20 : decode cX7_undo 20 = .ok (.athrow, 1) := by decide +kernel
theorem dX7_undo_21 : decode cX7_undo 21 = .ok (.aload_n 0, 1) := by decide +kernel
theorem dX7_undo_22 : decode cX7_undo 22 = .ok (.getfield 25, 3) := by decide +kernel
theorem dX7_undo_25 : decode cX7_undo 25 = .ok (.aload_n 0, 1) := by decide +kernel
theorem dX7_undo_26 : decode cX7_undo 26 = .ok (.getfield 10, 3) := by decide +kernel
theorem dX7_undo_29 : decode cX7_undo 29 = .ok (.invokevirtual 330, 3) := by decide +kernel
theorem dX7_undo_32 : decode cX7_undo 32 = .ok (.aload_n 0, 1) := by decide +kernel
theorem dX7_undo_33 : decode cX7_undo 33 = .ok (.getfield 25, 3) := by decide +kernel
theorem dX7_undo_36 : decode cX7_undo 36 = .ok (.getfield 325, 3) := by decide +kernel
theorem dX7_undo_39 : decode cX7_undo 39 = .ok (.ireturn, 1) := by decide +kernel
theorem dX7_save_0 : decode cX7_save 0 = .ok (.aload_n 0, 1) := by decide +kernel
theorem dX7_save_1 : decode cX7_save 1 = .ok (.getfield 19, 3) := by decide +kernel
theorem dX7_save_4 : decode cX7_save 4 = .ok (.aload_n 0, 1) := by decide +kernel
theorem dX7_save_5 : decode cX7_save 5 = .ok (.getfield 10, 3) := by decide +kernel
theorem dX7_save_8 : decode cX7_save 8 = .ok (.invokevirtual 313, 3) := by decide +kernel
theorem dX7_save_11 : decode cX7_save 11 = .ok (.aload_n 0, 1) := by decide +kernel
theorem dX7_save_12 : decode cX7_save 12 = .ok (.iconst 1, 1) := by decide +kernel
theorem dX7_save_13 : decode cX7_save 13 = .ok (.putfield 333, 3) := by decide +kernel
theorem dX7_save_16 : decode cX7_save 16 = .ok (.aload_n 0, 1) := by decide +kernel
theorem dX7_save_17 : decode cX7_save 17 = .ok (.getfield 10, 3) := by decide +kernel
theorem dX7_save_20 : decode cX7_save 20 = .ok (.invokevirtual 156, 3) := by decide +kernel
theorem dX7_save_23 : decode cX7_save 23 = .ok (.ireturn, 1) := by decide +kernel
theorem dX7_restore_0 : decode cX7_restore 0 = .ok (.aload_n 0, 1) := by decide +kernel
theorem dX7_restore_1 : decode cX7_restore 1 = .ok (.getfield 333, 3) := by decide +kernel
theorem dX7_restore_4 : decode cX7_restore 4 = .ok (.ifCond .ne 14, 3) := by decide +kernel
theorem dX7_restore_7 : decode cX7_restore 7 = .ok (.new 293, 3) := by decide +kernel
theorem dX7_restore_10 : decode cX7_restore 10 = .ok (.dup, 1) := by decide +kernel
theorem dX7_restore_11 : decode cX7_restore 11 = .ok (.ldc_w 336, 3) := by decide +kernel
theorem dX7_restore_14 : decode cX7_restore 14 = .ok (.invokespecial 297, 3) := by decide +kernel
theorem dX7_restore_17 : decode cX7_restore 17 = .ok (.athrow, 1) := by decide +kernel
theorem dX7_restore_18 : decode cX7_restore 18 = .ok (.aload_n 0, 1) := by decide +kernel
theorem dX7_restore_19 : decode cX7_restore 19 = .ok (.getfield 10, 3) := by decide +kernel
theorem dX7_restore_22 : decode cX7_restore 22 = .ok (.aload_n 0, 1) := by decide +kernel
theorem dX7_restore_23 : decode cX7_restore 23 = .ok (.getfield 19, 3) := by decide +kernel
theorem dX7_restore_26 : decode cX7_restore 26 = .ok (.invokevirtual 313, 3) := by decide +kernel
theorem dX7_restore_29 : decode cX7_restore 29 = .ok (.aload_n 0, 1) := by decide +kernel
theorem dX7_restore_30 : decode cX7_restore 30 = .ok (.getfield 25, 3) := by decide +kernel
theorem dX7_restore_33 : decode cX7_restore 33 = .ok (.invokevirtual 338, 3) := by decide +kernel
theorem dX7_restore_36 : decode cX7_restore 36 = .ok (.aload_n 0, 1) := by decide +kernel
theorem dX7_restore_37 : decode cX7_restore 37 = .ok (.getfield 10, 3) := by decide +kernel
theorem dX7_restore_40 : decode cX7_restore 40 = .ok (.invokevirtual 156, 3) := by decide +kernel
theorem dX7_restore_43 : decode cX7_restore 43 = .ok (.ireturn, 1) := by decide +kernel
theorem dX7_raise_0 : decode cX7_raise 0 = .ok (.aload_n 0, 1) := by decide +kernel
theorem dX7_raise_1 : decode cX7_raise 1 = .ok (.getstatic 339, 3) := by decide +kernel
theorem dX7_raise_4 : decode cX7_raise 4 = .ok (.if_acmp .ne 14, 3) := by decide +kernel
theorem dX7_raise_7 : decode cX7_raise 7 = .ok (.new 285, 3) := by decide +kernel
theorem dX7_raise_10 : decode cX7_raise 10 = .ok (.dup, 1) := by decide +kernel
theorem dX7_raise_11 : decode cX7_raise 11 = .ok (.ldc_w 342, 3) := by decide +kernel
theorem dX7_raise_14 : decode cX7_raise 14 = .ok (.invokespecial 289, 3) := by decide +kernel
theorem dX7_raise_17 : decode cX7_raise 17 = .ok (.athrow, 1) := by decide +kernel
theorem dX7_raise_18 : decode cX7_raise 18 = .ok (.aload_n 0, 1) := by decide +kernel
theorem dX7_raise_19 : decode cX7_raise 19 = .ok (.getstatic 344, 3) := by decide +kernel
theorem dX7_raise_22 : decode cX7_raise 22 = .ok (.if_acmp .ne 14, 3) := by decide +kernel
theorem dX7_raise_25 : decode cX7_raise 25 = .ok (.new 140, 3) := by decide +kernel
theorem dX7_raise_28 : decode cX7_raise 28 = .ok (.dup, 1) := by decide +kernel
theorem dX7_raise_29 : decode cX7_raise 29 = .ok (.ldc_w 347, 3) := by decide +kernel
theorem dX7_raise_32 : decode cX7_raise 32 = .ok (.invokespecial 144, 3) := by decide +kernel
theorem dX7_raise_35 : decode cX7_raise 35 = .ok (.athrow, 1) := by decide +kernel
theorem dX7_raise_36 : decode cX7_raise 36 = .ok (.aload_n 0, 1) := by decide +kernel
theorem dX7_raise_37 : decode cX7_raise 37 = .ok (.getstatic 349, 3) := by decide +kernel
theorem dX7_raise_40 : decode cX7_raise 40 = .ok (.if_acmp .ne 14, 3) := by decide +kernel
theorem dX7_raise_43 : decode cX7_raise 43 = .ok (.new 198, 3) := by decide +kernel
theorem dX7_raise_46 : decode cX7_raise 46 = .ok (.dup, 1) := by decide +kernel
theorem dX7_raise_47 : decode cX7_raise 47 = .ok (.ldc_w 352, 3) := by decide +kernel
theorem dX7_raise_50 : decode cX7_raise 50 = .ok (.invokespecial 202, 3) := by decide +kernel
theorem dX7_raise_53 : decode cX7_raise 53 = .ok (.athrow, 1) := by decide +kernel
theorem dX7_raise_54 : decode cX7_raise 54 = .ok (.aload_n 0, 1) := by decide +kernel
theorem dX7_raise_55 : decode cX7_raise 55 = .ok (.getstatic 354, 3) := by decide +kernel
theorem dX7_raise_58 : decode cX7_raise 58 = .ok (.if_acmp .ne 14, 3) := by decide +kernel
theorem dX7_raise_61 : decode cX7_raise 61 = .ok (.new 293, 3) := by decide +kernel
theorem dX7_raise_64 : decode cX7_raise 64 = .ok (.dup, 1) := by decide +kernel
theorem dX7_raise_65 : decode cX7_raise 65 = .ok (.ldc_w 357, 3) := by decide +kernel
theorem dX7_raise_68 : decode cX7_raise 68 = .ok (.invokespecial 297, 3) := by decide +kernel
theorem dX7_raise_71 : decode cX7_raise 71 = .ok (.athrow, 1) := by decide +kernel
theorem dX7_raise_72 : decode cX7_raise 72 = .ok (.aload_n 0, 1) := by decide +kernel
theorem dX7_raise_73 : decode cX7_raise 73 = .ok (.getstatic 359, 3) := by decide +kernel
theorem dX7_raise_76 : decode cX7_raise 76 = .ok (.if_acmp .ne 14, 3) := by decide +kernel
theorem dX7_raise_79 : decode cX7_raise 79 = .ok (.new 362, 3) := by decide +kernel
theorem dX7_raise_82 : decode cX7_raise 82 = .ok (.dup, 1) := by decide +kernel
theorem dX7_raise_83 : decode cX7_raise 83 = .ok (.ldc_w 364, 3) := by decide +kernel
theorem dX7_raise_86 : decode cX7_raise 86 = .ok (.invokespecial 366, 3) := by decide +kernel
theorem dX7_raise_89 : decode cX7_raise 89 = .ok (.athrow, 1) := by decide +kernel
theorem dX7_raise_90 : decode cX7_raise 90 = .ok (.return_, 1) := by decide +kernel
theorem dX7_requireItem_0 : decode cX7_requireItem 0 = .ok (.aload_n 0, 1) := by decide +kernel
theorem dX7_requireItem_1 : decode cX7_requireItem 1 = .ok (.getfield 10, 3) := by decide +kernel
theorem dX7_requireItem_4 : decode cX7_requireItem 4 = .ok (.iload_n 1, 1) := by decide +kernel
theorem dX7_requireItem_5 : decode cX7_requireItem 5 = .ok (.invokevirtual 162, 3) := by decide +kernel
theorem dX7_requireItem_8 : decode cX7_requireItem 8 = .ok (.astore_n 2, 1) := by decide +kernel
theorem dX7_requireItem_9 : decode cX7_requireItem 9 = .ok (.aload_n 2, 1) := by decide +kernel
theorem dX7_requireItem_10 : decode cX7_requireItem 10 = .ok (.invokevirtual 165, 3) := by decide +kernel
theorem dX7_requireItem_13 : decode cX7_requireItem 13 = .ok (.ifCond .ne 14, 3) := by decide +kernel
theorem dX7_requireItem_16 : decode cX7_requireItem 16 = .ok (.new 140, 3) := by decide +kernel
theorem dX7_requireItem_19 : decode cX7_requireItem 19 = .ok (.dup, 1) := by decide +kernel
theorem dX7_requireItem_20 : decode cX7_requireItem 20 = .ok (.ldc_w 347, 3) := by decide +kernel
theorem dX7_requireItem_23 : decode cX7_requireItem 23 = .ok (.invokespecial 144, 3) := by decide +kernel
theorem dX7_requireItem_26 : decode cX7_requireItem 26 = .ok (.athrow, 1) := by decide +kernel
theorem dX7_requireItem_27 : decode cX7_requireItem 27 = .ok (.aload_n 2, 1) := by decide +kernel
theorem dX7_requireItem_28 : decode cX7_requireItem 28 = .ok (.areturn, 1) := by decide +kernel
theorem dX7_requirePacked_0 : decode cX7_requirePacked 0 = .ok (.aload_n 0, 1) := by decide +kernel
theorem dX7_requirePacked_1 : decode cX7_requirePacked 1 = .ok (.getfield 10, 3) := by decide +kernel
theorem dX7_requirePacked_4 : decode cX7_requirePacked 4 = .ok (.iload_n 1, 1) := by decide +kernel
theorem dX7_requirePacked_5 : decode cX7_requirePacked 5 = .ok (.invokevirtual 162, 3) := by decide +kernel
theorem dX7_requirePacked_8 : decode cX7_requirePacked 8 = .ok (.astore_n 2, 1) := by decide +kernel
theorem dX7_requirePacked_9 : decode cX7_requirePacked 9 = .ok (.aload_n 2, 1) := by decide +kernel
theorem dX7_requirePacked_10 : decode cX7_requirePacked 10 = .ok (.invokevirtual 183, 3) := by decide +kernel
theorem dX7_requirePacked_13 : decode cX7_requirePacked 13 = .ok (.ifCond .ne 14, 3) := by decide +kernel
theorem dX7_requirePacked_16 : decode cX7_requirePacked 16 = .ok (.new 140, 3) := by decide +kernel
theorem dX7_requirePacked_19 : decode cX7_requirePacked 19 = .ok (.dup, 1) := by decide +kernel
theorem dX7_requirePacked_20 : decode cX7_requirePacked 20 = .ok (.ldc_w 367, 3) := by decide +kernel
theorem dX7_requirePacked_23 : decode cX7_requirePacked 23 = .ok (.invokespecial 144, 3) := by decide +kernel
theorem dX7_requirePacked_26 : decode cX7_requirePacked 26 = .ok (.athrow, 1) := by decide +kernel
theorem dX7_requirePacked_27 : decode cX7_requirePacked 27 = .ok (.aload_n 2, 1) := by decide +kernel
theorem dX7_requirePacked_28 : decode cX7_requirePacked 28 = .ok (.areturn, 1) := by decide +kernel
theorem dX7_requireBag_0 : decode cX7_requireBag 0 = .ok (.aload_n 0, 1) := by decide +kernel
theorem dX7_requireBag_1 : decode cX7_requireBag 1 = .ok (.getfield 10, 3) := by decide +kernel
theorem dX7_requireBag_4 : decode cX7_requireBag 4 = .ok (.iload_n 1, 1) := by decide +kernel
theorem dX7_requireBag_5 : decode cX7_requireBag 5 = .ok (.invokevirtual 369, 3) := by decide +kernel
theorem dX7_requireBag_8 : decode cX7_requireBag 8 = .ok (.ifCond .ne 14, 3) := by decide +kernel
theorem dX7_requireBag_11 : decode cX7_requireBag 11 = .ok (.new 198, 3) := by decide +kernel
theorem dX7_requireBag_14 : decode cX7_requireBag 14 = .ok (.dup, 1) := by decide +kernel
theorem dX7_requireBag_15 : decode cX7_requireBag 15 = .ok (.ldc_w 352, 3) := by decide +kernel
theorem dX7_requireBag_18 : decode cX7_requireBag 18 = .ok (.invokespecial 202, 3) := by decide +kernel
theorem dX7_requireBag_21 : decode cX7_requireBag 21 = .ok (.athrow, 1) := by decide +kernel
theorem dX7_requireBag_22 : decode cX7_requireBag 22 = .ok (.return_, 1) := by decide +kernel
theorem dX7_requireLayer_0 : decode cX7_requireLayer 0 = .ok (.aload_n 0, 1) := by decide +kernel
theorem dX7_requireLayer_1 : decode cX7_requireLayer 1 = .ok (.iload_n 1, 1) := by decide +kernel
theorem dX7_requireLayer_2 : decode cX7_requireLayer 2 = .ok (.invokevirtual 106, 3) := by decide +kernel
theorem dX7_requireLayer_5 : decode cX7_requireLayer 5 = .ok (.iload_n 2, 1) := by decide +kernel
theorem dX7_requireLayer_6 : decode cX7_requireLayer 6 = .ok (.ifCond .lt 15, 3) := by decide +kernel
theorem dX7_requireLayer_9 : decode cX7_requireLayer 9 = .ok (.iload_n 2, 1) := by decide +kernel
theorem dX7_requireLayer_10 : decode cX7_requireLayer 10 = .ok (.aload_n 0, 1) := by decide +kernel
theorem dX7_requireLayer_11 : decode cX7_requireLayer 11 = .ok (.getfield 10, 3) := by decide +kernel
theorem dX7_requireLayer_14 : decode cX7_requireLayer 14 = .ok (.iload_n 1, 1) := by decide +kernel
theorem dX7_requireLayer_15 : decode cX7_requireLayer 15 = .ok (.invokevirtual 221, 3) := by decide +kernel
theorem dX7_requireLayer_18 : decode cX7_requireLayer 18 = .ok (.if_icmp .lt 14, 3) := by decide +kernel
theorem dX7_requireLayer_21 : decode cX7_requireLayer 21 = .ok (.new 198, 3) := by decide +kernel
theorem dX7_requireLayer_24 : decode cX7_requireLayer 24 = .ok (.dup, 1) := by decide +kernel
theorem dX7_requireLayer_25 : decode cX7_requireLayer 25 = .ok (.ldc_w 373, 3) := by decide +kernel
theorem dX7_requireLayer_28 : decode cX7_requireLayer 28 = .ok (.invokespecial 202, 3) := by decide +kernel
theorem dX7_requireLayer_31 : decode cX7_requireLayer 31 = .ok (.athrow, 1) := by decide +kernel
theorem dX7_requireLayer_32 : decode cX7_requireLayer 32 = .ok (.return_, 1) := by decide +kernel
theorem dX7_keepRefusal_0 : decode cX7_keepRefusal 0 = .ok (.aload_n 1, 1) := by decide +kernel
theorem dX7_keepRefusal_1 : decode cX7_keepRefusal 1 = .ok (.getstatic 359, 3) := by decide +kernel
theorem dX7_keepRefusal_4 : decode cX7_keepRefusal 4 = .ok (.if_acmp .ne 28, 3) := by decide +kernel
theorem dX7_keepRefusal_7 : decode cX7_keepRefusal 7 = .ok (.aload_n 0, 1) := by decide +kernel
theorem dX7_keepRefusal_8 : decode cX7_keepRefusal 8 = .ok (.aload_n 0, 1) := by decide +kernel
theorem dX7_keepRefusal_9 : decode cX7_keepRefusal 9 = .ok (.getfield 10, 3) := by decide +kernel
theorem dX7_keepRefusal_12 : decode cX7_keepRefusal 12 = .ok (.aload_n 0, 1) := by decide +kernel
theorem dX7_keepRefusal_13 : decode cX7_keepRefusal 13 = .ok (.getfield 10, 3) := by decide +kernel
theorem dX7_keepRefusal_16 : decode cX7_keepRefusal 16 = .ok (.iload_n 2, 1) := by decide +kernel
theorem dX7_keepRefusal_17 : decode cX7_keepRefusal 17 = .ok (.invokevirtual 162, 3) := by decide +kernel
theorem dX7_keepRefusal_20 : decode cX7_keepRefusal 20 = .ok (.iload_n 3, 1) := by decide +kernel
theorem dX7_keepRefusal_21 : decode cX7_keepRefusal 21 = .ok (.invokevirtual 375, 3) := by decide +kernel
theorem dX7_keepRefusal_24 : decode cX7_keepRefusal 24 = .ok (.putfield 47, 3) := by decide +kernel
theorem dX7_keepRefusal_27 : decode cX7_keepRefusal 27 = .ok (.aload_n 0, 1) := by decide +kernel
theorem dX7_keepRefusal_28 : decode cX7_keepRefusal 28 = .ok (.iload_n 2, 1) := by decide +kernel
theorem dX7_keepRefusal_29 : decode cX7_keepRefusal 29 = .ok (.putfield 51, 3) := by decide +kernel
theorem dX7_keepRefusal_32 : decode cX7_keepRefusal 32 = .ok (.return_, 1) := by decide +kernel
theorem dX7_runCommands_0 : decode cX7_runCommands 0 = .ok (.aload_n 0, 1) := by decide +kernel
theorem dX7_runCommands_1 : decode cX7_runCommands 1 = .ok (.getfield 32, 3) := by decide +kernel
theorem dX7_runCommands_4 : decode cX7_runCommands 4 = .ok (.invokevirtual 379, 3) := by decide +kernel
theorem dX7_runCommands_7 : decode cX7_runCommands 7 = .ok (.iconst 0, 1) := by decide +kernel
theorem dX7_runCommands_8 : decode cX7_runCommands 8 = .ok (.istore_n 2, 1) := by decide +kernel
theorem dX7_runCommands_9 : decode cX7_runCommands 9 = .ok (.iload_n 2, 1) := by decide +kernel
theorem dX7_runCommands_10 : decode cX7_runCommands 10 = .ok (.iload_n 1, 1) := by decide +kernel
theorem dX7_runCommands_11 : decode cX7_runCommands 11 = .ok (.if_icmp .ge 66, 3) := by decide +kernel
theorem dX7_runCommands_14 : decode cX7_runCommands 14 = .ok (.aload_n 0, 1) := by decide +kernel
theorem dX7_runCommands_15 : decode cX7_runCommands 15 = .ok (.getfield 32, 3) := by decide +kernel
theorem dX7_runCommands_18 : decode cX7_runCommands 18 = .ok (.invokevirtual 382, 3) := by decide +kernel
theorem dX7_runCommands_21 : decode cX7_runCommands 21 = .ok (.pop, 1) := by decide +kernel
theorem dX7_runCommands_22 : decode cX7_runCommands 22 = .ok (.aload_n 0, 1) := by decide +kernel
theorem dX7_runCommands_23 : decode cX7_runCommands 23 = .ok (.invokevirtual 385, 3) := by decide +kernel
theorem dX7_runCommands_26 : decode cX7_runCommands 26 = .ok (.astore_n 3, 1) := by decide +kernel
theorem dX7_runCommands_27 : decode cX7_runCommands 27 = .ok (.aload_n 3, 1) := by decide +kernel
theorem dX7_runCommands_28 : decode cX7_runCommands 28 = .ok (.getstatic 110, 3) := by decide +kernel
theorem dX7_runCommands_31 : decode cX7_runCommands 31 = .ok (.if_acmp .eq 26, 3) := by decide +kernel
theorem dX7_runCommands_34 : decode cX7_runCommands 34 = .ok (.aload_n 0, 1) := by decide +kernel
theorem dX7_runCommands_35 : decode cX7_runCommands 35 = .ok (.aload_n 3, 1) := by decide +kernel
theorem dX7_runCommands_36 : decode cX7_runCommands 36 = .ok (.aload_n 0, 1) := by decide +kernel
theorem dX7_runCommands_37 : decode cX7_runCommands 37 = .ok (.getfield 32, 3) := by decide +kernel
theorem dX7_runCommands_40 : decode cX7_runCommands 40 = .ok (.iconst 0, 1) := by decide +kernel
theorem dX7_runCommands_41 : decode cX7_runCommands 41 = .ok (.invokevirtual 388, 3) := by decide +kernel
theorem dX7_runCommands_44 : decode cX7_runCommands 44 = .ok (.aload_n 0, 1) := by decide +kernel
theorem dX7_runCommands_45 : decode cX7_runCommands 45 = .ok (.getfield 32, 3) := by decide +kernel
theorem dX7_runCommands_48 : decode cX7_runCommands 48 = .ok (.iconst 1, 1) := by decide +kernel
theorem dX7_runCommands_49 : decode cX7_runCommands 49 = .ok (.invokevirtual 388, 3) := by decide +kernel
theorem dX7_runCommands_52 : decode cX7_runCommands 52 = .ok (.invokevirtual 94, 3) := by decide +kernel
theorem dX7_runCommands_55 : decode cX7_runCommands 55 = .ok (.iload_n 2, 1) := by decide +kernel
theorem dX7_runCommands_56 : decode cX7_runCommands 56 = .ok (.ireturn, 1) := by decide +kernel
theorem dX7_runCommands_57 : decode cX7_runCommands 57 = .ok (.aload_n 0, 1) := by decide +kernel
theorem dX7_runCommands_58 : decode cX7_runCommands 58 = .ok (.invokevirtual 391, 3) := by decide +kernel
theorem dX7_runCommands_61 : decode cX7_runCommands 61 = .ok (.aload_n 0, 1) := by decide +kernel
theorem dX7_runCommands_62 : decode cX7_runCommands 62 = .ok (.getfield 32, 3) := by decide +kernel
theorem dX7_runCommands_65 : decode cX7_runCommands 65 = .ok (.bipush 59, 2) := by decide +kernel
theorem dX7_runCommands_67 : decode cX7_runCommands 67 = .ok (.invokevirtual 394, 3) := by decide +kernel
theorem dX7_runCommands_70 : decode cX7_runCommands 70 = .ok (.pop, 1) := by decide +kernel
theorem dX7_runCommands_71 : decode cX7_runCommands 71 = .ok (.iinc 2 1, 3) := by decide +kernel
theorem dX7_runCommands_74 : decode cX7_runCommands 74 = .ok (.goto (-65), 3) := by decide +kernel
