/-! Decode rows by program. -/
theorem d_P_init_0 : decode c_P_init 0 = .ok (.aload_n 0, 1) := by decide +kernel
theorem d_P_init_1 : decode c_P_init 1 = .ok (.invokespecial 3, 3) := by decide +kernel
theorem d_P_init_4 : decode c_P_init 4 = .ok (.aload_n 0, 1) := by decide +kernel
theorem d_P_init_5 : decode c_P_init 5 = .ok (.bipush 90, 2) := by decide +kernel
theorem d_P_init_7 : decode c_P_init 7 = .ok (.anewarray 9, 3) := by decide +kernel
theorem d_P_init_10 : decode c_P_init 10 = .ok (.putfield 11, 3) := by decide +kernel
theorem d_P_init_13 : decode c_P_init 13 = .ok (.aload_n 0, 1) := by decide +kernel
theorem d_P_init_14 : decode c_P_init 14 = .ok (.bipush 90, 2) := by decide +kernel
theorem d_P_init_16 : decode c_P_init 16 = .ok (.anewarray 17, 3) := by decide +kernel
theorem d_P_init_19 : decode c_P_init 19 = .ok (.putfield 19, 3) := by decide +kernel
theorem d_P_init_22 : decode c_P_init 22 = .ok (.aload_n 0, 1) := by decide +kernel
theorem d_P_init_23 : decode c_P_init 23 = .ok (.bipush 90, 2) := by decide +kernel
theorem d_P_init_25 : decode c_P_init 25 = .ok (.anewarray 17, 3) := by decide +kernel
theorem d_P_init_28 : decode c_P_init 28 = .ok (.putfield 23, 3) := by decide +kernel
theorem d_P_init_31 : decode c_P_init 31 = .ok (.aload_n 0, 1) := by decide +kernel
theorem d_P_init_32 : decode c_P_init 32 = .ok (.bipush 90, 2) := by decide +kernel
theorem d_P_init_34 : decode c_P_init 34 = .ok (.anewarray 26, 3) := by decide +kernel
theorem d_P_init_37 : decode c_P_init 37 = .ok (.putfield 28, 3) := by decide +kernel
theorem d_P_init_40 : decode c_P_init 40 = .ok (.aload_n 0, 1) := by decide +kernel
theorem d_P_init_41 : decode c_P_init 41 = .ok (.bipush 90, 2) := by decide +kernel
theorem d_P_init_43 : decode c_P_init 43 = .ok (.newarray .boolean, 2) := by decide +kernel
theorem d_P_init_45 : decode c_P_init 45 = .ok (.putfield 32, 3) := by decide +kernel
theorem d_P_init_48 : decode c_P_init 48 = .ok (.aload_n 0, 1) := by decide +kernel
theorem d_P_init_49 : decode c_P_init 49 = .ok (.bipush 90, 2) := by decide +kernel
theorem d_P_init_51 : decode c_P_init 51 = .ok (.newarray .boolean, 2) := by decide +kernel
theorem d_P_init_53 : decode c_P_init 53 = .ok (.putfield 36, 3) := by decide +kernel
theorem d_P_init_56 : decode c_P_init 56 = .ok (.aload_n 0, 1) := by decide +kernel
theorem d_P_init_57 : decode c_P_init 57 = .ok (.bipush 90, 2) := by decide +kernel
theorem d_P_init_59 : decode c_P_init 59 = .ok (.newarray .int, 2) := by decide +kernel
theorem d_P_init_61 : decode c_P_init 61 = .ok (.putfield 39, 3) := by decide +kernel
theorem d_P_init_64 : decode c_P_init 64 = .ok (.return_, 1) := by decide +kernel
theorem d_P_nextTime_0 : decode c_P_nextTime 0 = .ok (.aload_n 0, 1) := by decide +kernel
theorem d_P_nextTime_1 : decode c_P_nextTime 1 = .ok (.getfield 43, 3) := by decide +kernel
theorem d_P_nextTime_4 : decode c_P_nextTime 4 = .ok (.iconst 1, 1) := by decide +kernel
theorem d_P_nextTime_5 : decode c_P_nextTime 5 = .ok (.iadd, 1) := by decide +kernel
theorem d_P_nextTime_6 : decode c_P_nextTime 6 = .ok (.ireturn, 1) := by decide +kernel
theorem d_P_learn_0 : decode c_P_learn 0 = .ok (.aload_n 0, 1) := by decide +kernel
theorem d_P_learn_1 : decode c_P_learn 1 = .ok (.getfield 11, 3) := by decide +kernel
theorem d_P_learn_4 : decode c_P_learn 4 = .ok (.aload_n 0, 1) := by decide +kernel
theorem d_P_learn_5 : decode c_P_learn 5 = .ok (.getfield 47, 3) := by decide +kernel
theorem d_P_learn_8 : decode c_P_learn 8 = .ok (.aload_n 1, 1) := by decide +kernel
theorem d_P_learn_9 : decode c_P_learn 9 = .ok (.aastore, 1) := by decide +kernel
theorem d_P_learn_10 : decode c_P_learn 10 = .ok (.aload_n 0, 1) := by decide +kernel
theorem d_P_learn_11 : decode c_P_learn 11 = .ok (.dup, 1) := by decide +kernel
theorem d_P_learn_12 : decode c_P_learn 12 = .ok (.getfield 47, 3) := by decide +kernel
theorem d_P_learn_15 : decode c_P_learn 15 = .ok (.iconst 1, 1) := by decide +kernel
theorem d_P_learn_16 : decode c_P_learn 16 = .ok (.iadd, 1) := by decide +kernel
theorem d_P_learn_17 : decode c_P_learn 17 = .ok (.putfield 47, 3) := by decide +kernel
theorem d_P_learn_20 : decode c_P_learn 20 = .ok (.aload_n 0, 1) := by decide +kernel
theorem d_P_learn_21 : decode c_P_learn 21 = .ok (.getfield 32, 3) := by decide +kernel
theorem d_P_learn_24 : decode c_P_learn 24 = .ok (.aload_n 1, 1) := by decide +kernel
theorem d_P_learn_25 : decode c_P_learn 25 = .ok (.getfield 50, 3) := by decide +kernel
theorem d_P_learn_28 : decode c_P_learn 28 = .ok (.iconst 1, 1) := by decide +kernel
theorem d_P_learn_29 : decode c_P_learn 29 = .ok (.bastore, 1) := by decide +kernel
theorem d_P_learn_30 : decode c_P_learn 30 = .ok (.aload_n 0, 1) := by decide +kernel
theorem d_P_learn_31 : decode c_P_learn 31 = .ok (.aload_n 0, 1) := by decide +kernel
theorem d_P_learn_32 : decode c_P_learn 32 = .ok (.getfield 43, 3) := by decide +kernel
theorem d_P_learn_35 : decode c_P_learn 35 = .ok (.aload_n 1, 1) := by decide +kernel
theorem d_P_learn_36 : decode c_P_learn 36 = .ok (.getfield 53, 3) := by decide +kernel
theorem d_P_learn_39 : decode c_P_learn 39 = .ok (.invokestatic 56, 3) := by decide +kernel
theorem d_P_learn_42 : decode c_P_learn 42 = .ok (.putfield 43, 3) := by decide +kernel
theorem d_P_learn_45 : decode c_P_learn 45 = .ok (.aload_n 1, 1) := by decide +kernel
theorem d_P_learn_46 : decode c_P_learn 46 = .ok (.aload_n 0, 1) := by decide +kernel
theorem d_P_learn_47 : decode c_P_learn 47 = .ok (.invokevirtual 62, 3) := by decide +kernel
theorem d_P_learn_50 : decode c_P_learn 50 = .ok (.aload_n 0, 1) := by decide +kernel
theorem d_P_learn_51 : decode c_P_learn 51 = .ok (.invokevirtual 66, 3) := by decide +kernel
theorem d_P_learn_54 : decode c_P_learn 54 = .ok (.return_, 1) := by decide +kernel
theorem d_P_knowsAllOf_0 : decode c_P_knowsAllOf 0 = .ok (.iconst 0, 1) := by decide +kernel
theorem d_P_knowsAllOf_1 : decode c_P_knowsAllOf 1 = .ok (.istore_n 2, 1) := by decide +kernel
theorem d_P_knowsAllOf_2 : decode c_P_knowsAllOf 2 = .ok (.iload_n 2, 1) := by decide +kernel
theorem d_P_knowsAllOf_3 : decode c_P_knowsAllOf 3 = .ok (.aload_n 1, 1) := by decide +kernel
theorem d_P_knowsAllOf_4 : decode c_P_knowsAllOf 4 = .ok (.getfield 47, 3) := by decide +kernel
theorem d_P_knowsAllOf_7 : decode c_P_knowsAllOf 7 = .ok (.if_icmp .ge 28, 3) := by decide +kernel
theorem d_P_knowsAllOf_10 : decode c_P_knowsAllOf 10 = .ok (.aload_n 0, 1) := by decide +kernel
theorem d_P_knowsAllOf_11 : decode c_P_knowsAllOf 11 = .ok (.getfield 32, 3) := by decide +kernel
theorem d_P_knowsAllOf_14 : decode c_P_knowsAllOf 14 = .ok (.aload_n 1, 1) := by decide +kernel
theorem d_P_knowsAllOf_15 : decode c_P_knowsAllOf 15 = .ok (.getfield 11, 3) := by decide +kernel
theorem d_P_knowsAllOf_18 : decode c_P_knowsAllOf 18 = .ok (.iload_n 2, 1) := by decide +kernel
theorem d_P_knowsAllOf_19 : decode c_P_knowsAllOf 19 = .ok (.aaload, 1) := by decide +kernel
theorem d_P_knowsAllOf_20 : decode c_P_knowsAllOf 20 = .ok (.getfield 50, 3) := by decide +kernel
theorem d_P_knowsAllOf_23 : decode c_P_knowsAllOf 23 = .ok (.baload, 1) := by decide +kernel
theorem d_P_knowsAllOf_24 : decode c_P_knowsAllOf 24 = .ok (.ifCond .ne 5, 3) := by decide +kernel
theorem d_P_knowsAllOf_27 : decode c_P_knowsAllOf 27 = .ok (.iconst 0, 1) := by decide +kernel
theorem d_P_knowsAllOf_28 : decode c_P_knowsAllOf 28 = .ok (.ireturn, 1) := by decide +kernel
theorem d_P_knowsAllOf_29 : decode c_P_knowsAllOf 29 = .ok (.iinc 2 1, 3) := by decide +kernel
theorem d_P_knowsAllOf_32 : decode c_P_knowsAllOf 32 = .ok (.goto (-30), 3) := by decide +kernel
theorem d_P_knowsAllOf_35 : decode c_P_knowsAllOf 35 = .ok (.iconst 1, 1) := by decide +kernel
theorem d_P_knowsAllOf_36 : decode c_P_knowsAllOf 36 = .ok (.ireturn, 1) := by decide +kernel
theorem d_P_putIntoRow_0 : decode c_P_putIntoRow 0 = .ok (.aload_n 1, 1) := by decide +kernel
theorem d_P_putIntoRow_1 : decode c_P_putIntoRow 1 = .ok (.getfield 69, 3) := by decide +kernel
theorem d_P_putIntoRow_4 : decode c_P_putIntoRow 4 = .ok (.ifnonnull 7, 3) := by decide +kernel
theorem d_P_putIntoRow_7 : decode c_P_putIntoRow 7 = .ok (.iconst 0, 1) := by decide +kernel
theorem d_P_putIntoRow_8 : decode c_P_putIntoRow 8 = .ok (.goto 17, 3) := by decide +kernel
theorem d_P_putIntoRow_11 : decode c_P_putIntoRow 11 = .ok (.aload_n 0, 1) := by decide +kernel
theorem d_P_putIntoRow_12 : decode c_P_putIntoRow 12 = .ok (.getfield 39, 3) := by decide +kernel
theorem d_P_putIntoRow_15 : decode c_P_putIntoRow 15 = .ok (.aload_n 1, 1) := by decide +kernel
theorem d_P_putIntoRow_16 : decode c_P_putIntoRow 16 = .ok (.getfield 69, 3) := by decide +kernel
theorem d_P_putIntoRow_19 : decode c_P_putIntoRow 19 = .ok (.getfield 73, 3) := by decide +kernel
theorem d_P_putIntoRow_22 : decode c_P_putIntoRow 22 = .ok (.iaload, 1) := by decide +kernel
theorem d_P_putIntoRow_23 : decode c_P_putIntoRow 23 = .ok (.iconst 1, 1) := by decide +kernel
theorem d_P_putIntoRow_24 : decode c_P_putIntoRow 24 = .ok (.iadd, 1) := by decide +kernel
theorem d_P_putIntoRow_25 : decode c_P_putIntoRow 25 = .ok (.istore_n 2, 1) := by decide +kernel
theorem d_P_putIntoRow_26 : decode c_P_putIntoRow 26 = .ok (.iload_n 2, 1) := by decide +kernel
theorem d_P_putIntoRow_27 : decode c_P_putIntoRow 27 = .ok (.aload_n 0, 1) := by decide +kernel
theorem d_P_putIntoRow_28 : decode c_P_putIntoRow 28 = .ok (.getfield 74, 3) := by decide +kernel
theorem d_P_putIntoRow_31 : decode c_P_putIntoRow 31 = .ok (.if_icmp .ge 25, 3) := by decide +kernel
theorem d_P_putIntoRow_34 : decode c_P_putIntoRow 34 = .ok (.aload_n 0, 1) := by decide +kernel
theorem d_P_putIntoRow_35 : decode c_P_putIntoRow 35 = .ok (.getfield 19, 3) := by decide +kernel
theorem d_P_putIntoRow_38 : decode c_P_putIntoRow 38 = .ok (.iload_n 2, 1) := by decide +kernel
theorem d_P_putIntoRow_39 : decode c_P_putIntoRow 39 = .ok (.aaload, 1) := by decide +kernel
theorem d_P_putIntoRow_40 : decode c_P_putIntoRow 40 = .ok (.getfield 77, 3) := by decide +kernel
theorem d_P_putIntoRow_43 : decode c_P_putIntoRow 43 = .ok (.aload_n 1, 1) := by decide +kernel
theorem d_P_putIntoRow_44 : decode c_P_putIntoRow 44 = .ok (.getfield 77, 3) := by decide +kernel
theorem d_P_putIntoRow_47 : decode c_P_putIntoRow 47 = .ok (.if_icmp .le 9, 3) := by decide +kernel
theorem d_P_putIntoRow_50 : decode c_P_putIntoRow 50 = .ok (.iinc 2 1, 3) := by decide +kernel
theorem d_P_putIntoRow_53 : decode c_P_putIntoRow 53 = .ok (.goto (-27), 3) := by decide +kernel
theorem d_P_putIntoRow_56 : decode c_P_putIntoRow 56 = .ok (.aload_n 0, 1) := by decide +kernel
theorem d_P_putIntoRow_57 : decode c_P_putIntoRow 57 = .ok (.getfield 74, 3) := by decide +kernel
theorem d_P_putIntoRow_60 : decode c_P_putIntoRow 60 = .ok (.istore_n 3, 1) := by decide +kernel
theorem d_P_putIntoRow_61 : decode c_P_putIntoRow 61 = .ok (.iload_n 3, 1) := by decide +kernel
theorem d_P_putIntoRow_62 : decode c_P_putIntoRow 62 = .ok (.iload_n 2, 1) := by decide +kernel
theorem d_P_putIntoRow_63 : decode c_P_putIntoRow 63 = .ok (.if_icmp .le 22, 3) := by decide +kernel
theorem d_P_putIntoRow_66 : decode c_P_putIntoRow 66 = .ok (.aload_n 0, 1) := by decide +kernel
theorem d_P_putIntoRow_67 : decode c_P_putIntoRow 67 = .ok (.iload_n 3, 1) := by decide +kernel
theorem d_P_putIntoRow_68 : decode c_P_putIntoRow 68 = .ok (.aload_n 0, 1) := by decide +kernel
theorem d_P_putIntoRow_69 : decode c_P_putIntoRow 69 = .ok (.getfield 19, 3) := by decide +kernel
theorem d_P_putIntoRow_72 : decode c_P_putIntoRow 72 = .ok (.iload_n 3, 1) := by decide +kernel
theorem d_P_putIntoRow_73 : decode c_P_putIntoRow 73 = .ok (.iconst 1, 1) := by decide +kernel
theorem d_P_putIntoRow_74 : decode c_P_putIntoRow 74 = .ok (.isub, 1) := by decide +kernel
theorem d_P_putIntoRow_75 : decode c_P_putIntoRow 75 = .ok (.aaload, 1) := by decide +kernel
theorem d_P_putIntoRow_76 : decode c_P_putIntoRow 76 = .ok (.invokevirtual 80, 3) := by decide +kernel
theorem d_P_putIntoRow_79 : decode c_P_putIntoRow 79 = .ok (.iinc 3 (-1), 3) := by decide +kernel
theorem d_P_putIntoRow_82 : decode c_P_putIntoRow 82 = .ok (.goto (-21), 3) := by decide +kernel
theorem d_P_putIntoRow_85 : decode c_P_putIntoRow 85 = .ok (.aload_n 0, 1) := by decide +kernel
theorem d_P_putIntoRow_86 : decode c_P_putIntoRow 86 = .ok (.iload_n 2, 1) := by decide +kernel
theorem d_P_putIntoRow_87 : decode c_P_putIntoRow 87 = .ok (.aload_n 1, 1) := by decide +kernel
theorem d_P_putIntoRow_88 : decode c_P_putIntoRow 88 = .ok (.invokevirtual 80, 3) := by decide +kernel
theorem d_P_putIntoRow_91 : decode c_P_putIntoRow 91 = .ok (.aload_n 0, 1) := by decide +kernel
theorem d_P_putIntoRow_92 : decode c_P_putIntoRow 92 = .ok (.dup, 1) := by decide +kernel
theorem d_P_putIntoRow_93 : decode c_P_putIntoRow 93 = .ok (.getfield 74, 3) := by decide +kernel
theorem d_P_putIntoRow_96 : decode c_P_putIntoRow 96 = .ok (.iconst 1, 1) := by decide +kernel
theorem d_P_putIntoRow_97 : decode c_P_putIntoRow 97 = .ok (.iadd, 1) := by decide +kernel
theorem d_P_putIntoRow_98 : decode c_P_putIntoRow 98 = .ok (.putfield 74, 3) := by decide +kernel
theorem d_P_putIntoRow_101 : decode c_P_putIntoRow 101 = .ok (.return_, 1) := by decide +kernel
theorem d_P_setInRow_0 : decode c_P_setInRow 0 = .ok (.aload_n 0, 1) := by decide +kernel
theorem d_P_setInRow_1 : decode c_P_setInRow 1 = .ok (.getfield 19, 3) := by decide +kernel
theorem d_P_setInRow_4 : decode c_P_setInRow 4 = .ok (.iload_n 1, 1) := by decide +kernel
theorem d_P_setInRow_5 : decode c_P_setInRow 5 = .ok (.aload_n 2, 1) := by decide +kernel
theorem d_P_setInRow_6 : decode c_P_setInRow 6 = .ok (.aastore, 1) := by decide +kernel
theorem d_P_setInRow_7 : decode c_P_setInRow 7 = .ok (.aload_n 0, 1) := by decide +kernel
theorem d_P_setInRow_8 : decode c_P_setInRow 8 = .ok (.getfield 39, 3) := by decide +kernel
theorem d_P_setInRow_11 : decode c_P_setInRow 11 = .ok (.aload_n 2, 1) := by decide +kernel
theorem d_P_setInRow_12 : decode c_P_setInRow 12 = .ok (.getfield 73, 3) := by decide +kernel
theorem d_P_setInRow_15 : decode c_P_setInRow 15 = .ok (.iload_n 1, 1) := by decide +kernel
theorem d_P_setInRow_16 : decode c_P_setInRow 16 = .ok (.iastore, 1) := by decide +kernel
theorem d_P_setInRow_17 : decode c_P_setInRow 17 = .ok (.return_, 1) := by decide +kernel
theorem d_P_addMarking_0 : decode c_P_addMarking 0 = .ok (.aload_n 0, 1) := by decide +kernel
theorem d_P_addMarking_1 : decode c_P_addMarking 1 = .ok (.getfield 84, 3) := by decide +kernel
theorem d_P_addMarking_4 : decode c_P_addMarking 4 = .ok (.istore_n 2, 1) := by decide +kernel
theorem d_P_addMarking_5 : decode c_P_addMarking 5 = .ok (.iload_n 2, 1) := by decide +kernel
theorem d_P_addMarking_6 : decode c_P_addMarking 6 = .ok (.ifCond .le 41, 3) := by decide +kernel
theorem d_P_addMarking_9 : decode c_P_addMarking 9 = .ok (.aload_n 0, 1) := by decide +kernel
theorem d_P_addMarking_10 : decode c_P_addMarking 10 = .ok (.getfield 28, 3) := by decide +kernel
theorem d_P_addMarking_13 : decode c_P_addMarking 13 = .ok (.iload_n 2, 1) := by decide +kernel
theorem d_P_addMarking_14 : decode c_P_addMarking 14 = .ok (.iconst 1, 1) := by decide +kernel
theorem d_P_addMarking_15 : decode c_P_addMarking 15 = .ok (.isub, 1) := by decide +kernel
theorem d_P_addMarking_16 : decode c_P_addMarking 16 = .ok (.aaload, 1) := by decide +kernel
theorem d_P_addMarking_17 : decode c_P_addMarking 17 = .ok (.getfield 87, 3) := by decide +kernel
theorem d_P_addMarking_20 : decode c_P_addMarking 20 = .ok (.aload_n 1, 1) := by decide +kernel
theorem d_P_addMarking_21 : decode c_P_addMarking 21 = .ok (.getfield 87, 3) := by decide +kernel
theorem d_P_addMarking_24 : decode c_P_addMarking 24 = .ok (.if_icmp .le 23, 3) := by decide +kernel
theorem d_P_addMarking_27 : decode c_P_addMarking 27 = .ok (.aload_n 0, 1) := by decide +kernel
theorem d_P_addMarking_28 : decode c_P_addMarking 28 = .ok (.getfield 28, 3) := by decide +kernel
theorem d_P_addMarking_31 : decode c_P_addMarking 31 = .ok (.iload_n 2, 1) := by decide +kernel
theorem d_P_addMarking_32 : decode c_P_addMarking 32 = .ok (.aload_n 0, 1) := by decide +kernel
theorem d_P_addMarking_33 : decode c_P_addMarking 33 = .ok (.getfield 28, 3) := by decide +kernel
theorem d_P_addMarking_36 : decode c_P_addMarking 36 = .ok (.iload_n 2, 1) := by decide +kernel
theorem d_P_addMarking_37 : decode c_P_addMarking 37 = .ok (.iconst 1, 1) := by decide +kernel
theorem d_P_addMarking_38 : decode c_P_addMarking 38 = .ok (.isub, 1) := by decide +kernel
theorem d_P_addMarking_39 : decode c_P_addMarking 39 = .ok (.aaload, 1) := by decide +kernel
theorem d_P_addMarking_40 : decode c_P_addMarking 40 = .ok (.aastore, 1) := by decide +kernel
theorem d_P_addMarking_41 : decode c_P_addMarking 41 = .ok (.iinc 2 (-1), 3) := by decide +kernel
theorem d_P_addMarking_44 : decode c_P_addMarking 44 = .ok (.goto (-39), 3) := by decide +kernel
theorem d_P_addMarking_47 : decode c_P_addMarking 47 = .ok (.aload_n 0, 1) := by decide +kernel
theorem d_P_addMarking_48 : decode c_P_addMarking 48 = .ok (.getfield 28, 3) := by decide +kernel
theorem d_P_addMarking_51 : decode c_P_addMarking 51 = .ok (.iload_n 2, 1) := by decide +kernel
theorem d_P_addMarking_52 : decode c_P_addMarking 52 = .ok (.aload_n 1, 1) := by decide +kernel
theorem d_P_addMarking_53 : decode c_P_addMarking 53 = .ok (.aastore, 1) := by decide +kernel
theorem d_P_addMarking_54 : decode c_P_addMarking 54 = .ok (.aload_n 0, 1) := by decide +kernel
theorem d_P_addMarking_55 : decode c_P_addMarking 55 = .ok (.dup, 1) := by decide +kernel
theorem d_P_addMarking_56 : decode c_P_addMarking 56 = .ok (.getfield 84, 3) := by decide +kernel
theorem d_P_addMarking_59 : decode c_P_addMarking 59 = .ok (.iconst 1, 1) := by decide +kernel
theorem d_P_addMarking_60 : decode c_P_addMarking 60 = .ok (.iadd, 1) := by decide +kernel
theorem d_P_addMarking_61 : decode c_P_addMarking 61 = .ok (.putfield 84, 3) := by decide +kernel
theorem d_P_addMarking_64 : decode c_P_addMarking 64 = .ok (.return_, 1) := by decide +kernel
theorem d_P_gatherText_0 : decode c_P_gatherText 0 = .ok (.aload_n 0, 1) := by decide +kernel
theorem d_P_gatherText_1 : decode c_P_gatherText 1 = .ok (.iconst 0, 1) := by decide +kernel
theorem d_P_gatherText_2 : decode c_P_gatherText 2 = .ok (.putfield 88, 3) := by decide +kernel
theorem d_P_gatherText_5 : decode c_P_gatherText 5 = .ok (.iconst 0, 1) := by decide +kernel
theorem d_P_gatherText_6 : decode c_P_gatherText 6 = .ok (.istore_n 1, 1) := by decide +kernel
theorem d_P_gatherText_7 : decode c_P_gatherText 7 = .ok (.iload_n 1, 1) := by decide +kernel
theorem d_P_gatherText_8 : decode c_P_gatherText 8 = .ok (.aload_n 0, 1) := by decide +kernel
theorem d_P_gatherText_9 : decode c_P_gatherText 9 = .ok (.getfield 74, 3) := by decide +kernel
theorem d_P_gatherText_12 : decode c_P_gatherText 12 = .ok (.if_icmp .ge 51, 3) := by decide +kernel
theorem d_P_gatherText_15 : decode c_P_gatherText 15 = .ok (.aload_n 0, 1) := by decide +kernel
theorem d_P_gatherText_16 : decode c_P_gatherText 16 = .ok (.getfield 36, 3) := by decide +kernel
theorem d_P_gatherText_19 : decode c_P_gatherText 19 = .ok (.aload_n 0, 1) := by decide +kernel
theorem d_P_gatherText_20 : decode c_P_gatherText 20 = .ok (.getfield 19, 3) := by decide +kernel
theorem d_P_gatherText_23 : decode c_P_gatherText 23 = .ok (.iload_n 1, 1) := by decide +kernel
theorem d_P_gatherText_24 : decode c_P_gatherText 24 = .ok (.aaload, 1) := by decide +kernel
theorem d_P_gatherText_25 : decode c_P_gatherText 25 = .ok (.getfield 73, 3) := by decide +kernel
theorem d_P_gatherText_28 : decode c_P_gatherText 28 = .ok (.baload, 1) := by decide +kernel
theorem d_P_gatherText_29 : decode c_P_gatherText 29 = .ok (.ifCond .ne 28, 3) := by decide +kernel
theorem d_P_gatherText_32 : decode c_P_gatherText 32 = .ok (.aload_n 0, 1) := by decide +kernel
theorem d_P_gatherText_33 : decode c_P_gatherText 33 = .ok (.getfield 23, 3) := by decide +kernel
theorem d_P_gatherText_36 : decode c_P_gatherText 36 = .ok (.aload_n 0, 1) := by decide +kernel
theorem d_P_gatherText_37 : decode c_P_gatherText 37 = .ok (.getfield 88, 3) := by decide +kernel
theorem d_P_gatherText_40 : decode c_P_gatherText 40 = .ok (.aload_n 0, 1) := by decide +kernel
theorem d_P_gatherText_41 : decode c_P_gatherText 41 = .ok (.getfield 19, 3) := by decide +kernel
theorem d_P_gatherText_44 : decode c_P_gatherText 44 = .ok (.iload_n 1, 1) := by decide +kernel
theorem d_P_gatherText_45 : decode c_P_gatherText 45 = .ok (.aaload, 1) := by decide +kernel
theorem d_P_gatherText_46 : decode c_P_gatherText 46 = .ok (.aastore, 1) := by decide +kernel
theorem d_P_gatherText_47 : decode c_P_gatherText 47 = .ok (.aload_n 0, 1) := by decide +kernel
theorem d_P_gatherText_48 : decode c_P_gatherText 48 = .ok (.dup, 1) := by decide +kernel
theorem d_P_gatherText_49 : decode c_P_gatherText 49 = .ok (.getfield 88, 3) := by decide +kernel
theorem d_P_gatherText_52 : decode c_P_gatherText 52 = .ok (.iconst 1, 1) := by decide +kernel
theorem d_P_gatherText_53 : decode c_P_gatherText 53 = .ok (.iadd, 1) := by decide +kernel
theorem d_P_gatherText_54 : decode c_P_gatherText 54 = .ok (.putfield 88, 3) := by decide +kernel
theorem d_P_gatherText_57 : decode c_P_gatherText 57 = .ok (.iinc 1 1, 3) := by decide +kernel
theorem d_P_gatherText_60 : decode c_P_gatherText 60 = .ok (.goto (-53), 3) := by decide +kernel
theorem d_P_gatherText_63 : decode c_P_gatherText 63 = .ok (.return_, 1) := by decide +kernel
theorem d_P_writingShownAt_0 : decode c_P_writingShownAt 0 = .ok (.iload_n 1, 1) := by decide +kernel
theorem d_P_writingShownAt_1 : decode c_P_writingShownAt 1 = .ok (.ifCond .lt 15, 3) := by decide +kernel
theorem d_P_writingShownAt_4 : decode c_P_writingShownAt 4 = .ok (.iload_n 1, 1) := by decide +kernel
theorem d_P_writingShownAt_5 : decode c_P_writingShownAt 5 = .ok (.aload_n 0, 1) := by decide +kernel
theorem d_P_writingShownAt_6 : decode c_P_writingShownAt 6 = .ok (.getfield 88, 3) := by decide +kernel
theorem d_P_writingShownAt_9 : decode c_P_writingShownAt 9 = .ok (.if_icmp .ge 7, 3) := by decide +kernel
theorem d_P_writingShownAt_12 : decode c_P_writingShownAt 12 = .ok (.iconst 1, 1) := by decide +kernel
theorem d_P_writingShownAt_13 : decode c_P_writingShownAt 13 = .ok (.goto 4, 3) := by decide +kernel
theorem d_P_writingShownAt_16 : decode c_P_writingShownAt 16 = .ok (.iconst 0, 1) := by decide +kernel
theorem d_P_writingShownAt_17 : decode c_P_writingShownAt 17 = .ok (.invokestatic 91, 3) := by decide +kernel
theorem d_P_writingShownAt_20 : decode c_P_writingShownAt 20 = .ok (.aload_n 0, 1) := by decide +kernel
theorem d_P_writingShownAt_21 : decode c_P_writingShownAt 21 = .ok (.getfield 23, 3) := by decide +kernel
theorem d_P_writingShownAt_24 : decode c_P_writingShownAt 24 = .ok (.iload_n 1, 1) := by decide +kernel
theorem d_P_writingShownAt_25 : decode c_P_writingShownAt 25 = .ok (.aaload, 1) := by decide +kernel
theorem d_P_writingShownAt_26 : decode c_P_writingShownAt 26 = .ok (.areturn, 1) := by decide +kernel
theorem d_P_formatOf_0 : decode c_P_formatOf 0 = .ok (.aload_n 0, 1) := by decide +kernel
theorem d_P_formatOf_1 : decode c_P_formatOf 1 = .ok (.getfield 39, 3) := by decide +kernel
theorem d_P_formatOf_4 : decode c_P_formatOf 4 = .ok (.aload_n 1, 1) := by decide +kernel
theorem d_P_formatOf_5 : decode c_P_formatOf 5 = .ok (.getfield 73, 3) := by decide +kernel
theorem d_P_formatOf_8 : decode c_P_formatOf 8 = .ok (.iaload, 1) := by decide +kernel
theorem d_P_formatOf_9 : decode c_P_formatOf 9 = .ok (.istore_n 2, 1) := by decide +kernel
theorem d_P_formatOf_10 : decode c_P_formatOf 10 = .ok (.iconst 0, 1) := by decide +kernel
theorem d_P_formatOf_11 : decode c_P_formatOf 11 = .ok (.istore_n 3, 1) := by decide +kernel
theorem d_P_formatOf_12 : decode c_P_formatOf 12 = .ok (.iconst 0, 1) := by decide +kernel
theorem d_P_formatOf_13 : decode c_P_formatOf 13 = .ok (.istore 4, 2) := by decide +kernel
theorem d_P_formatOf_15 : decode c_P_formatOf 15 = .ok (.iload 4, 2) := by decide +kernel
theorem d_P_formatOf_17 : decode c_P_formatOf 17 = .ok (.aload_n 0, 1) := by decide +kernel
theorem d_P_formatOf_18 : decode c_P_formatOf 18 = .ok (.getfield 84, 3) := by decide +kernel
theorem d_P_formatOf_21 : decode c_P_formatOf 21 = .ok (.if_icmp .ge 59, 3) := by decide +kernel
theorem d_P_formatOf_24 : decode c_P_formatOf 24 = .ok (.aload_n 0, 1) := by decide +kernel
theorem d_P_formatOf_25 : decode c_P_formatOf 25 = .ok (.getfield 28, 3) := by decide +kernel
theorem d_P_formatOf_28 : decode c_P_formatOf 28 = .ok (.iload 4, 2) := by decide +kernel
theorem d_P_formatOf_30 : decode c_P_formatOf 30 = .ok (.aaload, 1) := by decide +kernel
theorem d_P_formatOf_31 : decode c_P_formatOf 31 = .ok (.astore 5, 2) := by decide +kernel
theorem d_P_formatOf_33 : decode c_P_formatOf 33 = .ok (.aload 5, 2) := by decide +kernel
theorem d_P_formatOf_35 : decode c_P_formatOf 35 = .ok (.iload_n 2, 1) := by decide +kernel
theorem d_P_formatOf_36 : decode c_P_formatOf 36 = .ok (.aload_n 0, 1) := by decide +kernel
theorem d_P_formatOf_37 : decode c_P_formatOf 37 = .ok (.getfield 39, 3) := by decide +kernel
theorem d_P_formatOf_40 : decode c_P_formatOf 40 = .ok (.invokevirtual 95, 3) := by decide +kernel
theorem d_P_formatOf_43 : decode c_P_formatOf 43 = .ok (.ifCond .eq 31, 3) := by decide +kernel
theorem d_P_formatOf_46 : decode c_P_formatOf 46 = .ok (.aload 5, 2) := by decide +kernel
theorem d_P_formatOf_48 : decode c_P_formatOf 48 = .ok (.getfield 99, 3) := by decide +kernel
theorem d_P_formatOf_51 : decode c_P_formatOf 51 = .ok (.ifCond .eq 13, 3) := by decide +kernel
theorem d_P_formatOf_54 : decode c_P_formatOf 54 = .ok (.iload_n 3, 1) := by decide +kernel
theorem d_P_formatOf_55 : decode c_P_formatOf 55 = .ok (.aload 5, 2) := by decide +kernel
theorem d_P_formatOf_57 : decode c_P_formatOf 57 = .ok (.getfield 103, 3) := by decide +kernel
theorem d_P_formatOf_60 : decode c_P_formatOf 60 = .ok (.ior, 1) := by decide +kernel
theorem d_P_formatOf_61 : decode c_P_formatOf 61 = .ok (.goto 12, 3) := by decide +kernel
theorem d_P_formatOf_64 : decode c_P_formatOf 64 = .ok (.iload_n 3, 1) := by decide +kernel
theorem d_P_formatOf_65 : decode c_P_formatOf 65 = .ok (.aload 5, 2) := by decide +kernel
theorem d_P_formatOf_67 : decode c_P_formatOf 67 = .ok (.getfield 103, 3) := by decide +kernel
theorem d_P_formatOf_70 : decode c_P_formatOf 70 = .ok (.iconst (-1), 1) := by decide +kernel
theorem d_P_formatOf_71 : decode c_P_formatOf 71 = .ok (.ixor, 1) := by decide +kernel
theorem d_P_formatOf_72 : decode c_P_formatOf 72 = .ok (.iand, 1) := by decide +kernel
theorem d_P_formatOf_73 : decode c_P_formatOf 73 = .ok (.istore_n 3, 1) := by decide +kernel
theorem d_P_formatOf_74 : decode c_P_formatOf 74 = .ok (.iinc 4 1, 3) := by decide +kernel
theorem d_P_formatOf_77 : decode c_P_formatOf 77 = .ok (.goto (-62), 3) := by decide +kernel
theorem d_P_formatOf_80 : decode c_P_formatOf 80 = .ok (.iload_n 3, 1) := by decide +kernel
theorem d_P_formatOf_81 : decode c_P_formatOf 81 = .ok (.ireturn, 1) := by decide +kernel
theorem d_P_startsRun_0 : decode c_P_startsRun 0 = .ok (.iload_n 1, 1) := by decide +kernel
theorem d_P_startsRun_1 : decode c_P_startsRun 1 = .ok (.ifCond .eq 28, 3) := by decide +kernel
theorem d_P_startsRun_4 : decode c_P_startsRun 4 = .ok (.aload_n 0, 1) := by decide +kernel
theorem d_P_startsRun_5 : decode c_P_startsRun 5 = .ok (.aload_n 0, 1) := by decide +kernel
theorem d_P_startsRun_6 : decode c_P_startsRun 6 = .ok (.getfield 23, 3) := by decide +kernel
theorem d_P_startsRun_9 : decode c_P_startsRun 9 = .ok (.iload_n 1, 1) := by decide +kernel
theorem d_P_startsRun_10 : decode c_P_startsRun 10 = .ok (.aaload, 1) := by decide +kernel
theorem d_P_startsRun_11 : decode c_P_startsRun 11 = .ok (.invokevirtual 106, 3) := by decide +kernel
theorem d_P_startsRun_14 : decode c_P_startsRun 14 = .ok (.aload_n 0, 1) := by decide +kernel
theorem d_P_startsRun_15 : decode c_P_startsRun 15 = .ok (.aload_n 0, 1) := by decide +kernel
theorem d_P_startsRun_16 : decode c_P_startsRun 16 = .ok (.getfield 23, 3) := by decide +kernel
theorem d_P_startsRun_19 : decode c_P_startsRun 19 = .ok (.iload_n 1, 1) := by decide +kernel
theorem d_P_startsRun_20 : decode c_P_startsRun 20 = .ok (.iconst 1, 1) := by decide +kernel
theorem d_P_startsRun_21 : decode c_P_startsRun 21 = .ok (.isub, 1) := by decide +kernel
theorem d_P_startsRun_22 : decode c_P_startsRun 22 = .ok (.aaload, 1) := by decide +kernel
theorem d_P_startsRun_23 : decode c_P_startsRun 23 = .ok (.invokevirtual 106, 3) := by decide +kernel
theorem d_P_startsRun_26 : decode c_P_startsRun 26 = .ok (.if_icmp .eq 7, 3) := by decide +kernel
theorem d_P_startsRun_29 : decode c_P_startsRun 29 = .ok (.iconst 1, 1) := by decide +kernel
theorem d_P_startsRun_30 : decode c_P_startsRun 30 = .ok (.goto 4, 3) := by decide +kernel
theorem d_P_startsRun_33 : decode c_P_startsRun 33 = .ok (.iconst 0, 1) := by decide +kernel
theorem d_P_startsRun_34 : decode c_P_startsRun 34 = .ok (.ireturn, 1) := by decide +kernel
theorem d_P_startOfRun_0 : decode c_P_startOfRun 0 = .ok (.iconst 0, 1) := by decide +kernel
theorem d_P_startOfRun_1 : decode c_P_startOfRun 1 = .ok (.istore_n 2, 1) := by decide +kernel
theorem d_P_startOfRun_2 : decode c_P_startOfRun 2 = .ok (.iconst 0, 1) := by decide +kernel
theorem d_P_startOfRun_3 : decode c_P_startOfRun 3 = .ok (.istore_n 3, 1) := by decide +kernel
theorem d_P_startOfRun_4 : decode c_P_startOfRun 4 = .ok (.iload_n 3, 1) := by decide +kernel
theorem d_P_startOfRun_5 : decode c_P_startOfRun 5 = .ok (.aload_n 0, 1) := by decide +kernel
theorem d_P_startOfRun_6 : decode c_P_startOfRun 6 = .ok (.getfield 88, 3) := by decide +kernel
theorem d_P_startOfRun_9 : decode c_P_startOfRun 9 = .ok (.if_icmp .ge 27, 3) := by decide +kernel
theorem d_P_startOfRun_12 : decode c_P_startOfRun 12 = .ok (.aload_n 0, 1) := by decide +kernel
theorem d_P_startOfRun_13 : decode c_P_startOfRun 13 = .ok (.iload_n 3, 1) := by decide +kernel
theorem d_P_startOfRun_14 : decode c_P_startOfRun 14 = .ok (.invokevirtual 110, 3) := by decide +kernel
theorem d_P_startOfRun_17 : decode c_P_startOfRun 17 = .ok (.ifCond .eq 13, 3) := by decide +kernel
theorem d_P_startOfRun_20 : decode c_P_startOfRun 20 = .ok (.iload_n 2, 1) := by decide +kernel
theorem d_P_startOfRun_21 : decode c_P_startOfRun 21 = .ok (.iload_n 1, 1) := by decide +kernel
theorem d_P_startOfRun_22 : decode c_P_startOfRun 22 = .ok (.if_icmp .ne 5, 3) := by decide +kernel
theorem d_P_startOfRun_25 : decode c_P_startOfRun 25 = .ok (.iload_n 3, 1) := by decide +kernel
theorem d_P_startOfRun_26 : decode c_P_startOfRun 26 = .ok (.ireturn, 1) := by decide +kernel
theorem d_P_startOfRun_27 : decode c_P_startOfRun 27 = .ok (.iinc 2 1, 3) := by decide +kernel
theorem d_P_startOfRun_30 : decode c_P_startOfRun 30 = .ok (.iinc 3 1, 3) := by decide +kernel
theorem d_P_startOfRun_33 : decode c_P_startOfRun 33 = .ok (.goto (-29), 3) := by decide +kernel
theorem d_P_startOfRun_36 : decode c_P_startOfRun 36 = .ok (.aload_n 0, 1) := by decide +kernel
theorem d_P_startOfRun_37 : decode c_P_startOfRun 37 = .ok (.getfield 88, 3) := by decide +kernel
theorem d_P_startOfRun_40 : decode c_P_startOfRun 40 = .ok (.ireturn, 1) := by decide +kernel
