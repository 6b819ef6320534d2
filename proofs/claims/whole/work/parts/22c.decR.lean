/-! Decode rows by program. -/
theorem d_R_init_0 : decode c_R_init 0 = .ok (.aload_n 0, 1) := by decide +kernel
theorem d_R_init_1 : decode c_R_init 1 = .ok (.invokespecial 1, 3) := by decide +kernel
theorem d_R_init_4 : decode c_R_init 4 = .ok (.aload_n 0, 1) := by decide +kernel
theorem d_R_init_5 : decode c_R_init 5 = .ok (.bipush 90, 2) := by decide +kernel
theorem d_R_init_7 : decode c_R_init 7 = .ok (.newarray .int, 2) := by decide +kernel
theorem d_R_init_9 : decode c_R_init 9 = .ok (.putfield 7, 3) := by decide +kernel
theorem d_R_init_12 : decode c_R_init 12 = .ok (.aload_n 0, 1) := by decide +kernel
theorem d_R_init_13 : decode c_R_init 13 = .ok (.bipush 90, 2) := by decide +kernel
theorem d_R_init_15 : decode c_R_init 15 = .ok (.newarray .int, 2) := by decide +kernel
theorem d_R_init_17 : decode c_R_init 17 = .ok (.putfield 13, 3) := by decide +kernel
theorem d_R_init_20 : decode c_R_init 20 = .ok (.aload_n 0, 1) := by decide +kernel
theorem d_R_init_21 : decode c_R_init 21 = .ok (.bipush 90, 2) := by decide +kernel
theorem d_R_init_23 : decode c_R_init 23 = .ok (.newarray .int, 2) := by decide +kernel
theorem d_R_init_25 : decode c_R_init 25 = .ok (.putfield 16, 3) := by decide +kernel
theorem d_R_init_28 : decode c_R_init 28 = .ok (.aload_n 0, 1) := by decide +kernel
theorem d_R_init_29 : decode c_R_init 29 = .ok (.bipush 90, 2) := by decide +kernel
theorem d_R_init_31 : decode c_R_init 31 = .ok (.newarray .int, 2) := by decide +kernel
theorem d_R_init_33 : decode c_R_init 33 = .ok (.putfield 19, 3) := by decide +kernel
theorem d_R_init_36 : decode c_R_init 36 = .ok (.aload_n 0, 1) := by decide +kernel
theorem d_R_init_37 : decode c_R_init 37 = .ok (.bipush 90, 2) := by decide +kernel
theorem d_R_init_39 : decode c_R_init 39 = .ok (.newarray .int, 2) := by decide +kernel
theorem d_R_init_41 : decode c_R_init 41 = .ok (.putfield 22, 3) := by decide +kernel
theorem d_R_init_44 : decode c_R_init 44 = .ok (.aload_n 0, 1) := by decide +kernel
theorem d_R_init_45 : decode c_R_init 45 = .ok (.bipush 90, 2) := by decide +kernel
theorem d_R_init_47 : decode c_R_init 47 = .ok (.newarray .char, 2) := by decide +kernel
theorem d_R_init_49 : decode c_R_init 49 = .ok (.putfield 25, 3) := by decide +kernel
theorem d_R_init_52 : decode c_R_init 52 = .ok (.aload_n 0, 1) := by decide +kernel
theorem d_R_init_53 : decode c_R_init 53 = .ok (.sipush 270, 3) := by decide +kernel
theorem d_R_init_56 : decode c_R_init 56 = .ok (.newarray .int, 2) := by decide +kernel
theorem d_R_init_58 : decode c_R_init 58 = .ok (.putfield 29, 3) := by decide +kernel
theorem d_R_init_61 : decode c_R_init 61 = .ok (.aload_n 0, 1) := by decide +kernel
theorem d_R_init_62 : decode c_R_init 62 = .ok (.sipush 270, 3) := by decide +kernel
theorem d_R_init_65 : decode c_R_init 65 = .ok (.newarray .boolean, 2) := by decide +kernel
theorem d_R_init_67 : decode c_R_init 67 = .ok (.putfield 32, 3) := by decide +kernel
theorem d_R_init_70 : decode c_R_init 70 = .ok (.aload_n 0, 1) := by decide +kernel
theorem d_R_init_71 : decode c_R_init 71 = .ok (.iconst 3, 1) := by decide +kernel
theorem d_R_init_72 : decode c_R_init 72 = .ok (.newarray .int, 2) := by decide +kernel
theorem d_R_init_74 : decode c_R_init 74 = .ok (.putfield 36, 3) := by decide +kernel
theorem d_R_init_77 : decode c_R_init 77 = .ok (.aload_n 0, 1) := by decide +kernel
theorem d_R_init_78 : decode c_R_init 78 = .ok (.bipush 90, 2) := by decide +kernel
theorem d_R_init_80 : decode c_R_init 80 = .ok (.newarray .int, 2) := by decide +kernel
theorem d_R_init_82 : decode c_R_init 82 = .ok (.putfield 39, 3) := by decide +kernel
theorem d_R_init_85 : decode c_R_init 85 = .ok (.aload_n 0, 1) := by decide +kernel
theorem d_R_init_86 : decode c_R_init 86 = .ok (.bipush 90, 2) := by decide +kernel
theorem d_R_init_88 : decode c_R_init 88 = .ok (.newarray .int, 2) := by decide +kernel
theorem d_R_init_90 : decode c_R_init 90 = .ok (.putfield 42, 3) := by decide +kernel
theorem d_R_init_93 : decode c_R_init 93 = .ok (.aload_n 0, 1) := by decide +kernel
theorem d_R_init_94 : decode c_R_init 94 = .ok (.bipush 90, 2) := by decide +kernel
theorem d_R_init_96 : decode c_R_init 96 = .ok (.newarray .int, 2) := by decide +kernel
theorem d_R_init_98 : decode c_R_init 98 = .ok (.putfield 45, 3) := by decide +kernel
theorem d_R_init_101 : decode c_R_init 101 = .ok (.aload_n 0, 1) := by decide +kernel
theorem d_R_init_102 : decode c_R_init 102 = .ok (.bipush 90, 2) := by decide +kernel
theorem d_R_init_104 : decode c_R_init 104 = .ok (.newarray .boolean, 2) := by decide +kernel
theorem d_R_init_106 : decode c_R_init 106 = .ok (.putfield 48, 3) := by decide +kernel
theorem d_R_init_109 : decode c_R_init 109 = .ok (.return_, 1) := by decide +kernel
theorem d_R_thrown_0 : decode c_R_thrown 0 = .ok (.aload_n 0, 1) := by decide +kernel
theorem d_R_thrown_1 : decode c_R_thrown 1 = .ok (.getfield 51, 3) := by decide +kernel
theorem d_R_thrown_4 : decode c_R_thrown 4 = .ok (.ireturn, 1) := by decide +kernel
theorem d_R_isPage_0 : decode c_R_isPage 0 = .ok (.iload_n 0, 1) := by decide +kernel
theorem d_R_isPage_1 : decode c_R_isPage 1 = .ok (.ifCond .lt 12, 3) := by decide +kernel
theorem d_R_isPage_4 : decode c_R_isPage 4 = .ok (.iload_n 0, 1) := by decide +kernel
theorem d_R_isPage_5 : decode c_R_isPage 5 = .ok (.iconst 3, 1) := by decide +kernel
theorem d_R_isPage_6 : decode c_R_isPage 6 = .ok (.if_icmp .ge 7, 3) := by decide +kernel
theorem d_R_isPage_9 : decode c_R_isPage 9 = .ok (.iconst 1, 1) := by decide +kernel
theorem d_R_isPage_10 : decode c_R_isPage 10 = .ok (.goto 4, 3) := by decide +kernel
theorem d_R_isPage_13 : decode c_R_isPage 13 = .ok (.iconst 0, 1) := by decide +kernel
theorem d_R_isPage_14 : decode c_R_isPage 14 = .ok (.ireturn, 1) := by decide +kernel
theorem d_R_nextBehind_0 : decode c_R_nextBehind 0 = .ok (.iconst (-1), 1) := by decide +kernel
theorem d_R_nextBehind_1 : decode c_R_nextBehind 1 = .ok (.istore_n 3, 1) := by decide +kernel
theorem d_R_nextBehind_2 : decode c_R_nextBehind 2 = .ok (.iconst 0, 1) := by decide +kernel
theorem d_R_nextBehind_3 : decode c_R_nextBehind 3 = .ok (.istore 4, 2) := by decide +kernel
theorem d_R_nextBehind_5 : decode c_R_nextBehind 5 = .ok (.iload 4, 2) := by decide +kernel
theorem d_R_nextBehind_7 : decode c_R_nextBehind 7 = .ok (.aload_n 0, 1) := by decide +kernel
theorem d_R_nextBehind_8 : decode c_R_nextBehind 8 = .ok (.getfield 55, 3) := by decide +kernel
theorem d_R_nextBehind_11 : decode c_R_nextBehind 11 = .ok (.if_icmp .ge 94, 3) := by decide +kernel
theorem d_R_nextBehind_14 : decode c_R_nextBehind 14 = .ok (.aload_n 0, 1) := by decide +kernel
theorem d_R_nextBehind_15 : decode c_R_nextBehind 15 = .ok (.getfield 32, 3) := by decide +kernel
theorem d_R_nextBehind_18 : decode c_R_nextBehind 18 = .ok (.bipush 90, 2) := by decide +kernel
theorem d_R_nextBehind_20 : decode c_R_nextBehind 20 = .ok (.iload_n 1, 1) := by decide +kernel
theorem d_R_nextBehind_21 : decode c_R_nextBehind 21 = .ok (.imul, 1) := by decide +kernel
theorem d_R_nextBehind_22 : decode c_R_nextBehind 22 = .ok (.iload 4, 2) := by decide +kernel
theorem d_R_nextBehind_24 : decode c_R_nextBehind 24 = .ok (.iadd, 1) := by decide +kernel
theorem d_R_nextBehind_25 : decode c_R_nextBehind 25 = .ok (.baload, 1) := by decide +kernel
theorem d_R_nextBehind_26 : decode c_R_nextBehind 26 = .ok (.ifCond .eq 38, 3) := by decide +kernel
theorem d_R_nextBehind_29 : decode c_R_nextBehind 29 = .ok (.aload_n 0, 1) := by decide +kernel
theorem d_R_nextBehind_30 : decode c_R_nextBehind 30 = .ok (.getfield 7, 3) := by decide +kernel
theorem d_R_nextBehind_33 : decode c_R_nextBehind 33 = .ok (.iload 4, 2) := by decide +kernel
theorem d_R_nextBehind_35 : decode c_R_nextBehind 35 = .ok (.iaload, 1) := by decide +kernel
theorem d_R_nextBehind_36 : decode c_R_nextBehind 36 = .ok (.ifCond .ne 28, 3) := by decide +kernel
theorem d_R_nextBehind_39 : decode c_R_nextBehind 39 = .ok (.aload_n 0, 1) := by decide +kernel
theorem d_R_nextBehind_40 : decode c_R_nextBehind 40 = .ok (.getfield 16, 3) := by decide +kernel
theorem d_R_nextBehind_43 : decode c_R_nextBehind 43 = .ok (.iload 4, 2) := by decide +kernel
theorem d_R_nextBehind_45 : decode c_R_nextBehind 45 = .ok (.iaload, 1) := by decide +kernel
theorem d_R_nextBehind_46 : decode c_R_nextBehind 46 = .ok (.iload_n 2, 1) := by decide +kernel
theorem d_R_nextBehind_47 : decode c_R_nextBehind 47 = .ok (.if_icmp .ne 17, 3) := by decide +kernel
theorem d_R_nextBehind_50 : decode c_R_nextBehind 50 = .ok (.aload_n 0, 1) := by decide +kernel
theorem d_R_nextBehind_51 : decode c_R_nextBehind 51 = .ok (.getfield 48, 3) := by decide +kernel
theorem d_R_nextBehind_54 : decode c_R_nextBehind 54 = .ok (.iload 4, 2) := by decide +kernel
theorem d_R_nextBehind_56 : decode c_R_nextBehind 56 = .ok (.baload, 1) := by decide +kernel
theorem d_R_nextBehind_57 : decode c_R_nextBehind 57 = .ok (.ifCond .ne 7, 3) := by decide +kernel
theorem d_R_nextBehind_60 : decode c_R_nextBehind 60 = .ok (.iconst 1, 1) := by decide +kernel
theorem d_R_nextBehind_61 : decode c_R_nextBehind 61 = .ok (.goto 4, 3) := by decide +kernel
theorem d_R_nextBehind_64 : decode c_R_nextBehind 64 = .ok (.iconst 0, 1) := by decide +kernel
theorem d_R_nextBehind_65 : decode c_R_nextBehind 65 = .ok (.istore 5, 2) := by decide +kernel
theorem d_R_nextBehind_67 : decode c_R_nextBehind 67 = .ok (.iload 5, 2) := by decide +kernel
theorem d_R_nextBehind_69 : decode c_R_nextBehind 69 = .ok (.ifCond .eq 28, 3) := by decide +kernel
theorem d_R_nextBehind_72 : decode c_R_nextBehind 72 = .ok (.iload_n 3, 1) := by decide +kernel
theorem d_R_nextBehind_73 : decode c_R_nextBehind 73 = .ok (.ifCond .lt 19, 3) := by decide +kernel
theorem d_R_nextBehind_76 : decode c_R_nextBehind 76 = .ok (.aload_n 0, 1) := by decide +kernel
theorem d_R_nextBehind_77 : decode c_R_nextBehind 77 = .ok (.getfield 13, 3) := by decide +kernel
theorem d_R_nextBehind_80 : decode c_R_nextBehind 80 = .ok (.iload 4, 2) := by decide +kernel
theorem d_R_nextBehind_82 : decode c_R_nextBehind 82 = .ok (.iaload, 1) := by decide +kernel
theorem d_R_nextBehind_83 : decode c_R_nextBehind 83 = .ok (.aload_n 0, 1) := by decide +kernel
theorem d_R_nextBehind_84 : decode c_R_nextBehind 84 = .ok (.getfield 13, 3) := by decide +kernel
theorem d_R_nextBehind_87 : decode c_R_nextBehind 87 = .ok (.iload_n 3, 1) := by decide +kernel
theorem d_R_nextBehind_88 : decode c_R_nextBehind 88 = .ok (.iaload, 1) := by decide +kernel
theorem d_R_nextBehind_89 : decode c_R_nextBehind 89 = .ok (.if_icmp .le 8, 3) := by decide +kernel
theorem d_R_nextBehind_92 : decode c_R_nextBehind 92 = .ok (.iload 4, 2) := by decide +kernel
theorem d_R_nextBehind_94 : decode c_R_nextBehind 94 = .ok (.goto 4, 3) := by decide +kernel
theorem d_R_nextBehind_97 : decode c_R_nextBehind 97 = .ok (.iload_n 3, 1) := by decide +kernel
theorem d_R_nextBehind_98 : decode c_R_nextBehind 98 = .ok (.istore_n 3, 1) := by decide +kernel
theorem d_R_nextBehind_99 : decode c_R_nextBehind 99 = .ok (.iinc 4 1, 3) := by decide +kernel
theorem d_R_nextBehind_102 : decode c_R_nextBehind 102 = .ok (.goto (-97), 3) := by decide +kernel
theorem d_R_nextBehind_105 : decode c_R_nextBehind 105 = .ok (.iload_n 3, 1) := by decide +kernel
theorem d_R_nextBehind_106 : decode c_R_nextBehind 106 = .ok (.ireturn, 1) := by decide +kernel
theorem d_R_isGone_0 : decode c_R_isGone 0 = .ok (.iconst 0, 1) := by decide +kernel
theorem d_R_isGone_1 : decode c_R_isGone 1 = .ok (.istore_n 3, 1) := by decide +kernel
theorem d_R_isGone_2 : decode c_R_isGone 2 = .ok (.iconst 0, 1) := by decide +kernel
theorem d_R_isGone_3 : decode c_R_isGone 3 = .ok (.istore 4, 2) := by decide +kernel
theorem d_R_isGone_5 : decode c_R_isGone 5 = .ok (.iload 4, 2) := by decide +kernel
theorem d_R_isGone_7 : decode c_R_isGone 7 = .ok (.aload_n 0, 1) := by decide +kernel
theorem d_R_isGone_8 : decode c_R_isGone 8 = .ok (.getfield 55, 3) := by decide +kernel
theorem d_R_isGone_11 : decode c_R_isGone 11 = .ok (.if_icmp .ge 56, 3) := by decide +kernel
theorem d_R_isGone_14 : decode c_R_isGone 14 = .ok (.iload_n 3, 1) := by decide +kernel
theorem d_R_isGone_15 : decode c_R_isGone 15 = .ok (.ifCond .ne 40, 3) := by decide +kernel
theorem d_R_isGone_18 : decode c_R_isGone 18 = .ok (.aload_n 0, 1) := by decide +kernel
theorem d_R_isGone_19 : decode c_R_isGone 19 = .ok (.getfield 32, 3) := by decide +kernel
theorem d_R_isGone_22 : decode c_R_isGone 22 = .ok (.bipush 90, 2) := by decide +kernel
theorem d_R_isGone_24 : decode c_R_isGone 24 = .ok (.iload_n 1, 1) := by decide +kernel
theorem d_R_isGone_25 : decode c_R_isGone 25 = .ok (.imul, 1) := by decide +kernel
theorem d_R_isGone_26 : decode c_R_isGone 26 = .ok (.iload 4, 2) := by decide +kernel
theorem d_R_isGone_28 : decode c_R_isGone 28 = .ok (.iadd, 1) := by decide +kernel
theorem d_R_isGone_29 : decode c_R_isGone 29 = .ok (.baload, 1) := by decide +kernel
theorem d_R_isGone_30 : decode c_R_isGone 30 = .ok (.ifCond .eq 29, 3) := by decide +kernel
theorem d_R_isGone_33 : decode c_R_isGone 33 = .ok (.aload_n 0, 1) := by decide +kernel
theorem d_R_isGone_34 : decode c_R_isGone 34 = .ok (.getfield 7, 3) := by decide +kernel
theorem d_R_isGone_37 : decode c_R_isGone 37 = .ok (.iload 4, 2) := by decide +kernel
theorem d_R_isGone_39 : decode c_R_isGone 39 = .ok (.iaload, 1) := by decide +kernel
theorem d_R_isGone_40 : decode c_R_isGone 40 = .ok (.iconst 1, 1) := by decide +kernel
theorem d_R_isGone_41 : decode c_R_isGone 41 = .ok (.if_icmp .ne 18, 3) := by decide +kernel
theorem d_R_isGone_44 : decode c_R_isGone 44 = .ok (.aload_n 0, 1) := by decide +kernel
theorem d_R_isGone_45 : decode c_R_isGone 45 = .ok (.getfield 16, 3) := by decide +kernel
theorem d_R_isGone_48 : decode c_R_isGone 48 = .ok (.iload 4, 2) := by decide +kernel
theorem d_R_isGone_50 : decode c_R_isGone 50 = .ok (.iaload, 1) := by decide +kernel
theorem d_R_isGone_51 : decode c_R_isGone 51 = .ok (.iload_n 2, 1) := by decide +kernel
theorem d_R_isGone_52 : decode c_R_isGone 52 = .ok (.if_icmp .ne 7, 3) := by decide +kernel
theorem d_R_isGone_55 : decode c_R_isGone 55 = .ok (.iconst 1, 1) := by decide +kernel
theorem d_R_isGone_56 : decode c_R_isGone 56 = .ok (.goto 4, 3) := by decide +kernel
theorem d_R_isGone_59 : decode c_R_isGone 59 = .ok (.iconst 0, 1) := by decide +kernel
theorem d_R_isGone_60 : decode c_R_isGone 60 = .ok (.istore_n 3, 1) := by decide +kernel
theorem d_R_isGone_61 : decode c_R_isGone 61 = .ok (.iinc 4 1, 3) := by decide +kernel
theorem d_R_isGone_64 : decode c_R_isGone 64 = .ok (.goto (-59), 3) := by decide +kernel
theorem d_R_isGone_67 : decode c_R_isGone 67 = .ok (.iload_n 3, 1) := by decide +kernel
theorem d_R_isGone_68 : decode c_R_isGone 68 = .ok (.ireturn, 1) := by decide +kernel
theorem d_R_look_0 : decode c_R_look 0 = .ok (.iconst 0, 1) := by decide +kernel
theorem d_R_look_1 : decode c_R_look 1 = .ok (.istore_n 2, 1) := by decide +kernel
theorem d_R_look_2 : decode c_R_look 2 = .ok (.iload_n 2, 1) := by decide +kernel
theorem d_R_look_3 : decode c_R_look 3 = .ok (.aload_n 0, 1) := by decide +kernel
theorem d_R_look_4 : decode c_R_look 4 = .ok (.getfield 55, 3) := by decide +kernel
theorem d_R_look_7 : decode c_R_look 7 = .ok (.if_icmp .ge 23, 3) := by decide +kernel
theorem d_R_look_10 : decode c_R_look 10 = .ok (.aload_n 0, 1) := by decide +kernel
theorem d_R_look_11 : decode c_R_look 11 = .ok (.getfield 48, 3) := by decide +kernel
theorem d_R_look_14 : decode c_R_look 14 = .ok (.iload_n 2, 1) := by decide +kernel
theorem d_R_look_15 : decode c_R_look 15 = .ok (.iconst 0, 1) := by decide +kernel
theorem d_R_look_16 : decode c_R_look 16 = .ok (.bastore, 1) := by decide +kernel
theorem d_R_look_17 : decode c_R_look 17 = .ok (.aload_n 0, 1) := by decide +kernel
theorem d_R_look_18 : decode c_R_look 18 = .ok (.getfield 42, 3) := by decide +kernel
theorem d_R_look_21 : decode c_R_look 21 = .ok (.iload_n 2, 1) := by decide +kernel
theorem d_R_look_22 : decode c_R_look 22 = .ok (.iconst (-1), 1) := by decide +kernel
theorem d_R_look_23 : decode c_R_look 23 = .ok (.iastore, 1) := by decide +kernel
theorem d_R_look_24 : decode c_R_look 24 = .ok (.iinc 2 1, 3) := by decide +kernel
theorem d_R_look_27 : decode c_R_look 27 = .ok (.goto (-25), 3) := by decide +kernel
theorem d_R_look_30 : decode c_R_look 30 = .ok (.aload_n 0, 1) := by decide +kernel
theorem d_R_look_31 : decode c_R_look 31 = .ok (.iconst 0, 1) := by decide +kernel
theorem d_R_look_32 : decode c_R_look 32 = .ok (.putfield 58, 3) := by decide +kernel
theorem d_R_look_35 : decode c_R_look 35 = .ok (.aload_n 0, 1) := by decide +kernel
theorem d_R_look_36 : decode c_R_look 36 = .ok (.iconst 0, 1) := by decide +kernel
theorem d_R_look_37 : decode c_R_look 37 = .ok (.putfield 61, 3) := by decide +kernel
theorem d_R_look_40 : decode c_R_look 40 = .ok (.iconst (-1), 1) := by decide +kernel
theorem d_R_look_41 : decode c_R_look 41 = .ok (.istore_n 2, 1) := by decide +kernel
theorem d_R_look_42 : decode c_R_look 42 = .ok (.aload_n 0, 1) := by decide +kernel
theorem d_R_look_43 : decode c_R_look 43 = .ok (.iload_n 1, 1) := by decide +kernel
theorem d_R_look_44 : decode c_R_look 44 = .ok (.iload_n 2, 1) := by decide +kernel
theorem d_R_look_45 : decode c_R_look 45 = .ok (.invokevirtual 64, 3) := by decide +kernel
theorem d_R_look_48 : decode c_R_look 48 = .ok (.istore_n 3, 1) := by decide +kernel
theorem d_R_look_49 : decode c_R_look 49 = .ok (.iload_n 2, 1) := by decide +kernel
theorem d_R_look_50 : decode c_R_look 50 = .ok (.ifCond .ge 7, 3) := by decide +kernel
theorem d_R_look_53 : decode c_R_look 53 = .ok (.iload_n 3, 1) := by decide +kernel
theorem d_R_look_54 : decode c_R_look 54 = .ok (.ifCond .lt 95, 3) := by decide +kernel
theorem d_R_look_57 : decode c_R_look 57 = .ok (.iload_n 3, 1) := by decide +kernel
theorem d_R_look_58 : decode c_R_look 58 = .ok (.ifCond .ge 13, 3) := by decide +kernel
theorem d_R_look_61 : decode c_R_look 61 = .ok (.aload_n 0, 1) := by decide +kernel
theorem d_R_look_62 : decode c_R_look 62 = .ok (.getfield 16, 3) := by decide +kernel
theorem d_R_look_65 : decode c_R_look 65 = .ok (.iload_n 2, 1) := by decide +kernel
theorem d_R_look_66 : decode c_R_look 66 = .ok (.iaload, 1) := by decide +kernel
theorem d_R_look_67 : decode c_R_look 67 = .ok (.istore_n 2, 1) := by decide +kernel
theorem d_R_look_68 : decode c_R_look 68 = .ok (.goto 71, 3) := by decide +kernel
theorem d_R_look_71 : decode c_R_look 71 = .ok (.iload_n 3, 1) := by decide +kernel
theorem d_R_look_72 : decode c_R_look 72 = .ok (.istore_n 2, 1) := by decide +kernel
theorem d_R_look_73 : decode c_R_look 73 = .ok (.aload_n 0, 1) := by decide +kernel
theorem d_R_look_74 : decode c_R_look 74 = .ok (.getfield 48, 3) := by decide +kernel
theorem d_R_look_77 : decode c_R_look 77 = .ok (.iload_n 2, 1) := by decide +kernel
theorem d_R_look_78 : decode c_R_look 78 = .ok (.iconst 1, 1) := by decide +kernel
theorem d_R_look_79 : decode c_R_look 79 = .ok (.bastore, 1) := by decide +kernel
theorem d_R_look_80 : decode c_R_look 80 = .ok (.aload_n 0, 1) := by decide +kernel
theorem d_R_look_81 : decode c_R_look 81 = .ok (.getfield 42, 3) := by decide +kernel
theorem d_R_look_84 : decode c_R_look 84 = .ok (.iload_n 2, 1) := by decide +kernel
theorem d_R_look_85 : decode c_R_look 85 = .ok (.aload_n 0, 1) := by decide +kernel
theorem d_R_look_86 : decode c_R_look 86 = .ok (.getfield 58, 3) := by decide +kernel
theorem d_R_look_89 : decode c_R_look 89 = .ok (.iastore, 1) := by decide +kernel
theorem d_R_look_90 : decode c_R_look 90 = .ok (.aload_n 0, 1) := by decide +kernel
theorem d_R_look_91 : decode c_R_look 91 = .ok (.getfield 39, 3) := by decide +kernel
theorem d_R_look_94 : decode c_R_look 94 = .ok (.aload_n 0, 1) := by decide +kernel
theorem d_R_look_95 : decode c_R_look 95 = .ok (.getfield 58, 3) := by decide +kernel
theorem d_R_look_98 : decode c_R_look 98 = .ok (.iload_n 2, 1) := by decide +kernel
theorem d_R_look_99 : decode c_R_look 99 = .ok (.iastore, 1) := by decide +kernel
theorem d_R_look_100 : decode c_R_look 100 = .ok (.aload_n 0, 1) := by decide +kernel
theorem d_R_look_101 : decode c_R_look 101 = .ok (.dup, 1) := by decide +kernel
theorem d_R_look_102 : decode c_R_look 102 = .ok (.getfield 58, 3) := by decide +kernel
theorem d_R_look_105 : decode c_R_look 105 = .ok (.iconst 1, 1) := by decide +kernel
theorem d_R_look_106 : decode c_R_look 106 = .ok (.iadd, 1) := by decide +kernel
theorem d_R_look_107 : decode c_R_look 107 = .ok (.putfield 58, 3) := by decide +kernel
theorem d_R_look_110 : decode c_R_look 110 = .ok (.aload_n 0, 1) := by decide +kernel
theorem d_R_look_111 : decode c_R_look 111 = .ok (.iload_n 1, 1) := by decide +kernel
theorem d_R_look_112 : decode c_R_look 112 = .ok (.iload_n 2, 1) := by decide +kernel
theorem d_R_look_113 : decode c_R_look 113 = .ok (.invokevirtual 68, 3) := by decide +kernel
theorem d_R_look_116 : decode c_R_look 116 = .ok (.ifCond .ne 23, 3) := by decide +kernel
theorem d_R_look_119 : decode c_R_look 119 = .ok (.aload_n 0, 1) := by decide +kernel
theorem d_R_look_120 : decode c_R_look 120 = .ok (.getfield 45, 3) := by decide +kernel
theorem d_R_look_123 : decode c_R_look 123 = .ok (.aload_n 0, 1) := by decide +kernel
theorem d_R_look_124 : decode c_R_look 124 = .ok (.getfield 61, 3) := by decide +kernel
theorem d_R_look_127 : decode c_R_look 127 = .ok (.iload_n 2, 1) := by decide +kernel
theorem d_R_look_128 : decode c_R_look 128 = .ok (.iastore, 1) := by decide +kernel
theorem d_R_look_129 : decode c_R_look 129 = .ok (.aload_n 0, 1) := by decide +kernel
theorem d_R_look_130 : decode c_R_look 130 = .ok (.dup, 1) := by decide +kernel
theorem d_R_look_131 : decode c_R_look 131 = .ok (.getfield 61, 3) := by decide +kernel
theorem d_R_look_134 : decode c_R_look 134 = .ok (.iconst 1, 1) := by decide +kernel
theorem d_R_look_135 : decode c_R_look 135 = .ok (.iadd, 1) := by decide +kernel
theorem d_R_look_136 : decode c_R_look 136 = .ok (.putfield 61, 3) := by decide +kernel
theorem d_R_look_139 : decode c_R_look 139 = .ok (.aload_n 0, 1) := by decide +kernel
theorem d_R_look_140 : decode c_R_look 140 = .ok (.iload_n 1, 1) := by decide +kernel
theorem d_R_look_141 : decode c_R_look 141 = .ok (.iload_n 2, 1) := by decide +kernel
theorem d_R_look_142 : decode c_R_look 142 = .ok (.invokevirtual 64, 3) := by decide +kernel
theorem d_R_look_145 : decode c_R_look 145 = .ok (.istore_n 3, 1) := by decide +kernel
theorem d_R_look_146 : decode c_R_look 146 = .ok (.goto (-97), 3) := by decide +kernel
theorem d_R_look_149 : decode c_R_look 149 = .ok (.return_, 1) := by decide +kernel
theorem d_R_covers_0 : decode c_R_covers 0 = .ok (.aload_n 0, 1) := by decide +kernel
theorem d_R_covers_1 : decode c_R_covers 1 = .ok (.getfield 42, 3) := by decide +kernel
theorem d_R_covers_4 : decode c_R_covers 4 = .ok (.iload_n 2, 1) := by decide +kernel
theorem d_R_covers_5 : decode c_R_covers 5 = .ok (.iaload, 1) := by decide +kernel
theorem d_R_covers_6 : decode c_R_covers 6 = .ok (.istore_n 3, 1) := by decide +kernel
theorem d_R_covers_7 : decode c_R_covers 7 = .ok (.iload_n 3, 1) := by decide +kernel
theorem d_R_covers_8 : decode c_R_covers 8 = .ok (.aload_n 0, 1) := by decide +kernel
theorem d_R_covers_9 : decode c_R_covers 9 = .ok (.getfield 42, 3) := by decide +kernel
theorem d_R_covers_12 : decode c_R_covers 12 = .ok (.aload_n 0, 1) := by decide +kernel
theorem d_R_covers_13 : decode c_R_covers 13 = .ok (.getfield 16, 3) := by decide +kernel
theorem d_R_covers_16 : decode c_R_covers 16 = .ok (.iload_n 1, 1) := by decide +kernel
theorem d_R_covers_17 : decode c_R_covers 17 = .ok (.iaload, 1) := by decide +kernel
theorem d_R_covers_18 : decode c_R_covers 18 = .ok (.iaload, 1) := by decide +kernel
theorem d_R_covers_19 : decode c_R_covers 19 = .ok (.if_icmp .ge 5, 3) := by decide +kernel
theorem d_R_covers_22 : decode c_R_covers 22 = .ok (.iconst 0, 1) := by decide +kernel
theorem d_R_covers_23 : decode c_R_covers 23 = .ok (.ireturn, 1) := by decide +kernel
theorem d_R_covers_24 : decode c_R_covers 24 = .ok (.aload_n 0, 1) := by decide +kernel
theorem d_R_covers_25 : decode c_R_covers 25 = .ok (.getfield 19, 3) := by decide +kernel
theorem d_R_covers_28 : decode c_R_covers 28 = .ok (.iload_n 1, 1) := by decide +kernel
theorem d_R_covers_29 : decode c_R_covers 29 = .ok (.iaload, 1) := by decide +kernel
theorem d_R_covers_30 : decode c_R_covers 30 = .ok (.ifCond .ge 5, 3) := by decide +kernel
theorem d_R_covers_33 : decode c_R_covers 33 = .ok (.iconst 1, 1) := by decide +kernel
theorem d_R_covers_34 : decode c_R_covers 34 = .ok (.ireturn, 1) := by decide +kernel
theorem d_R_covers_35 : decode c_R_covers 35 = .ok (.aload_n 0, 1) := by decide +kernel
theorem d_R_covers_36 : decode c_R_covers 36 = .ok (.getfield 42, 3) := by decide +kernel
theorem d_R_covers_39 : decode c_R_covers 39 = .ok (.aload_n 0, 1) := by decide +kernel
theorem d_R_covers_40 : decode c_R_covers 40 = .ok (.getfield 19, 3) := by decide +kernel
theorem d_R_covers_43 : decode c_R_covers 43 = .ok (.iload_n 1, 1) := by decide +kernel
theorem d_R_covers_44 : decode c_R_covers 44 = .ok (.iaload, 1) := by decide +kernel
theorem d_R_covers_45 : decode c_R_covers 45 = .ok (.iaload, 1) := by decide +kernel
theorem d_R_covers_46 : decode c_R_covers 46 = .ok (.istore 4, 2) := by decide +kernel
theorem d_R_covers_48 : decode c_R_covers 48 = .ok (.aload_n 0, 1) := by decide +kernel
theorem d_R_covers_49 : decode c_R_covers 49 = .ok (.getfield 22, 3) := by decide +kernel
theorem d_R_covers_52 : decode c_R_covers 52 = .ok (.iload_n 1, 1) := by decide +kernel
theorem d_R_covers_53 : decode c_R_covers 53 = .ok (.iaload, 1) := by decide +kernel
theorem d_R_covers_54 : decode c_R_covers 54 = .ok (.iconst 4, 1) := by decide +kernel
theorem d_R_covers_55 : decode c_R_covers 55 = .ok (.if_icmp .ge 17, 3) := by decide +kernel
theorem d_R_covers_58 : decode c_R_covers 58 = .ok (.iload_n 3, 1) := by decide +kernel
theorem d_R_covers_59 : decode c_R_covers 59 = .ok (.iload 4, 2) := by decide +kernel
theorem d_R_covers_61 : decode c_R_covers 61 = .ok (.if_icmp .ge 7, 3) := by decide +kernel
theorem d_R_covers_64 : decode c_R_covers 64 = .ok (.iconst 1, 1) := by decide +kernel
theorem d_R_covers_65 : decode c_R_covers 65 = .ok (.goto 18, 3) := by decide +kernel
theorem d_R_covers_68 : decode c_R_covers 68 = .ok (.iconst 0, 1) := by decide +kernel
theorem d_R_covers_69 : decode c_R_covers 69 = .ok (.goto 14, 3) := by decide +kernel
theorem d_R_covers_72 : decode c_R_covers 72 = .ok (.iload_n 3, 1) := by decide +kernel
theorem d_R_covers_73 : decode c_R_covers 73 = .ok (.iload 4, 2) := by decide +kernel
theorem d_R_covers_75 : decode c_R_covers 75 = .ok (.if_icmp .gt 7, 3) := by decide +kernel
theorem d_R_covers_78 : decode c_R_covers 78 = .ok (.iconst 1, 1) := by decide +kernel
theorem d_R_covers_79 : decode c_R_covers 79 = .ok (.goto 4, 3) := by decide +kernel
theorem d_R_covers_82 : decode c_R_covers 82 = .ok (.iconst 0, 1) := by decide +kernel
theorem d_R_covers_83 : decode c_R_covers 83 = .ok (.ireturn, 1) := by decide +kernel
theorem d_R_formatOf_0 : decode c_R_formatOf 0 = .ok (.iconst 0, 1) := by decide +kernel
theorem d_R_formatOf_1 : decode c_R_formatOf 1 = .ok (.istore_n 3, 1) := by decide +kernel
theorem d_R_formatOf_2 : decode c_R_formatOf 2 = .ok (.iconst 0, 1) := by decide +kernel
theorem d_R_formatOf_3 : decode c_R_formatOf 3 = .ok (.istore 4, 2) := by decide +kernel
theorem d_R_formatOf_5 : decode c_R_formatOf 5 = .ok (.iload 4, 2) := by decide +kernel
theorem d_R_formatOf_7 : decode c_R_formatOf 7 = .ok (.iconst 4, 1) := by decide +kernel
theorem d_R_formatOf_8 : decode c_R_formatOf 8 = .ok (.if_icmp .ge 152, 3) := by decide +kernel
theorem d_R_formatOf_11 : decode c_R_formatOf 11 = .ok (.iconst (-1), 1) := by decide +kernel
theorem d_R_formatOf_12 : decode c_R_formatOf 12 = .ok (.istore 5, 2) := by decide +kernel
theorem d_R_formatOf_14 : decode c_R_formatOf 14 = .ok (.iconst 0, 1) := by decide +kernel
theorem d_R_formatOf_15 : decode c_R_formatOf 15 = .ok (.istore 6, 2) := by decide +kernel
theorem d_R_formatOf_17 : decode c_R_formatOf 17 = .ok (.iload 6, 2) := by decide +kernel
theorem d_R_formatOf_19 : decode c_R_formatOf 19 = .ok (.aload_n 0, 1) := by decide +kernel
theorem d_R_formatOf_20 : decode c_R_formatOf 20 = .ok (.getfield 55, 3) := by decide +kernel
theorem d_R_formatOf_23 : decode c_R_formatOf 23 = .ok (.if_icmp .ge 102, 3) := by decide +kernel
theorem d_R_formatOf_26 : decode c_R_formatOf 26 = .ok (.aload_n 0, 1) := by decide +kernel
theorem d_R_formatOf_27 : decode c_R_formatOf 27 = .ok (.getfield 32, 3) := by decide +kernel
theorem d_R_formatOf_30 : decode c_R_formatOf 30 = .ok (.bipush 90, 2) := by decide +kernel
theorem d_R_formatOf_32 : decode c_R_formatOf 32 = .ok (.iload_n 1, 1) := by decide +kernel
theorem d_R_formatOf_33 : decode c_R_formatOf 33 = .ok (.imul, 1) := by decide +kernel
theorem d_R_formatOf_34 : decode c_R_formatOf 34 = .ok (.iload 6, 2) := by decide +kernel
theorem d_R_formatOf_36 : decode c_R_formatOf 36 = .ok (.iadd, 1) := by decide +kernel
theorem d_R_formatOf_37 : decode c_R_formatOf 37 = .ok (.baload, 1) := by decide +kernel
theorem d_R_formatOf_38 : decode c_R_formatOf 38 = .ok (.ifCond .eq 32, 3) := by decide +kernel
theorem d_R_formatOf_41 : decode c_R_formatOf 41 = .ok (.aload_n 0, 1) := by decide +kernel
theorem d_R_formatOf_42 : decode c_R_formatOf 42 = .ok (.getfield 7, 3) := by decide +kernel
theorem d_R_formatOf_45 : decode c_R_formatOf 45 = .ok (.iload 6, 2) := by decide +kernel
theorem d_R_formatOf_47 : decode c_R_formatOf 47 = .ok (.iaload, 1) := by decide +kernel
theorem d_R_formatOf_48 : decode c_R_formatOf 48 = .ok (.iconst 2, 1) := by decide +kernel
theorem d_R_formatOf_49 : decode c_R_formatOf 49 = .ok (.if_icmp .ne 21, 3) := by decide +kernel
theorem d_R_formatOf_52 : decode c_R_formatOf 52 = .ok (.aload_n 0, 1) := by decide +kernel
theorem d_R_formatOf_53 : decode c_R_formatOf 53 = .ok (.getfield 22, 3) := by decide +kernel
theorem d_R_formatOf_56 : decode c_R_formatOf 56 = .ok (.iload 6, 2) := by decide +kernel
theorem d_R_formatOf_58 : decode c_R_formatOf 58 = .ok (.iaload, 1) := by decide +kernel
theorem d_R_formatOf_59 : decode c_R_formatOf 59 = .ok (.iconst 2, 1) := by decide +kernel
theorem d_R_formatOf_60 : decode c_R_formatOf 60 = .ok (.idiv, 1) := by decide +kernel
theorem d_R_formatOf_61 : decode c_R_formatOf 61 = .ok (.iload 4, 2) := by decide +kernel
theorem d_R_formatOf_63 : decode c_R_formatOf 63 = .ok (.if_icmp .ne 7, 3) := by decide +kernel
theorem d_R_formatOf_66 : decode c_R_formatOf 66 = .ok (.iconst 1, 1) := by decide +kernel
theorem d_R_formatOf_67 : decode c_R_formatOf 67 = .ok (.goto 4, 3) := by decide +kernel
theorem d_R_formatOf_70 : decode c_R_formatOf 70 = .ok (.iconst 0, 1) := by decide +kernel
theorem d_R_formatOf_71 : decode c_R_formatOf 71 = .ok (.istore 7, 2) := by decide +kernel
theorem d_R_formatOf_73 : decode c_R_formatOf 73 = .ok (.iload 7, 2) := by decide +kernel
theorem d_R_formatOf_75 : decode c_R_formatOf 75 = .ok (.ifCond .eq 40, 3) := by decide +kernel
theorem d_R_formatOf_78 : decode c_R_formatOf 78 = .ok (.aload_n 0, 1) := by decide +kernel
theorem d_R_formatOf_79 : decode c_R_formatOf 79 = .ok (.iload 6, 2) := by decide +kernel
theorem d_R_formatOf_81 : decode c_R_formatOf 81 = .ok (.iload_n 2, 1) := by decide +kernel
theorem d_R_formatOf_82 : decode c_R_formatOf 82 = .ok (.invokevirtual 72, 3) := by decide +kernel
theorem d_R_formatOf_85 : decode c_R_formatOf 85 = .ok (.ifCond .eq 30, 3) := by decide +kernel
theorem d_R_formatOf_88 : decode c_R_formatOf 88 = .ok (.iload 5, 2) := by decide +kernel
theorem d_R_formatOf_90 : decode c_R_formatOf 90 = .ok (.ifCond .lt 20, 3) := by decide +kernel
theorem d_R_formatOf_93 : decode c_R_formatOf 93 = .ok (.aload_n 0, 1) := by decide +kernel
theorem d_R_formatOf_94 : decode c_R_formatOf 94 = .ok (.getfield 13, 3) := by decide +kernel
theorem d_R_formatOf_97 : decode c_R_formatOf 97 = .ok (.iload 6, 2) := by decide +kernel
theorem d_R_formatOf_99 : decode c_R_formatOf 99 = .ok (.iaload, 1) := by decide +kernel
theorem d_R_formatOf_100 : decode c_R_formatOf 100 = .ok (.aload_n 0, 1) := by decide +kernel
theorem d_R_formatOf_101 : decode c_R_formatOf 101 = .ok (.getfield 13, 3) := by decide +kernel
theorem d_R_formatOf_104 : decode c_R_formatOf 104 = .ok (.iload 5, 2) := by decide +kernel
theorem d_R_formatOf_106 : decode c_R_formatOf 106 = .ok (.iaload, 1) := by decide +kernel
theorem d_R_formatOf_107 : decode c_R_formatOf 107 = .ok (.if_icmp .le 8, 3) := by decide +kernel
theorem d_R_formatOf_110 : decode c_R_formatOf 110 = .ok (.iload 6, 2) := by decide +kernel
theorem d_R_formatOf_112 : decode c_R_formatOf 112 = .ok (.goto 5, 3) := by decide +kernel
theorem d_R_formatOf_115 : decode c_R_formatOf 115 = .ok (.iload 5, 2) := by decide +kernel
theorem d_R_formatOf_117 : decode c_R_formatOf 117 = .ok (.istore 5, 2) := by decide +kernel
theorem d_R_formatOf_119 : decode c_R_formatOf 119 = .ok (.iinc 6 1, 3) := by decide +kernel
theorem d_R_formatOf_122 : decode c_R_formatOf 122 = .ok (.goto (-105), 3) := by decide +kernel
theorem d_R_formatOf_125 : decode c_R_formatOf 125 = .ok (.iload_n 3, 1) := by decide +kernel
theorem d_R_formatOf_126 : decode c_R_formatOf 126 = .ok (.iload 5, 2) := by decide +kernel
theorem d_R_formatOf_128 : decode c_R_formatOf 128 = .ok (.ifCond .lt 23, 3) := by decide +kernel
theorem d_R_formatOf_131 : decode c_R_formatOf 131 = .ok (.aload_n 0, 1) := by decide +kernel
theorem d_R_formatOf_132 : decode c_R_formatOf 132 = .ok (.getfield 22, 3) := by decide +kernel
theorem d_R_formatOf_135 : decode c_R_formatOf 135 = .ok (.iload 5, 2) := by decide +kernel
theorem d_R_formatOf_137 : decode c_R_formatOf 137 = .ok (.iaload, 1) := by decide +kernel
theorem d_R_formatOf_138 : decode c_R_formatOf 138 = .ok (.iconst 2, 1) := by decide +kernel
theorem d_R_formatOf_139 : decode c_R_formatOf 139 = .ok (.irem, 1) := by decide +kernel
theorem d_R_formatOf_140 : decode c_R_formatOf 140 = .ok (.iconst 1, 1) := by decide +kernel
theorem d_R_formatOf_141 : decode c_R_formatOf 141 = .ok (.if_icmp .ne 10, 3) := by decide +kernel
theorem d_R_formatOf_144 : decode c_R_formatOf 144 = .ok (.iconst 1, 1) := by decide +kernel
theorem d_R_formatOf_145 : decode c_R_formatOf 145 = .ok (.iload 4, 2) := by decide +kernel
theorem d_R_formatOf_147 : decode c_R_formatOf 147 = .ok (.ishl, 1) := by decide +kernel
theorem d_R_formatOf_148 : decode c_R_formatOf 148 = .ok (.goto 4, 3) := by decide +kernel
theorem d_R_formatOf_151 : decode c_R_formatOf 151 = .ok (.iconst 0, 1) := by decide +kernel
theorem d_R_formatOf_152 : decode c_R_formatOf 152 = .ok (.iadd, 1) := by decide +kernel
theorem d_R_formatOf_153 : decode c_R_formatOf 153 = .ok (.istore_n 3, 1) := by decide +kernel
theorem d_R_formatOf_154 : decode c_R_formatOf 154 = .ok (.iinc 4 1, 3) := by decide +kernel
theorem d_R_formatOf_157 : decode c_R_formatOf 157 = .ok (.goto (-152), 3) := by decide +kernel
theorem d_R_formatOf_160 : decode c_R_formatOf 160 = .ok (.iload_n 3, 1) := by decide +kernel
theorem d_R_formatOf_161 : decode c_R_formatOf 161 = .ok (.ireturn, 1) := by decide +kernel
theorem d_R_greatest_0 : decode c_R_greatest 0 = .ok (.iconst 0, 1) := by decide +kernel
theorem d_R_greatest_1 : decode c_R_greatest 1 = .ok (.istore_n 2, 1) := by decide +kernel
theorem d_R_greatest_2 : decode c_R_greatest 2 = .ok (.iconst 0, 1) := by decide +kernel
theorem d_R_greatest_3 : decode c_R_greatest 3 = .ok (.istore_n 3, 1) := by decide +kernel
theorem d_R_greatest_4 : decode c_R_greatest 4 = .ok (.iload_n 3, 1) := by decide +kernel
theorem d_R_greatest_5 : decode c_R_greatest 5 = .ok (.aload_n 0, 1) := by decide +kernel
theorem d_R_greatest_6 : decode c_R_greatest 6 = .ok (.getfield 55, 3) := by decide +kernel
theorem d_R_greatest_9 : decode c_R_greatest 9 = .ok (.if_icmp .ge 48, 3) := by decide +kernel
theorem d_R_greatest_12 : decode c_R_greatest 12 = .ok (.aload_n 0, 1) := by decide +kernel
theorem d_R_greatest_13 : decode c_R_greatest 13 = .ok (.getfield 32, 3) := by decide +kernel
theorem d_R_greatest_16 : decode c_R_greatest 16 = .ok (.bipush 90, 2) := by decide +kernel
theorem d_R_greatest_18 : decode c_R_greatest 18 = .ok (.iload_n 1, 1) := by decide +kernel
theorem d_R_greatest_19 : decode c_R_greatest 19 = .ok (.imul, 1) := by decide +kernel
theorem d_R_greatest_20 : decode c_R_greatest 20 = .ok (.iload_n 3, 1) := by decide +kernel
theorem d_R_greatest_21 : decode c_R_greatest 21 = .ok (.iadd, 1) := by decide +kernel
theorem d_R_greatest_22 : decode c_R_greatest 22 = .ok (.baload, 1) := by decide +kernel
theorem d_R_greatest_23 : decode c_R_greatest 23 = .ok (.ifCond .eq 26, 3) := by decide +kernel
theorem d_R_greatest_26 : decode c_R_greatest 26 = .ok (.aload_n 0, 1) := by decide +kernel
theorem d_R_greatest_27 : decode c_R_greatest 27 = .ok (.getfield 13, 3) := by decide +kernel
theorem d_R_greatest_30 : decode c_R_greatest 30 = .ok (.iload_n 3, 1) := by decide +kernel
theorem d_R_greatest_31 : decode c_R_greatest 31 = .ok (.iaload, 1) := by decide +kernel
theorem d_R_greatest_32 : decode c_R_greatest 32 = .ok (.iconst 4, 1) := by decide +kernel
theorem d_R_greatest_33 : decode c_R_greatest 33 = .ok (.idiv, 1) := by decide +kernel
theorem d_R_greatest_34 : decode c_R_greatest 34 = .ok (.iload_n 2, 1) := by decide +kernel
theorem d_R_greatest_35 : decode c_R_greatest 35 = .ok (.if_icmp .le 14, 3) := by decide +kernel
theorem d_R_greatest_38 : decode c_R_greatest 38 = .ok (.aload_n 0, 1) := by decide +kernel
theorem d_R_greatest_39 : decode c_R_greatest 39 = .ok (.getfield 13, 3) := by decide +kernel
theorem d_R_greatest_42 : decode c_R_greatest 42 = .ok (.iload_n 3, 1) := by decide +kernel
theorem d_R_greatest_43 : decode c_R_greatest 43 = .ok (.iaload, 1) := by decide +kernel
theorem d_R_greatest_44 : decode c_R_greatest 44 = .ok (.iconst 4, 1) := by decide +kernel
theorem d_R_greatest_45 : decode c_R_greatest 45 = .ok (.idiv, 1) := by decide +kernel
theorem d_R_greatest_46 : decode c_R_greatest 46 = .ok (.goto 4, 3) := by decide +kernel
theorem d_R_greatest_49 : decode c_R_greatest 49 = .ok (.iload_n 2, 1) := by decide +kernel
theorem d_R_greatest_50 : decode c_R_greatest 50 = .ok (.istore_n 2, 1) := by decide +kernel
theorem d_R_greatest_51 : decode c_R_greatest 51 = .ok (.iinc 3 1, 3) := by decide +kernel
theorem d_R_greatest_54 : decode c_R_greatest 54 = .ok (.goto (-50), 3) := by decide +kernel
theorem d_R_greatest_57 : decode c_R_greatest 57 = .ok (.iload_n 2, 1) := by decide +kernel
theorem d_R_greatest_58 : decode c_R_greatest 58 = .ok (.ireturn, 1) := by decide +kernel
theorem d_R_learn_0 : decode c_R_learn 0 = .ok (.aload_n 0, 1) := by decide +kernel
theorem d_R_learn_1 : decode c_R_learn 1 = .ok (.getfield 29, 3) := by decide +kernel
theorem d_R_learn_4 : decode c_R_learn 4 = .ok (.bipush 90, 2) := by decide +kernel
theorem d_R_learn_6 : decode c_R_learn 6 = .ok (.iload_n 1, 1) := by decide +kernel
theorem d_R_learn_7 : decode c_R_learn 7 = .ok (.imul, 1) := by decide +kernel
theorem d_R_learn_8 : decode c_R_learn 8 = .ok (.aload_n 0, 1) := by decide +kernel
theorem d_R_learn_9 : decode c_R_learn 9 = .ok (.getfield 36, 3) := by decide +kernel
theorem d_R_learn_12 : decode c_R_learn 12 = .ok (.iload_n 1, 1) := by decide +kernel
theorem d_R_learn_13 : decode c_R_learn 13 = .ok (.iaload, 1) := by decide +kernel
theorem d_R_learn_14 : decode c_R_learn 14 = .ok (.iadd, 1) := by decide +kernel
theorem d_R_learn_15 : decode c_R_learn 15 = .ok (.iload_n 2, 1) := by decide +kernel
theorem d_R_learn_16 : decode c_R_learn 16 = .ok (.iastore, 1) := by decide +kernel
theorem d_R_learn_17 : decode c_R_learn 17 = .ok (.aload_n 0, 1) := by decide +kernel
theorem d_R_learn_18 : decode c_R_learn 18 = .ok (.getfield 36, 3) := by decide +kernel
theorem d_R_learn_21 : decode c_R_learn 21 = .ok (.iload_n 1, 1) := by decide +kernel
theorem d_R_learn_22 : decode c_R_learn 22 = .ok (.dup2, 1) := by decide +kernel
theorem d_R_learn_23 : decode c_R_learn 23 = .ok (.iaload, 1) := by decide +kernel
theorem d_R_learn_24 : decode c_R_learn 24 = .ok (.iconst 1, 1) := by decide +kernel
theorem d_R_learn_25 : decode c_R_learn 25 = .ok (.iadd, 1) := by decide +kernel
theorem d_R_learn_26 : decode c_R_learn 26 = .ok (.iastore, 1) := by decide +kernel
theorem d_R_learn_27 : decode c_R_learn 27 = .ok (.aload_n 0, 1) := by decide +kernel
theorem d_R_learn_28 : decode c_R_learn 28 = .ok (.getfield 32, 3) := by decide +kernel
theorem d_R_learn_31 : decode c_R_learn 31 = .ok (.bipush 90, 2) := by decide +kernel
theorem d_R_learn_33 : decode c_R_learn 33 = .ok (.iload_n 1, 1) := by decide +kernel
theorem d_R_learn_34 : decode c_R_learn 34 = .ok (.imul, 1) := by decide +kernel
theorem d_R_learn_35 : decode c_R_learn 35 = .ok (.iload_n 2, 1) := by decide +kernel
theorem d_R_learn_36 : decode c_R_learn 36 = .ok (.iadd, 1) := by decide +kernel
theorem d_R_learn_37 : decode c_R_learn 37 = .ok (.iconst 1, 1) := by decide +kernel
theorem d_R_learn_38 : decode c_R_learn 38 = .ok (.bastore, 1) := by decide +kernel
theorem d_R_learn_39 : decode c_R_learn 39 = .ok (.return_, 1) := by decide +kernel
theorem d_R_make_0 : decode c_R_make 0 = .ok (.iconst 1, 1) := by decide +kernel
theorem d_R_make_1 : decode c_R_make 1 = .ok (.aload_n 0, 1) := by decide +kernel
theorem d_R_make_2 : decode c_R_make 2 = .ok (.iload_n 1, 1) := by decide +kernel
theorem d_R_make_3 : decode c_R_make 3 = .ok (.invokevirtual 75, 3) := by decide +kernel
theorem d_R_make_6 : decode c_R_make 6 = .ok (.iadd, 1) := by decide +kernel
theorem d_R_make_7 : decode c_R_make 7 = .ok (.istore 6, 2) := by decide +kernel
theorem d_R_make_9 : decode c_R_make 9 = .ok (.aload_n 0, 1) := by decide +kernel
theorem d_R_make_10 : decode c_R_make 10 = .ok (.getfield 7, 3) := by decide +kernel
theorem d_R_make_13 : decode c_R_make 13 = .ok (.aload_n 0, 1) := by decide +kernel
theorem d_R_make_14 : decode c_R_make 14 = .ok (.getfield 55, 3) := by decide +kernel
theorem d_R_make_17 : decode c_R_make 17 = .ok (.iload_n 2, 1) := by decide +kernel
theorem d_R_make_18 : decode c_R_make 18 = .ok (.iastore, 1) := by decide +kernel
theorem d_R_make_19 : decode c_R_make 19 = .ok (.aload_n 0, 1) := by decide +kernel
theorem d_R_make_20 : decode c_R_make 20 = .ok (.getfield 13, 3) := by decide +kernel
theorem d_R_make_23 : decode c_R_make 23 = .ok (.aload_n 0, 1) := by decide +kernel
theorem d_R_make_24 : decode c_R_make 24 = .ok (.getfield 55, 3) := by decide +kernel
theorem d_R_make_27 : decode c_R_make 27 = .ok (.iconst 4, 1) := by decide +kernel
theorem d_R_make_28 : decode c_R_make 28 = .ok (.iload 6, 2) := by decide +kernel
theorem d_R_make_30 : decode c_R_make 30 = .ok (.imul, 1) := by decide +kernel
theorem d_R_make_31 : decode c_R_make 31 = .ok (.iload_n 1, 1) := by decide +kernel
theorem d_R_make_32 : decode c_R_make 32 = .ok (.iadd, 1) := by decide +kernel
theorem d_R_make_33 : decode c_R_make 33 = .ok (.iastore, 1) := by decide +kernel
theorem d_R_make_34 : decode c_R_make 34 = .ok (.aload_n 0, 1) := by decide +kernel
theorem d_R_make_35 : decode c_R_make 35 = .ok (.getfield 16, 3) := by decide +kernel
theorem d_R_make_38 : decode c_R_make 38 = .ok (.aload_n 0, 1) := by decide +kernel
theorem d_R_make_39 : decode c_R_make 39 = .ok (.getfield 55, 3) := by decide +kernel
theorem d_R_make_42 : decode c_R_make 42 = .ok (.iload_n 3, 1) := by decide +kernel
theorem d_R_make_43 : decode c_R_make 43 = .ok (.iastore, 1) := by decide +kernel
theorem d_R_make_44 : decode c_R_make 44 = .ok (.aload_n 0, 1) := by decide +kernel
theorem d_R_make_45 : decode c_R_make 45 = .ok (.getfield 19, 3) := by decide +kernel
theorem d_R_make_48 : decode c_R_make 48 = .ok (.aload_n 0, 1) := by decide +kernel
theorem d_R_make_49 : decode c_R_make 49 = .ok (.getfield 55, 3) := by decide +kernel
theorem d_R_make_52 : decode c_R_make 52 = .ok (.iload 4, 2) := by decide +kernel
theorem d_R_make_54 : decode c_R_make 54 = .ok (.iastore, 1) := by decide +kernel
theorem d_R_make_55 : decode c_R_make 55 = .ok (.aload_n 0, 1) := by decide +kernel
theorem d_R_make_56 : decode c_R_make 56 = .ok (.getfield 22, 3) := by decide +kernel
theorem d_R_make_59 : decode c_R_make 59 = .ok (.aload_n 0, 1) := by decide +kernel
theorem d_R_make_60 : decode c_R_make 60 = .ok (.getfield 55, 3) := by decide +kernel
theorem d_R_make_63 : decode c_R_make 63 = .ok (.iload 5, 2) := by decide +kernel
theorem d_R_make_65 : decode c_R_make 65 = .ok (.iastore, 1) := by decide +kernel
theorem d_R_make_66 : decode c_R_make 66 = .ok (.aload_n 0, 1) := by decide +kernel
theorem d_R_make_67 : decode c_R_make 67 = .ok (.dup, 1) := by decide +kernel
theorem d_R_make_68 : decode c_R_make 68 = .ok (.getfield 55, 3) := by decide +kernel
theorem d_R_make_71 : decode c_R_make 71 = .ok (.iconst 1, 1) := by decide +kernel
theorem d_R_make_72 : decode c_R_make 72 = .ok (.iadd, 1) := by decide +kernel
theorem d_R_make_73 : decode c_R_make 73 = .ok (.putfield 55, 3) := by decide +kernel
theorem d_R_make_76 : decode c_R_make 76 = .ok (.aload_n 0, 1) := by decide +kernel
theorem d_R_make_77 : decode c_R_make 77 = .ok (.iload_n 1, 1) := by decide +kernel
theorem d_R_make_78 : decode c_R_make 78 = .ok (.aload_n 0, 1) := by decide +kernel
theorem d_R_make_79 : decode c_R_make 79 = .ok (.getfield 55, 3) := by decide +kernel
theorem d_R_make_82 : decode c_R_make 82 = .ok (.iconst 1, 1) := by decide +kernel
theorem d_R_make_83 : decode c_R_make 83 = .ok (.isub, 1) := by decide +kernel
theorem d_R_make_84 : decode c_R_make 84 = .ok (.invokevirtual 79, 3) := by decide +kernel
theorem d_R_make_87 : decode c_R_make 87 = .ok (.iload 6, 2) := by decide +kernel
theorem d_R_make_89 : decode c_R_make 89 = .ok (.ireturn, 1) := by decide +kernel
theorem d_R_write_0 : decode c_R_write 0 = .ok (.aload_n 0, 1) := by decide +kernel
theorem d_R_write_1 : decode c_R_write 1 = .ok (.iload_n 1, 1) := by decide +kernel
theorem d_R_write_2 : decode c_R_write 2 = .ok (.invokestatic 83, 3) := by decide +kernel
theorem d_R_write_5 : decode c_R_write 5 = .ok (.ifCond .eq 7, 3) := by decide +kernel
theorem d_R_write_8 : decode c_R_write 8 = .ok (.iconst 0, 1) := by decide +kernel
theorem d_R_write_9 : decode c_R_write 9 = .ok (.goto 4, 3) := by decide +kernel
theorem d_R_write_12 : decode c_R_write 12 = .ok (.iconst 1, 1) := by decide +kernel
theorem d_R_write_13 : decode c_R_write 13 = .ok (.putfield 51, 3) := by decide +kernel
theorem d_R_write_16 : decode c_R_write 16 = .ok (.aload_n 0, 1) := by decide +kernel
theorem d_R_write_17 : decode c_R_write 17 = .ok (.getfield 51, 3) := by decide +kernel
theorem d_R_write_20 : decode c_R_write 20 = .ok (.ifCond .le 5, 3) := by decide +kernel
theorem d_R_write_23 : decode c_R_write 23 = .ok (.iconst 0, 1) := by decide +kernel
theorem d_R_write_24 : decode c_R_write 24 = .ok (.ireturn, 1) := by decide +kernel
theorem d_R_write_25 : decode c_R_write 25 = .ok (.aload_n 0, 1) := by decide +kernel
theorem d_R_write_26 : decode c_R_write 26 = .ok (.iload_n 1, 1) := by decide +kernel
theorem d_R_write_27 : decode c_R_write 27 = .ok (.invokevirtual 87, 3) := by decide +kernel
theorem d_R_write_30 : decode c_R_write 30 = .ok (.aload_n 0, 1) := by decide +kernel
theorem d_R_write_31 : decode c_R_write 31 = .ok (.iload_n 2, 1) := by decide +kernel
theorem d_R_write_32 : decode c_R_write 32 = .ok (.ifCond .lt 11, 3) := by decide +kernel
theorem d_R_write_35 : decode c_R_write 35 = .ok (.iload_n 2, 1) := by decide +kernel
theorem d_R_write_36 : decode c_R_write 36 = .ok (.aload_n 0, 1) := by decide +kernel
theorem d_R_write_37 : decode c_R_write 37 = .ok (.getfield 61, 3) := by decide +kernel
theorem d_R_write_40 : decode c_R_write 40 = .ok (.if_icmp .le 7, 3) := by decide +kernel
theorem d_R_write_43 : decode c_R_write 43 = .ok (.iconst 2, 1) := by decide +kernel
theorem d_R_write_44 : decode c_R_write 44 = .ok (.goto 17, 3) := by decide +kernel
theorem d_R_write_47 : decode c_R_write 47 = .ok (.aload_n 0, 1) := by decide +kernel
theorem d_R_write_48 : decode c_R_write 48 = .ok (.getfield 55, 3) := by decide +kernel
theorem d_R_write_51 : decode c_R_write 51 = .ok (.bipush 90, 2) := by decide +kernel
theorem d_R_write_53 : decode c_R_write 53 = .ok (.if_icmp .ne 7, 3) := by decide +kernel
theorem d_R_write_56 : decode c_R_write 56 = .ok (.iconst 3, 1) := by decide +kernel
theorem d_R_write_57 : decode c_R_write 57 = .ok (.goto 4, 3) := by decide +kernel
theorem d_R_write_60 : decode c_R_write 60 = .ok (.iconst 0, 1) := by decide +kernel
theorem d_R_write_61 : decode c_R_write 61 = .ok (.putfield 51, 3) := by decide +kernel
theorem d_R_write_64 : decode c_R_write 64 = .ok (.aload_n 0, 1) := by decide +kernel
theorem d_R_write_65 : decode c_R_write 65 = .ok (.getfield 51, 3) := by decide +kernel
theorem d_R_write_68 : decode c_R_write 68 = .ok (.ifCond .le 5, 3) := by decide +kernel
theorem d_R_write_71 : decode c_R_write 71 = .ok (.iconst 0, 1) := by decide +kernel
theorem d_R_write_72 : decode c_R_write 72 = .ok (.ireturn, 1) := by decide +kernel
theorem d_R_write_73 : decode c_R_write 73 = .ok (.aload_n 0, 1) := by decide +kernel
theorem d_R_write_74 : decode c_R_write 74 = .ok (.getfield 25, 3) := by decide +kernel
theorem d_R_write_77 : decode c_R_write 77 = .ok (.aload_n 0, 1) := by decide +kernel
theorem d_R_write_78 : decode c_R_write 78 = .ok (.getfield 55, 3) := by decide +kernel
theorem d_R_write_81 : decode c_R_write 81 = .ok (.iload_n 3, 1) := by decide +kernel
theorem d_R_write_82 : decode c_R_write 82 = .ok (.castore, 1) := by decide +kernel
theorem d_R_write_83 : decode c_R_write 83 = .ok (.aload_n 0, 1) := by decide +kernel
theorem d_R_write_84 : decode c_R_write 84 = .ok (.iload_n 1, 1) := by decide +kernel
theorem d_R_write_85 : decode c_R_write 85 = .ok (.iconst 0, 1) := by decide +kernel
theorem d_R_write_86 : decode c_R_write 86 = .ok (.iload_n 2, 1) := by decide +kernel
theorem d_R_write_87 : decode c_R_write 87 = .ok (.ifCond .ne 7, 3) := by decide +kernel
theorem d_R_write_90 : decode c_R_write 90 = .ok (.iconst (-1), 1) := by decide +kernel
theorem d_R_write_91 : decode c_R_write 91 = .ok (.goto 11, 3) := by decide +kernel
theorem d_R_write_94 : decode c_R_write 94 = .ok (.aload_n 0, 1) := by decide +kernel
theorem d_R_write_95 : decode c_R_write 95 = .ok (.getfield 45, 3) := by decide +kernel
theorem d_R_write_98 : decode c_R_write 98 = .ok (.iload_n 2, 1) := by decide +kernel
theorem d_R_write_99 : decode c_R_write 99 = .ok (.iconst 1, 1) := by decide +kernel
theorem d_R_write_100 : decode c_R_write 100 = .ok (.isub, 1) := by decide +kernel
theorem d_R_write_101 : decode c_R_write 101 = .ok (.iaload, 1) := by decide +kernel
theorem d_R_write_102 : decode c_R_write 102 = .ok (.iconst (-1), 1) := by decide +kernel
theorem d_R_write_103 : decode c_R_write 103 = .ok (.iconst 0, 1) := by decide +kernel
theorem d_R_write_104 : decode c_R_write 104 = .ok (.invokevirtual 91, 3) := by decide +kernel
theorem d_R_write_107 : decode c_R_write 107 = .ok (.ireturn, 1) := by decide +kernel
theorem d_R_erase_0 : decode c_R_erase 0 = .ok (.aload_n 0, 1) := by decide +kernel
theorem d_R_erase_1 : decode c_R_erase 1 = .ok (.iload_n 1, 1) := by decide +kernel
theorem d_R_erase_2 : decode c_R_erase 2 = .ok (.invokestatic 83, 3) := by decide +kernel
theorem d_R_erase_5 : decode c_R_erase 5 = .ok (.ifCond .eq 7, 3) := by decide +kernel
theorem d_R_erase_8 : decode c_R_erase 8 = .ok (.iconst 0, 1) := by decide +kernel
theorem d_R_erase_9 : decode c_R_erase 9 = .ok (.goto 4, 3) := by decide +kernel
theorem d_R_erase_12 : decode c_R_erase 12 = .ok (.iconst 1, 1) := by decide +kernel
theorem d_R_erase_13 : decode c_R_erase 13 = .ok (.putfield 51, 3) := by decide +kernel
theorem d_R_erase_16 : decode c_R_erase 16 = .ok (.aload_n 0, 1) := by decide +kernel
theorem d_R_erase_17 : decode c_R_erase 17 = .ok (.getfield 51, 3) := by decide +kernel
theorem d_R_erase_20 : decode c_R_erase 20 = .ok (.ifCond .le 5, 3) := by decide +kernel
theorem d_R_erase_23 : decode c_R_erase 23 = .ok (.iconst 0, 1) := by decide +kernel
theorem d_R_erase_24 : decode c_R_erase 24 = .ok (.ireturn, 1) := by decide +kernel
theorem d_R_erase_25 : decode c_R_erase 25 = .ok (.aload_n 0, 1) := by decide +kernel
theorem d_R_erase_26 : decode c_R_erase 26 = .ok (.iload_n 1, 1) := by decide +kernel
theorem d_R_erase_27 : decode c_R_erase 27 = .ok (.invokevirtual 87, 3) := by decide +kernel
theorem d_R_erase_30 : decode c_R_erase 30 = .ok (.aload_n 0, 1) := by decide +kernel
theorem d_R_erase_31 : decode c_R_erase 31 = .ok (.iload_n 2, 1) := by decide +kernel
theorem d_R_erase_32 : decode c_R_erase 32 = .ok (.ifCond .lt 11, 3) := by decide +kernel
theorem d_R_erase_35 : decode c_R_erase 35 = .ok (.iload_n 2, 1) := by decide +kernel
theorem d_R_erase_36 : decode c_R_erase 36 = .ok (.aload_n 0, 1) := by decide +kernel
theorem d_R_erase_37 : decode c_R_erase 37 = .ok (.getfield 61, 3) := by decide +kernel
theorem d_R_erase_40 : decode c_R_erase 40 = .ok (.if_icmp .lt 7, 3) := by decide +kernel
theorem d_R_erase_43 : decode c_R_erase 43 = .ok (.iconst 2, 1) := by decide +kernel
theorem d_R_erase_44 : decode c_R_erase 44 = .ok (.goto 17, 3) := by decide +kernel
theorem d_R_erase_47 : decode c_R_erase 47 = .ok (.aload_n 0, 1) := by decide +kernel
theorem d_R_erase_48 : decode c_R_erase 48 = .ok (.getfield 55, 3) := by decide +kernel
theorem d_R_erase_51 : decode c_R_erase 51 = .ok (.bipush 90, 2) := by decide +kernel
theorem d_R_erase_53 : decode c_R_erase 53 = .ok (.if_icmp .ne 7, 3) := by decide +kernel
theorem d_R_erase_56 : decode c_R_erase 56 = .ok (.iconst 3, 1) := by decide +kernel
theorem d_R_erase_57 : decode c_R_erase 57 = .ok (.goto 4, 3) := by decide +kernel
theorem d_R_erase_60 : decode c_R_erase 60 = .ok (.iconst 0, 1) := by decide +kernel
theorem d_R_erase_61 : decode c_R_erase 61 = .ok (.putfield 51, 3) := by decide +kernel
theorem d_R_erase_64 : decode c_R_erase 64 = .ok (.aload_n 0, 1) := by decide +kernel
theorem d_R_erase_65 : decode c_R_erase 65 = .ok (.getfield 51, 3) := by decide +kernel
theorem d_R_erase_68 : decode c_R_erase 68 = .ok (.ifCond .le 5, 3) := by decide +kernel
theorem d_R_erase_71 : decode c_R_erase 71 = .ok (.iconst 0, 1) := by decide +kernel
theorem d_R_erase_72 : decode c_R_erase 72 = .ok (.ireturn, 1) := by decide +kernel
theorem d_R_erase_73 : decode c_R_erase 73 = .ok (.aload_n 0, 1) := by decide +kernel
theorem d_R_erase_74 : decode c_R_erase 74 = .ok (.getfield 45, 3) := by decide +kernel
theorem d_R_erase_77 : decode c_R_erase 77 = .ok (.iload_n 2, 1) := by decide +kernel
theorem d_R_erase_78 : decode c_R_erase 78 = .ok (.iaload, 1) := by decide +kernel
theorem d_R_erase_79 : decode c_R_erase 79 = .ok (.istore_n 3, 1) := by decide +kernel
theorem d_R_erase_80 : decode c_R_erase 80 = .ok (.aload_n 0, 1) := by decide +kernel
theorem d_R_erase_81 : decode c_R_erase 81 = .ok (.iload_n 1, 1) := by decide +kernel
theorem d_R_erase_82 : decode c_R_erase 82 = .ok (.iconst 1, 1) := by decide +kernel
theorem d_R_erase_83 : decode c_R_erase 83 = .ok (.iload_n 3, 1) := by decide +kernel
theorem d_R_erase_84 : decode c_R_erase 84 = .ok (.iconst (-1), 1) := by decide +kernel
theorem d_R_erase_85 : decode c_R_erase 85 = .ok (.iconst 0, 1) := by decide +kernel
theorem d_R_erase_86 : decode c_R_erase 86 = .ok (.invokevirtual 91, 3) := by decide +kernel
theorem d_R_erase_89 : decode c_R_erase 89 = .ok (.pop, 1) := by decide +kernel
theorem d_R_erase_90 : decode c_R_erase 90 = .ok (.aload_n 0, 1) := by decide +kernel
theorem d_R_erase_91 : decode c_R_erase 91 = .ok (.getfield 25, 3) := by decide +kernel
theorem d_R_erase_94 : decode c_R_erase 94 = .ok (.iload_n 3, 1) := by decide +kernel
theorem d_R_erase_95 : decode c_R_erase 95 = .ok (.caload, 1) := by decide +kernel
theorem d_R_erase_96 : decode c_R_erase 96 = .ok (.ireturn, 1) := by decide +kernel
theorem d_R_mark_0 : decode c_R_mark 0 = .ok (.aload_n 0, 1) := by decide +kernel
theorem d_R_mark_1 : decode c_R_mark 1 = .ok (.iload_n 1, 1) := by decide +kernel
theorem d_R_mark_2 : decode c_R_mark 2 = .ok (.invokestatic 83, 3) := by decide +kernel
theorem d_R_mark_5 : decode c_R_mark 5 = .ok (.ifCond .eq 19, 3) := by decide +kernel
theorem d_R_mark_8 : decode c_R_mark 8 = .ok (.iload 4, 2) := by decide +kernel
theorem d_R_mark_10 : decode c_R_mark 10 = .ok (.ifCond .lt 14, 3) := by decide +kernel
theorem d_R_mark_13 : decode c_R_mark 13 = .ok (.iload 4, 2) := by decide +kernel
theorem d_R_mark_15 : decode c_R_mark 15 = .ok (.bipush 7, 2) := by decide +kernel
theorem d_R_mark_17 : decode c_R_mark 17 = .ok (.if_icmp .gt 7, 3) := by decide +kernel
theorem d_R_mark_20 : decode c_R_mark 20 = .ok (.iconst 0, 1) := by decide +kernel
theorem d_R_mark_21 : decode c_R_mark 21 = .ok (.goto 4, 3) := by decide +kernel
theorem d_R_mark_24 : decode c_R_mark 24 = .ok (.iconst 1, 1) := by decide +kernel
theorem d_R_mark_25 : decode c_R_mark 25 = .ok (.putfield 51, 3) := by decide +kernel
theorem d_R_mark_28 : decode c_R_mark 28 = .ok (.aload_n 0, 1) := by decide +kernel
theorem d_R_mark_29 : decode c_R_mark 29 = .ok (.getfield 51, 3) := by decide +kernel
theorem d_R_mark_32 : decode c_R_mark 32 = .ok (.ifCond .le 5, 3) := by decide +kernel
theorem d_R_mark_35 : decode c_R_mark 35 = .ok (.iconst 0, 1) := by decide +kernel
theorem d_R_mark_36 : decode c_R_mark 36 = .ok (.ireturn, 1) := by decide +kernel
theorem d_R_mark_37 : decode c_R_mark 37 = .ok (.aload_n 0, 1) := by decide +kernel
theorem d_R_mark_38 : decode c_R_mark 38 = .ok (.iload_n 1, 1) := by decide +kernel
theorem d_R_mark_39 : decode c_R_mark 39 = .ok (.invokevirtual 87, 3) := by decide +kernel
theorem d_R_mark_42 : decode c_R_mark 42 = .ok (.aload_n 0, 1) := by decide +kernel
theorem d_R_mark_43 : decode c_R_mark 43 = .ok (.iload_n 2, 1) := by decide +kernel
theorem d_R_mark_44 : decode c_R_mark 44 = .ok (.ifCond .lt 16, 3) := by decide +kernel
theorem d_R_mark_47 : decode c_R_mark 47 = .ok (.iload_n 2, 1) := by decide +kernel
theorem d_R_mark_48 : decode c_R_mark 48 = .ok (.iload_n 3, 1) := by decide +kernel
theorem d_R_mark_49 : decode c_R_mark 49 = .ok (.if_icmp .ge 11, 3) := by decide +kernel
theorem d_R_mark_52 : decode c_R_mark 52 = .ok (.iload_n 3, 1) := by decide +kernel
theorem d_R_mark_53 : decode c_R_mark 53 = .ok (.aload_n 0, 1) := by decide +kernel
theorem d_R_mark_54 : decode c_R_mark 54 = .ok (.getfield 61, 3) := by decide +kernel
theorem d_R_mark_57 : decode c_R_mark 57 = .ok (.if_icmp .le 7, 3) := by decide +kernel
theorem d_R_mark_60 : decode c_R_mark 60 = .ok (.iconst 2, 1) := by decide +kernel
theorem d_R_mark_61 : decode c_R_mark 61 = .ok (.goto 17, 3) := by decide +kernel
theorem d_R_mark_64 : decode c_R_mark 64 = .ok (.aload_n 0, 1) := by decide +kernel
theorem d_R_mark_65 : decode c_R_mark 65 = .ok (.getfield 55, 3) := by decide +kernel
theorem d_R_mark_68 : decode c_R_mark 68 = .ok (.bipush 90, 2) := by decide +kernel
theorem d_R_mark_70 : decode c_R_mark 70 = .ok (.if_icmp .ne 7, 3) := by decide +kernel
theorem d_R_mark_73 : decode c_R_mark 73 = .ok (.iconst 3, 1) := by decide +kernel
theorem d_R_mark_74 : decode c_R_mark 74 = .ok (.goto 4, 3) := by decide +kernel
theorem d_R_mark_77 : decode c_R_mark 77 = .ok (.iconst 0, 1) := by decide +kernel
theorem d_R_mark_78 : decode c_R_mark 78 = .ok (.putfield 51, 3) := by decide +kernel
theorem d_R_mark_81 : decode c_R_mark 81 = .ok (.aload_n 0, 1) := by decide +kernel
theorem d_R_mark_82 : decode c_R_mark 82 = .ok (.getfield 51, 3) := by decide +kernel
theorem d_R_mark_85 : decode c_R_mark 85 = .ok (.ifCond .le 5, 3) := by decide +kernel
theorem d_R_mark_88 : decode c_R_mark 88 = .ok (.iconst 0, 1) := by decide +kernel
theorem d_R_mark_89 : decode c_R_mark 89 = .ok (.ireturn, 1) := by decide +kernel
theorem d_R_mark_90 : decode c_R_mark 90 = .ok (.iload 4, 2) := by decide +kernel
theorem d_R_mark_92 : decode c_R_mark 92 = .ok (.iconst 3, 1) := by decide +kernel
theorem d_R_mark_93 : decode c_R_mark 93 = .ok (.if_icmp .le 14, 3) := by decide +kernel
theorem d_R_mark_96 : decode c_R_mark 96 = .ok (.aload_n 0, 1) := by decide +kernel
theorem d_R_mark_97 : decode c_R_mark 97 = .ok (.getfield 45, 3) := by decide +kernel
theorem d_R_mark_100 : decode c_R_mark 100 = .ok (.iload_n 3, 1) := by decide +kernel
theorem d_R_mark_101 : decode c_R_mark 101 = .ok (.iconst 1, 1) := by decide +kernel
theorem d_R_mark_102 : decode c_R_mark 102 = .ok (.isub, 1) := by decide +kernel
theorem d_R_mark_103 : decode c_R_mark 103 = .ok (.iaload, 1) := by decide +kernel
theorem d_R_mark_104 : decode c_R_mark 104 = .ok (.goto 21, 3) := by decide +kernel
theorem d_R_mark_107 : decode c_R_mark 107 = .ok (.iload_n 3, 1) := by decide +kernel
theorem d_R_mark_108 : decode c_R_mark 108 = .ok (.aload_n 0, 1) := by decide +kernel
theorem d_R_mark_109 : decode c_R_mark 109 = .ok (.getfield 61, 3) := by decide +kernel
theorem d_R_mark_112 : decode c_R_mark 112 = .ok (.if_icmp .ge 12, 3) := by decide +kernel
theorem d_R_mark_115 : decode c_R_mark 115 = .ok (.aload_n 0, 1) := by decide +kernel
theorem d_R_mark_116 : decode c_R_mark 116 = .ok (.getfield 45, 3) := by decide +kernel
theorem d_R_mark_119 : decode c_R_mark 119 = .ok (.iload_n 3, 1) := by decide +kernel
theorem d_R_mark_120 : decode c_R_mark 120 = .ok (.iaload, 1) := by decide +kernel
theorem d_R_mark_121 : decode c_R_mark 121 = .ok (.goto 4, 3) := by decide +kernel
theorem d_R_mark_124 : decode c_R_mark 124 = .ok (.iconst (-1), 1) := by decide +kernel
theorem d_R_mark_125 : decode c_R_mark 125 = .ok (.istore 5, 2) := by decide +kernel
theorem d_R_mark_127 : decode c_R_mark 127 = .ok (.aload_n 0, 1) := by decide +kernel
theorem d_R_mark_128 : decode c_R_mark 128 = .ok (.iload_n 1, 1) := by decide +kernel
theorem d_R_mark_129 : decode c_R_mark 129 = .ok (.iconst 2, 1) := by decide +kernel
theorem d_R_mark_130 : decode c_R_mark 130 = .ok (.aload_n 0, 1) := by decide +kernel
theorem d_R_mark_131 : decode c_R_mark 131 = .ok (.getfield 45, 3) := by decide +kernel
theorem d_R_mark_134 : decode c_R_mark 134 = .ok (.iload_n 2, 1) := by decide +kernel
theorem d_R_mark_135 : decode c_R_mark 135 = .ok (.iaload, 1) := by decide +kernel
theorem d_R_mark_136 : decode c_R_mark 136 = .ok (.iload 5, 2) := by decide +kernel
theorem d_R_mark_138 : decode c_R_mark 138 = .ok (.iload 4, 2) := by decide +kernel
theorem d_R_mark_140 : decode c_R_mark 140 = .ok (.invokevirtual 91, 3) := by decide +kernel
theorem d_R_mark_143 : decode c_R_mark 143 = .ok (.ireturn, 1) := by decide +kernel
theorem d_R_tell_0 : decode c_R_tell 0 = .ok (.aload_n 0, 1) := by decide +kernel
theorem d_R_tell_1 : decode c_R_tell 1 = .ok (.iload_n 1, 1) := by decide +kernel
theorem d_R_tell_2 : decode c_R_tell 2 = .ok (.invokestatic 83, 3) := by decide +kernel
theorem d_R_tell_5 : decode c_R_tell 5 = .ok (.ifCond .eq 18, 3) := by decide +kernel
theorem d_R_tell_8 : decode c_R_tell 8 = .ok (.iload_n 2, 1) := by decide +kernel
theorem d_R_tell_9 : decode c_R_tell 9 = .ok (.invokestatic 83, 3) := by decide +kernel
theorem d_R_tell_12 : decode c_R_tell 12 = .ok (.ifCond .eq 11, 3) := by decide +kernel
theorem d_R_tell_15 : decode c_R_tell 15 = .ok (.iload_n 3, 1) := by decide +kernel
theorem d_R_tell_16 : decode c_R_tell 16 = .ok (.ifCond .lt 7, 3) := by decide +kernel
theorem d_R_tell_19 : decode c_R_tell 19 = .ok (.iconst 0, 1) := by decide +kernel
theorem d_R_tell_20 : decode c_R_tell 20 = .ok (.goto 4, 3) := by decide +kernel
theorem d_R_tell_23 : decode c_R_tell 23 = .ok (.iconst 1, 1) := by decide +kernel
theorem d_R_tell_24 : decode c_R_tell 24 = .ok (.putfield 51, 3) := by decide +kernel
theorem d_R_tell_27 : decode c_R_tell 27 = .ok (.iconst 0, 1) := by decide +kernel
theorem d_R_tell_28 : decode c_R_tell 28 = .ok (.istore 4, 2) := by decide +kernel
theorem d_R_tell_30 : decode c_R_tell 30 = .ok (.iconst 0, 1) := by decide +kernel
theorem d_R_tell_31 : decode c_R_tell 31 = .ok (.istore 5, 2) := by decide +kernel
theorem d_R_tell_33 : decode c_R_tell 33 = .ok (.aload_n 0, 1) := by decide +kernel
theorem d_R_tell_34 : decode c_R_tell 34 = .ok (.getfield 51, 3) := by decide +kernel
theorem d_R_tell_37 : decode c_R_tell 37 = .ok (.ifCond .ne 65, 3) := by decide +kernel
theorem d_R_tell_40 : decode c_R_tell 40 = .ok (.iload 5, 2) := by decide +kernel
theorem d_R_tell_42 : decode c_R_tell 42 = .ok (.aload_n 0, 1) := by decide +kernel
theorem d_R_tell_43 : decode c_R_tell 43 = .ok (.getfield 36, 3) := by decide +kernel
theorem d_R_tell_46 : decode c_R_tell 46 = .ok (.iload_n 1, 1) := by decide +kernel
theorem d_R_tell_47 : decode c_R_tell 47 = .ok (.iaload, 1) := by decide +kernel
theorem d_R_tell_48 : decode c_R_tell 48 = .ok (.if_icmp .ge 54, 3) := by decide +kernel
theorem d_R_tell_51 : decode c_R_tell 51 = .ok (.iload 4, 2) := by decide +kernel
theorem d_R_tell_53 : decode c_R_tell 53 = .ok (.iload_n 3, 1) := by decide +kernel
theorem d_R_tell_54 : decode c_R_tell 54 = .ok (.if_icmp .ge 48, 3) := by decide +kernel
theorem d_R_tell_57 : decode c_R_tell 57 = .ok (.aload_n 0, 1) := by decide +kernel
theorem d_R_tell_58 : decode c_R_tell 58 = .ok (.getfield 29, 3) := by decide +kernel
theorem d_R_tell_61 : decode c_R_tell 61 = .ok (.bipush 90, 2) := by decide +kernel
theorem d_R_tell_63 : decode c_R_tell 63 = .ok (.iload_n 1, 1) := by decide +kernel
theorem d_R_tell_64 : decode c_R_tell 64 = .ok (.imul, 1) := by decide +kernel
theorem d_R_tell_65 : decode c_R_tell 65 = .ok (.iload 5, 2) := by decide +kernel
theorem d_R_tell_67 : decode c_R_tell 67 = .ok (.iadd, 1) := by decide +kernel
theorem d_R_tell_68 : decode c_R_tell 68 = .ok (.iaload, 1) := by decide +kernel
theorem d_R_tell_69 : decode c_R_tell 69 = .ok (.istore 6, 2) := by decide +kernel
theorem d_R_tell_71 : decode c_R_tell 71 = .ok (.aload_n 0, 1) := by decide +kernel
theorem d_R_tell_72 : decode c_R_tell 72 = .ok (.getfield 32, 3) := by decide +kernel
theorem d_R_tell_75 : decode c_R_tell 75 = .ok (.bipush 90, 2) := by decide +kernel
theorem d_R_tell_77 : decode c_R_tell 77 = .ok (.iload_n 2, 1) := by decide +kernel
theorem d_R_tell_78 : decode c_R_tell 78 = .ok (.imul, 1) := by decide +kernel
theorem d_R_tell_79 : decode c_R_tell 79 = .ok (.iload 6, 2) := by decide +kernel
theorem d_R_tell_81 : decode c_R_tell 81 = .ok (.iadd, 1) := by decide +kernel
theorem d_R_tell_82 : decode c_R_tell 82 = .ok (.baload, 1) := by decide +kernel
theorem d_R_tell_83 : decode c_R_tell 83 = .ok (.ifCond .ne 13, 3) := by decide +kernel
theorem d_R_tell_86 : decode c_R_tell 86 = .ok (.aload_n 0, 1) := by decide +kernel
theorem d_R_tell_87 : decode c_R_tell 87 = .ok (.iload_n 2, 1) := by decide +kernel
theorem d_R_tell_88 : decode c_R_tell 88 = .ok (.iload 6, 2) := by decide +kernel
theorem d_R_tell_90 : decode c_R_tell 90 = .ok (.invokevirtual 79, 3) := by decide +kernel
theorem d_R_tell_93 : decode c_R_tell 93 = .ok (.iinc 4 1, 3) := by decide +kernel
theorem d_R_tell_96 : decode c_R_tell 96 = .ok (.iinc 5 1, 3) := by decide +kernel
theorem d_R_tell_99 : decode c_R_tell 99 = .ok (.goto (-66), 3) := by decide +kernel
theorem d_R_tell_102 : decode c_R_tell 102 = .ok (.iload 4, 2) := by decide +kernel
theorem d_R_tell_104 : decode c_R_tell 104 = .ok (.ireturn, 1) := by decide +kernel
theorem d_R_length_0 : decode c_R_length 0 = .ok (.aload_n 0, 1) := by decide +kernel
theorem d_R_length_1 : decode c_R_length 1 = .ok (.iload_n 1, 1) := by decide +kernel
theorem d_R_length_2 : decode c_R_length 2 = .ok (.invokestatic 83, 3) := by decide +kernel
theorem d_R_length_5 : decode c_R_length 5 = .ok (.ifCond .eq 7, 3) := by decide +kernel
theorem d_R_length_8 : decode c_R_length 8 = .ok (.iconst 0, 1) := by decide +kernel
theorem d_R_length_9 : decode c_R_length 9 = .ok (.goto 4, 3) := by decide +kernel
theorem d_R_length_12 : decode c_R_length 12 = .ok (.iconst 1, 1) := by decide +kernel
theorem d_R_length_13 : decode c_R_length 13 = .ok (.putfield 51, 3) := by decide +kernel
theorem d_R_length_16 : decode c_R_length 16 = .ok (.aload_n 0, 1) := by decide +kernel
theorem d_R_length_17 : decode c_R_length 17 = .ok (.getfield 51, 3) := by decide +kernel
theorem d_R_length_20 : decode c_R_length 20 = .ok (.ifCond .le 5, 3) := by decide +kernel
theorem d_R_length_23 : decode c_R_length 23 = .ok (.iconst 0, 1) := by decide +kernel
theorem d_R_length_24 : decode c_R_length 24 = .ok (.ireturn, 1) := by decide +kernel
theorem d_R_length_25 : decode c_R_length 25 = .ok (.aload_n 0, 1) := by decide +kernel
theorem d_R_length_26 : decode c_R_length 26 = .ok (.iload_n 1, 1) := by decide +kernel
theorem d_R_length_27 : decode c_R_length 27 = .ok (.invokevirtual 87, 3) := by decide +kernel
theorem d_R_length_30 : decode c_R_length 30 = .ok (.aload_n 0, 1) := by decide +kernel
theorem d_R_length_31 : decode c_R_length 31 = .ok (.getfield 61, 3) := by decide +kernel
theorem d_R_length_34 : decode c_R_length 34 = .ok (.ireturn, 1) := by decide +kernel
theorem d_R_finds_0 : decode c_R_finds 0 = .ok (.aload_n 0, 1) := by decide +kernel
theorem d_R_finds_1 : decode c_R_finds 1 = .ok (.iload_n 1, 1) := by decide +kernel
theorem d_R_finds_2 : decode c_R_finds 2 = .ok (.invokestatic 83, 3) := by decide +kernel
theorem d_R_finds_5 : decode c_R_finds 5 = .ok (.ifCond .eq 7, 3) := by decide +kernel
theorem d_R_finds_8 : decode c_R_finds 8 = .ok (.iconst 0, 1) := by decide +kernel
theorem d_R_finds_9 : decode c_R_finds 9 = .ok (.goto 4, 3) := by decide +kernel
theorem d_R_finds_12 : decode c_R_finds 12 = .ok (.iconst 1, 1) := by decide +kernel
theorem d_R_finds_13 : decode c_R_finds 13 = .ok (.putfield 51, 3) := by decide +kernel
theorem d_R_finds_16 : decode c_R_finds 16 = .ok (.aload_n 0, 1) := by decide +kernel
theorem d_R_finds_17 : decode c_R_finds 17 = .ok (.getfield 51, 3) := by decide +kernel
theorem d_R_finds_20 : decode c_R_finds 20 = .ok (.ifCond .ne 29, 3) := by decide +kernel
theorem d_R_finds_23 : decode c_R_finds 23 = .ok (.aload_n 0, 1) := by decide +kernel
theorem d_R_finds_24 : decode c_R_finds 24 = .ok (.iload_n 1, 1) := by decide +kernel
theorem d_R_finds_25 : decode c_R_finds 25 = .ok (.invokevirtual 87, 3) := by decide +kernel
theorem d_R_finds_28 : decode c_R_finds 28 = .ok (.aload_n 0, 1) := by decide +kernel
theorem d_R_finds_29 : decode c_R_finds 29 = .ok (.iload_n 2, 1) := by decide +kernel
theorem d_R_finds_30 : decode c_R_finds 30 = .ok (.ifCond .lt 11, 3) := by decide +kernel
theorem d_R_finds_33 : decode c_R_finds 33 = .ok (.iload_n 2, 1) := by decide +kernel
theorem d_R_finds_34 : decode c_R_finds 34 = .ok (.aload_n 0, 1) := by decide +kernel
theorem d_R_finds_35 : decode c_R_finds 35 = .ok (.getfield 61, 3) := by decide +kernel
theorem d_R_finds_38 : decode c_R_finds 38 = .ok (.if_icmp .lt 7, 3) := by decide +kernel
theorem d_R_finds_41 : decode c_R_finds 41 = .ok (.iconst 2, 1) := by decide +kernel
theorem d_R_finds_42 : decode c_R_finds 42 = .ok (.goto 4, 3) := by decide +kernel
theorem d_R_finds_45 : decode c_R_finds 45 = .ok (.iconst 0, 1) := by decide +kernel
theorem d_R_finds_46 : decode c_R_finds 46 = .ok (.putfield 51, 3) := by decide +kernel
theorem d_R_finds_49 : decode c_R_finds 49 = .ok (.aload_n 0, 1) := by decide +kernel
theorem d_R_finds_50 : decode c_R_finds 50 = .ok (.getfield 51, 3) := by decide +kernel
theorem d_R_finds_53 : decode c_R_finds 53 = .ok (.ifCond .ne 7, 3) := by decide +kernel
theorem d_R_finds_56 : decode c_R_finds 56 = .ok (.iconst 1, 1) := by decide +kernel
theorem d_R_finds_57 : decode c_R_finds 57 = .ok (.goto 4, 3) := by decide +kernel
theorem d_R_finds_60 : decode c_R_finds 60 = .ok (.iconst 0, 1) := by decide +kernel
theorem d_R_finds_61 : decode c_R_finds 61 = .ok (.ireturn, 1) := by decide +kernel
theorem d_R_at_0 : decode c_R_at 0 = .ok (.aload_n 0, 1) := by decide +kernel
theorem d_R_at_1 : decode c_R_at 1 = .ok (.iload_n 1, 1) := by decide +kernel
theorem d_R_at_2 : decode c_R_at 2 = .ok (.iload_n 2, 1) := by decide +kernel
theorem d_R_at_3 : decode c_R_at 3 = .ok (.invokevirtual 95, 3) := by decide +kernel
theorem d_R_at_6 : decode c_R_at 6 = .ok (.ifCond .eq 17, 3) := by decide +kernel
theorem d_R_at_9 : decode c_R_at 9 = .ok (.aload_n 0, 1) := by decide +kernel
theorem d_R_at_10 : decode c_R_at 10 = .ok (.getfield 25, 3) := by decide +kernel
theorem d_R_at_13 : decode c_R_at 13 = .ok (.aload_n 0, 1) := by decide +kernel
theorem d_R_at_14 : decode c_R_at 14 = .ok (.getfield 45, 3) := by decide +kernel
theorem d_R_at_17 : decode c_R_at 17 = .ok (.iload_n 2, 1) := by decide +kernel
theorem d_R_at_18 : decode c_R_at 18 = .ok (.iaload, 1) := by decide +kernel
theorem d_R_at_19 : decode c_R_at 19 = .ok (.caload, 1) := by decide +kernel
theorem d_R_at_20 : decode c_R_at 20 = .ok (.goto 4, 3) := by decide +kernel
theorem d_R_at_23 : decode c_R_at 23 = .ok (.iconst 0, 1) := by decide +kernel
theorem d_R_at_24 : decode c_R_at 24 = .ok (.ireturn, 1) := by decide +kernel
theorem d_R_format_0 : decode c_R_format 0 = .ok (.aload_n 0, 1) := by decide +kernel
theorem d_R_format_1 : decode c_R_format 1 = .ok (.iload_n 1, 1) := by decide +kernel
theorem d_R_format_2 : decode c_R_format 2 = .ok (.iload_n 2, 1) := by decide +kernel
theorem d_R_format_3 : decode c_R_format 3 = .ok (.invokevirtual 95, 3) := by decide +kernel
theorem d_R_format_6 : decode c_R_format 6 = .ok (.ifCond .eq 17, 3) := by decide +kernel
theorem d_R_format_9 : decode c_R_format 9 = .ok (.aload_n 0, 1) := by decide +kernel
theorem d_R_format_10 : decode c_R_format 10 = .ok (.iload_n 1, 1) := by decide +kernel
theorem d_R_format_11 : decode c_R_format 11 = .ok (.aload_n 0, 1) := by decide +kernel
theorem d_R_format_12 : decode c_R_format 12 = .ok (.getfield 45, 3) := by decide +kernel
theorem d_R_format_15 : decode c_R_format 15 = .ok (.iload_n 2, 1) := by decide +kernel
theorem d_R_format_16 : decode c_R_format 16 = .ok (.iaload, 1) := by decide +kernel
theorem d_R_format_17 : decode c_R_format 17 = .ok (.invokevirtual 98, 3) := by decide +kernel
theorem d_R_format_20 : decode c_R_format 20 = .ok (.goto 4, 3) := by decide +kernel
theorem d_R_format_23 : decode c_R_format 23 = .ok (.iconst 0, 1) := by decide +kernel
theorem d_R_format_24 : decode c_R_format 24 = .ok (.ireturn, 1) := by decide +kernel
theorem d_R_id_0 : decode c_R_id 0 = .ok (.aload_n 0, 1) := by decide +kernel
theorem d_R_id_1 : decode c_R_id 1 = .ok (.iload_n 1, 1) := by decide +kernel
theorem d_R_id_2 : decode c_R_id 2 = .ok (.iload_n 2, 1) := by decide +kernel
theorem d_R_id_3 : decode c_R_id 3 = .ok (.invokevirtual 95, 3) := by decide +kernel
theorem d_R_id_6 : decode c_R_id 6 = .ok (.ifCond .eq 17, 3) := by decide +kernel
theorem d_R_id_9 : decode c_R_id 9 = .ok (.aload_n 0, 1) := by decide +kernel
theorem d_R_id_10 : decode c_R_id 10 = .ok (.getfield 13, 3) := by decide +kernel
theorem d_R_id_13 : decode c_R_id 13 = .ok (.aload_n 0, 1) := by decide +kernel
theorem d_R_id_14 : decode c_R_id 14 = .ok (.getfield 45, 3) := by decide +kernel
theorem d_R_id_17 : decode c_R_id 17 = .ok (.iload_n 2, 1) := by decide +kernel
theorem d_R_id_18 : decode c_R_id 18 = .ok (.iaload, 1) := by decide +kernel
theorem d_R_id_19 : decode c_R_id 19 = .ok (.iaload, 1) := by decide +kernel
theorem d_R_id_20 : decode c_R_id 20 = .ok (.goto 4, 3) := by decide +kernel
theorem d_R_id_23 : decode c_R_id 23 = .ok (.iconst 0, 1) := by decide +kernel
theorem d_R_id_24 : decode c_R_id 24 = .ok (.ireturn, 1) := by decide +kernel
theorem d_R_begins_0 : decode c_R_begins 0 = .ok (.iload_n 2, 1) := by decide +kernel
theorem d_R_begins_1 : decode c_R_begins 1 = .ok (.ifCond .ne 5, 3) := by decide +kernel
theorem d_R_begins_4 : decode c_R_begins 4 = .ok (.iconst 1, 1) := by decide +kernel
theorem d_R_begins_5 : decode c_R_begins 5 = .ok (.ireturn, 1) := by decide +kernel
theorem d_R_begins_6 : decode c_R_begins 6 = .ok (.aload_n 0, 1) := by decide +kernel
theorem d_R_begins_7 : decode c_R_begins 7 = .ok (.iload_n 1, 1) := by decide +kernel
theorem d_R_begins_8 : decode c_R_begins 8 = .ok (.aload_n 0, 1) := by decide +kernel
theorem d_R_begins_9 : decode c_R_begins 9 = .ok (.getfield 45, 3) := by decide +kernel
theorem d_R_begins_12 : decode c_R_begins 12 = .ok (.iload_n 2, 1) := by decide +kernel
theorem d_R_begins_13 : decode c_R_begins 13 = .ok (.iconst 1, 1) := by decide +kernel
theorem d_R_begins_14 : decode c_R_begins 14 = .ok (.isub, 1) := by decide +kernel
theorem d_R_begins_15 : decode c_R_begins 15 = .ok (.iaload, 1) := by decide +kernel
theorem d_R_begins_16 : decode c_R_begins 16 = .ok (.invokevirtual 98, 3) := by decide +kernel
theorem d_R_begins_19 : decode c_R_begins 19 = .ok (.istore_n 3, 1) := by decide +kernel
theorem d_R_begins_20 : decode c_R_begins 20 = .ok (.aload_n 0, 1) := by decide +kernel
theorem d_R_begins_21 : decode c_R_begins 21 = .ok (.iload_n 1, 1) := by decide +kernel
theorem d_R_begins_22 : decode c_R_begins 22 = .ok (.aload_n 0, 1) := by decide +kernel
theorem d_R_begins_23 : decode c_R_begins 23 = .ok (.getfield 45, 3) := by decide +kernel
theorem d_R_begins_26 : decode c_R_begins 26 = .ok (.iload_n 2, 1) := by decide +kernel
theorem d_R_begins_27 : decode c_R_begins 27 = .ok (.iaload, 1) := by decide +kernel
theorem d_R_begins_28 : decode c_R_begins 28 = .ok (.invokevirtual 98, 3) := by decide +kernel
theorem d_R_begins_31 : decode c_R_begins 31 = .ok (.iload_n 3, 1) := by decide +kernel
theorem d_R_begins_32 : decode c_R_begins 32 = .ok (.if_icmp .eq 7, 3) := by decide +kernel
theorem d_R_begins_35 : decode c_R_begins 35 = .ok (.iconst 1, 1) := by decide +kernel
theorem d_R_begins_36 : decode c_R_begins 36 = .ok (.goto 4, 3) := by decide +kernel
theorem d_R_begins_39 : decode c_R_begins 39 = .ok (.iconst 0, 1) := by decide +kernel
theorem d_R_begins_40 : decode c_R_begins 40 = .ok (.ireturn, 1) := by decide +kernel
theorem d_R_runs_0 : decode c_R_runs 0 = .ok (.aload_n 0, 1) := by decide +kernel
theorem d_R_runs_1 : decode c_R_runs 1 = .ok (.iload_n 1, 1) := by decide +kernel
theorem d_R_runs_2 : decode c_R_runs 2 = .ok (.invokestatic 83, 3) := by decide +kernel
theorem d_R_runs_5 : decode c_R_runs 5 = .ok (.ifCond .eq 7, 3) := by decide +kernel
theorem d_R_runs_8 : decode c_R_runs 8 = .ok (.iconst 0, 1) := by decide +kernel
theorem d_R_runs_9 : decode c_R_runs 9 = .ok (.goto 4, 3) := by decide +kernel
theorem d_R_runs_12 : decode c_R_runs 12 = .ok (.iconst 1, 1) := by decide +kernel
theorem d_R_runs_13 : decode c_R_runs 13 = .ok (.putfield 51, 3) := by decide +kernel
theorem d_R_runs_16 : decode c_R_runs 16 = .ok (.aload_n 0, 1) := by decide +kernel
theorem d_R_runs_17 : decode c_R_runs 17 = .ok (.getfield 51, 3) := by decide +kernel
theorem d_R_runs_20 : decode c_R_runs 20 = .ok (.ifCond .le 5, 3) := by decide +kernel
theorem d_R_runs_23 : decode c_R_runs 23 = .ok (.iconst 0, 1) := by decide +kernel
theorem d_R_runs_24 : decode c_R_runs 24 = .ok (.ireturn, 1) := by decide +kernel
theorem d_R_runs_25 : decode c_R_runs 25 = .ok (.aload_n 0, 1) := by decide +kernel
theorem d_R_runs_26 : decode c_R_runs 26 = .ok (.iload_n 1, 1) := by decide +kernel
theorem d_R_runs_27 : decode c_R_runs 27 = .ok (.invokevirtual 87, 3) := by decide +kernel
theorem d_R_runs_30 : decode c_R_runs 30 = .ok (.iconst 0, 1) := by decide +kernel
theorem d_R_runs_31 : decode c_R_runs 31 = .ok (.istore_n 2, 1) := by decide +kernel
theorem d_R_runs_32 : decode c_R_runs 32 = .ok (.iconst 0, 1) := by decide +kernel
theorem d_R_runs_33 : decode c_R_runs 33 = .ok (.istore_n 3, 1) := by decide +kernel
theorem d_R_runs_34 : decode c_R_runs 34 = .ok (.iload_n 3, 1) := by decide +kernel
theorem d_R_runs_35 : decode c_R_runs 35 = .ok (.aload_n 0, 1) := by decide +kernel
theorem d_R_runs_36 : decode c_R_runs 36 = .ok (.getfield 61, 3) := by decide +kernel
theorem d_R_runs_39 : decode c_R_runs 39 = .ok (.if_icmp .ge 26, 3) := by decide +kernel
theorem d_R_runs_42 : decode c_R_runs 42 = .ok (.iload_n 2, 1) := by decide +kernel
theorem d_R_runs_43 : decode c_R_runs 43 = .ok (.aload_n 0, 1) := by decide +kernel
theorem d_R_runs_44 : decode c_R_runs 44 = .ok (.iload_n 1, 1) := by decide +kernel
theorem d_R_runs_45 : decode c_R_runs 45 = .ok (.iload_n 3, 1) := by decide +kernel
theorem d_R_runs_46 : decode c_R_runs 46 = .ok (.invokevirtual 101, 3) := by decide +kernel
theorem d_R_runs_49 : decode c_R_runs 49 = .ok (.ifCond .eq 7, 3) := by decide +kernel
theorem d_R_runs_52 : decode c_R_runs 52 = .ok (.iconst 1, 1) := by decide +kernel
theorem d_R_runs_53 : decode c_R_runs 53 = .ok (.goto 4, 3) := by decide +kernel
theorem d_R_runs_56 : decode c_R_runs 56 = .ok (.iconst 0, 1) := by decide +kernel
theorem d_R_runs_57 : decode c_R_runs 57 = .ok (.iadd, 1) := by decide +kernel
theorem d_R_runs_58 : decode c_R_runs 58 = .ok (.istore_n 2, 1) := by decide +kernel
theorem d_R_runs_59 : decode c_R_runs 59 = .ok (.iinc 3 1, 3) := by decide +kernel
theorem d_R_runs_62 : decode c_R_runs 62 = .ok (.goto (-28), 3) := by decide +kernel
theorem d_R_runs_65 : decode c_R_runs 65 = .ok (.iload_n 2, 1) := by decide +kernel
theorem d_R_runs_66 : decode c_R_runs 66 = .ok (.ireturn, 1) := by decide +kernel
theorem d_R_run_0 : decode c_R_run 0 = .ok (.aload_n 0, 1) := by decide +kernel
theorem d_R_run_1 : decode c_R_run 1 = .ok (.iload_n 1, 1) := by decide +kernel
theorem d_R_run_2 : decode c_R_run 2 = .ok (.invokestatic 83, 3) := by decide +kernel
theorem d_R_run_5 : decode c_R_run 5 = .ok (.ifCond .eq 16, 3) := by decide +kernel
theorem d_R_run_8 : decode c_R_run 8 = .ok (.iload_n 3, 1) := by decide +kernel
theorem d_R_run_9 : decode c_R_run 9 = .ok (.ifCond .lt 12, 3) := by decide +kernel
theorem d_R_run_12 : decode c_R_run 12 = .ok (.iload_n 3, 1) := by decide +kernel
theorem d_R_run_13 : decode c_R_run 13 = .ok (.iconst 2, 1) := by decide +kernel
theorem d_R_run_14 : decode c_R_run 14 = .ok (.if_icmp .gt 7, 3) := by decide +kernel
theorem d_R_run_17 : decode c_R_run 17 = .ok (.iconst 0, 1) := by decide +kernel
theorem d_R_run_18 : decode c_R_run 18 = .ok (.goto 4, 3) := by decide +kernel
theorem d_R_run_21 : decode c_R_run 21 = .ok (.iconst 1, 1) := by decide +kernel
theorem d_R_run_22 : decode c_R_run 22 = .ok (.putfield 51, 3) := by decide +kernel
theorem d_R_run_25 : decode c_R_run 25 = .ok (.aload_n 0, 1) := by decide +kernel
theorem d_R_run_26 : decode c_R_run 26 = .ok (.getfield 51, 3) := by decide +kernel
theorem d_R_run_29 : decode c_R_run 29 = .ok (.ifCond .le 5, 3) := by decide +kernel
theorem d_R_run_32 : decode c_R_run 32 = .ok (.iconst 0, 1) := by decide +kernel
theorem d_R_run_33 : decode c_R_run 33 = .ok (.ireturn, 1) := by decide +kernel
theorem d_R_run_34 : decode c_R_run 34 = .ok (.aload_n 0, 1) := by decide +kernel
theorem d_R_run_35 : decode c_R_run 35 = .ok (.iload_n 1, 1) := by decide +kernel
theorem d_R_run_36 : decode c_R_run 36 = .ok (.invokevirtual 87, 3) := by decide +kernel
theorem d_R_run_39 : decode c_R_run 39 = .ok (.iconst (-1), 1) := by decide +kernel
theorem d_R_run_40 : decode c_R_run 40 = .ok (.istore 4, 2) := by decide +kernel
theorem d_R_run_42 : decode c_R_run 42 = .ok (.iconst 0, 1) := by decide +kernel
theorem d_R_run_43 : decode c_R_run 43 = .ok (.istore 5, 2) := by decide +kernel
theorem d_R_run_45 : decode c_R_run 45 = .ok (.iconst (-1), 1) := by decide +kernel
theorem d_R_run_46 : decode c_R_run 46 = .ok (.istore 6, 2) := by decide +kernel
theorem d_R_run_48 : decode c_R_run 48 = .ok (.iconst 0, 1) := by decide +kernel
theorem d_R_run_49 : decode c_R_run 49 = .ok (.istore 7, 2) := by decide +kernel
theorem d_R_run_51 : decode c_R_run 51 = .ok (.iload 7, 2) := by decide +kernel
theorem d_R_run_53 : decode c_R_run 53 = .ok (.aload_n 0, 1) := by decide +kernel
theorem d_R_run_54 : decode c_R_run 54 = .ok (.getfield 61, 3) := by decide +kernel
theorem d_R_run_57 : decode c_R_run 57 = .ok (.if_icmp .ge 65, 3) := by decide +kernel
theorem d_R_run_60 : decode c_R_run 60 = .ok (.iload 6, 2) := by decide +kernel
theorem d_R_run_62 : decode c_R_run 62 = .ok (.aload_n 0, 1) := by decide +kernel
theorem d_R_run_63 : decode c_R_run 63 = .ok (.iload_n 1, 1) := by decide +kernel
theorem d_R_run_64 : decode c_R_run 64 = .ok (.iload 7, 2) := by decide +kernel
theorem d_R_run_66 : decode c_R_run 66 = .ok (.invokevirtual 101, 3) := by decide +kernel
theorem d_R_run_69 : decode c_R_run 69 = .ok (.ifCond .eq 7, 3) := by decide +kernel
theorem d_R_run_72 : decode c_R_run 72 = .ok (.iconst 1, 1) := by decide +kernel
theorem d_R_run_73 : decode c_R_run 73 = .ok (.goto 4, 3) := by decide +kernel
theorem d_R_run_76 : decode c_R_run 76 = .ok (.iconst 0, 1) := by decide +kernel
theorem d_R_run_77 : decode c_R_run 77 = .ok (.iadd, 1) := by decide +kernel
theorem d_R_run_78 : decode c_R_run 78 = .ok (.istore 6, 2) := by decide +kernel
theorem d_R_run_80 : decode c_R_run 80 = .ok (.iload 6, 2) := by decide +kernel
theorem d_R_run_82 : decode c_R_run 82 = .ok (.iload_n 2, 1) := by decide +kernel
theorem d_R_run_83 : decode c_R_run 83 = .ok (.if_icmp .ne 13, 3) := by decide +kernel
theorem d_R_run_86 : decode c_R_run 86 = .ok (.iload 4, 2) := by decide +kernel
theorem d_R_run_88 : decode c_R_run 88 = .ok (.ifCond .ge 8, 3) := by decide +kernel
theorem d_R_run_91 : decode c_R_run 91 = .ok (.iload 7, 2) := by decide +kernel
theorem d_R_run_93 : decode c_R_run 93 = .ok (.goto 5, 3) := by decide +kernel
theorem d_R_run_96 : decode c_R_run 96 = .ok (.iload 4, 2) := by decide +kernel
theorem d_R_run_98 : decode c_R_run 98 = .ok (.istore 4, 2) := by decide +kernel
theorem d_R_run_100 : decode c_R_run 100 = .ok (.iload 5, 2) := by decide +kernel
theorem d_R_run_102 : decode c_R_run 102 = .ok (.iload 6, 2) := by decide +kernel
theorem d_R_run_104 : decode c_R_run 104 = .ok (.iload_n 2, 1) := by decide +kernel
theorem d_R_run_105 : decode c_R_run 105 = .ok (.if_icmp .ne 7, 3) := by decide +kernel
theorem d_R_run_108 : decode c_R_run 108 = .ok (.iconst 1, 1) := by decide +kernel
theorem d_R_run_109 : decode c_R_run 109 = .ok (.goto 4, 3) := by decide +kernel
theorem d_R_run_112 : decode c_R_run 112 = .ok (.iconst 0, 1) := by decide +kernel
theorem d_R_run_113 : decode c_R_run 113 = .ok (.iadd, 1) := by decide +kernel
theorem d_R_run_114 : decode c_R_run 114 = .ok (.istore 5, 2) := by decide +kernel
theorem d_R_run_116 : decode c_R_run 116 = .ok (.iinc 7 1, 3) := by decide +kernel
theorem d_R_run_119 : decode c_R_run 119 = .ok (.goto (-68), 3) := by decide +kernel
theorem d_R_run_122 : decode c_R_run 122 = .ok (.aload_n 0, 1) := by decide +kernel
theorem d_R_run_123 : decode c_R_run 123 = .ok (.iload 4, 2) := by decide +kernel
theorem d_R_run_125 : decode c_R_run 125 = .ok (.ifCond .ge 7, 3) := by decide +kernel
theorem d_R_run_128 : decode c_R_run 128 = .ok (.iconst 2, 1) := by decide +kernel
theorem d_R_run_129 : decode c_R_run 129 = .ok (.goto 4, 3) := by decide +kernel
theorem d_R_run_132 : decode c_R_run 132 = .ok (.iconst 0, 1) := by decide +kernel
theorem d_R_run_133 : decode c_R_run 133 = .ok (.putfield 51, 3) := by decide +kernel
theorem d_R_run_136 : decode c_R_run 136 = .ok (.aload_n 0, 1) := by decide +kernel
theorem d_R_run_137 : decode c_R_run 137 = .ok (.getfield 51, 3) := by decide +kernel
theorem d_R_run_140 : decode c_R_run 140 = .ok (.ifCond .le 5, 3) := by decide +kernel
theorem d_R_run_143 : decode c_R_run 143 = .ok (.iconst 0, 1) := by decide +kernel
theorem d_R_run_144 : decode c_R_run 144 = .ok (.ireturn, 1) := by decide +kernel
theorem d_R_run_145 : decode c_R_run 145 = .ok (.iload_n 3, 1) := by decide +kernel
theorem d_R_run_146 : decode c_R_run 146 = .ok (.ifCond .ne 8, 3) := by decide +kernel
theorem d_R_run_149 : decode c_R_run 149 = .ok (.iload 4, 2) := by decide +kernel
theorem d_R_run_151 : decode c_R_run 151 = .ok (.goto 25, 3) := by decide +kernel
theorem d_R_run_154 : decode c_R_run 154 = .ok (.iload_n 3, 1) := by decide +kernel
theorem d_R_run_155 : decode c_R_run 155 = .ok (.iconst 1, 1) := by decide +kernel
theorem d_R_run_156 : decode c_R_run 156 = .ok (.if_icmp .ne 8, 3) := by decide +kernel
theorem d_R_run_159 : decode c_R_run 159 = .ok (.iload 5, 2) := by decide +kernel
theorem d_R_run_161 : decode c_R_run 161 = .ok (.goto 15, 3) := by decide +kernel
theorem d_R_run_164 : decode c_R_run 164 = .ok (.aload_n 0, 1) := by decide +kernel
theorem d_R_run_165 : decode c_R_run 165 = .ok (.iload_n 1, 1) := by decide +kernel
theorem d_R_run_166 : decode c_R_run 166 = .ok (.aload_n 0, 1) := by decide +kernel
theorem d_R_run_167 : decode c_R_run 167 = .ok (.getfield 45, 3) := by decide +kernel
theorem d_R_run_170 : decode c_R_run 170 = .ok (.iload 4, 2) := by decide +kernel
theorem d_R_run_172 : decode c_R_run 172 = .ok (.iaload, 1) := by decide +kernel
theorem d_R_run_173 : decode c_R_run 173 = .ok (.invokevirtual 98, 3) := by decide +kernel
theorem d_R_run_176 : decode c_R_run 176 = .ok (.ireturn, 1) := by decide +kernel
theorem d_R_count_0 : decode c_R_count 0 = .ok (.aload_n 0, 1) := by decide +kernel
theorem d_R_count_1 : decode c_R_count 1 = .ok (.iload_n 1, 1) := by decide +kernel
theorem d_R_count_2 : decode c_R_count 2 = .ok (.invokestatic 83, 3) := by decide +kernel
theorem d_R_count_5 : decode c_R_count 5 = .ok (.ifCond .eq 16, 3) := by decide +kernel
theorem d_R_count_8 : decode c_R_count 8 = .ok (.iload_n 2, 1) := by decide +kernel
theorem d_R_count_9 : decode c_R_count 9 = .ok (.ifCond .lt 12, 3) := by decide +kernel
theorem d_R_count_12 : decode c_R_count 12 = .ok (.iload_n 2, 1) := by decide +kernel
theorem d_R_count_13 : decode c_R_count 13 = .ok (.iconst 3, 1) := by decide +kernel
theorem d_R_count_14 : decode c_R_count 14 = .ok (.if_icmp .gt 7, 3) := by decide +kernel
theorem d_R_count_17 : decode c_R_count 17 = .ok (.iconst 0, 1) := by decide +kernel
theorem d_R_count_18 : decode c_R_count 18 = .ok (.goto 4, 3) := by decide +kernel
theorem d_R_count_21 : decode c_R_count 21 = .ok (.iconst 1, 1) := by decide +kernel
theorem d_R_count_22 : decode c_R_count 22 = .ok (.putfield 51, 3) := by decide +kernel
theorem d_R_count_25 : decode c_R_count 25 = .ok (.aload_n 0, 1) := by decide +kernel
theorem d_R_count_26 : decode c_R_count 26 = .ok (.getfield 51, 3) := by decide +kernel
theorem d_R_count_29 : decode c_R_count 29 = .ok (.ifCond .le 5, 3) := by decide +kernel
theorem d_R_count_32 : decode c_R_count 32 = .ok (.iconst 0, 1) := by decide +kernel
theorem d_R_count_33 : decode c_R_count 33 = .ok (.ireturn, 1) := by decide +kernel
theorem d_R_count_34 : decode c_R_count 34 = .ok (.iload_n 2, 1) := by decide +kernel
theorem d_R_count_35 : decode c_R_count 35 = .ok (.iconst 2, 1) := by decide +kernel
theorem d_R_count_36 : decode c_R_count 36 = .ok (.if_icmp .ge 22, 3) := by decide +kernel
theorem d_R_count_39 : decode c_R_count 39 = .ok (.iload_n 2, 1) := by decide +kernel
theorem d_R_count_40 : decode c_R_count 40 = .ok (.ifCond .ne 12, 3) := by decide +kernel
theorem d_R_count_43 : decode c_R_count 43 = .ok (.aload_n 0, 1) := by decide +kernel
theorem d_R_count_44 : decode c_R_count 44 = .ok (.getfield 36, 3) := by decide +kernel
theorem d_R_count_47 : decode c_R_count 47 = .ok (.iload_n 1, 1) := by decide +kernel
theorem d_R_count_48 : decode c_R_count 48 = .ok (.iaload, 1) := by decide +kernel
theorem d_R_count_49 : decode c_R_count 49 = .ok (.goto 8, 3) := by decide +kernel
theorem d_R_count_52 : decode c_R_count 52 = .ok (.aload_n 0, 1) := by decide +kernel
theorem d_R_count_53 : decode c_R_count 53 = .ok (.iload_n 1, 1) := by decide +kernel
theorem d_R_count_54 : decode c_R_count 54 = .ok (.invokevirtual 75, 3) := by decide +kernel
theorem d_R_count_57 : decode c_R_count 57 = .ok (.ireturn, 1) := by decide +kernel
theorem d_R_count_58 : decode c_R_count 58 = .ok (.iconst 0, 1) := by decide +kernel
theorem d_R_count_59 : decode c_R_count 59 = .ok (.istore_n 3, 1) := by decide +kernel
theorem d_R_count_60 : decode c_R_count 60 = .ok (.iconst 0, 1) := by decide +kernel
theorem d_R_count_61 : decode c_R_count 61 = .ok (.istore 4, 2) := by decide +kernel
theorem d_R_count_63 : decode c_R_count 63 = .ok (.iload 4, 2) := by decide +kernel
theorem d_R_count_65 : decode c_R_count 65 = .ok (.aload_n 0, 1) := by decide +kernel
theorem d_R_count_66 : decode c_R_count 66 = .ok (.getfield 55, 3) := by decide +kernel
theorem d_R_count_69 : decode c_R_count 69 = .ok (.if_icmp .ge 52, 3) := by decide +kernel
theorem d_R_count_72 : decode c_R_count 72 = .ok (.iload_n 3, 1) := by decide +kernel
theorem d_R_count_73 : decode c_R_count 73 = .ok (.aload_n 0, 1) := by decide +kernel
theorem d_R_count_74 : decode c_R_count 74 = .ok (.getfield 32, 3) := by decide +kernel
theorem d_R_count_77 : decode c_R_count 77 = .ok (.bipush 90, 2) := by decide +kernel
theorem d_R_count_79 : decode c_R_count 79 = .ok (.iload_n 1, 1) := by decide +kernel
theorem d_R_count_80 : decode c_R_count 80 = .ok (.imul, 1) := by decide +kernel
theorem d_R_count_81 : decode c_R_count 81 = .ok (.iload 4, 2) := by decide +kernel
theorem d_R_count_83 : decode c_R_count 83 = .ok (.iadd, 1) := by decide +kernel
theorem d_R_count_84 : decode c_R_count 84 = .ok (.baload, 1) := by decide +kernel
theorem d_R_count_85 : decode c_R_count 85 = .ok (.ifCond .eq 27, 3) := by decide +kernel
theorem d_R_count_88 : decode c_R_count 88 = .ok (.aload_n 0, 1) := by decide +kernel
theorem d_R_count_89 : decode c_R_count 89 = .ok (.getfield 7, 3) := by decide +kernel
theorem d_R_count_92 : decode c_R_count 92 = .ok (.iload 4, 2) := by decide +kernel
theorem d_R_count_94 : decode c_R_count 94 = .ok (.iaload, 1) := by decide +kernel
theorem d_R_count_95 : decode c_R_count 95 = .ok (.iload_n 2, 1) := by decide +kernel
theorem d_R_count_96 : decode c_R_count 96 = .ok (.iconst 2, 1) := by decide +kernel
theorem d_R_count_97 : decode c_R_count 97 = .ok (.if_icmp .ne 7, 3) := by decide +kernel
theorem d_R_count_100 : decode c_R_count 100 = .ok (.iconst 0, 1) := by decide +kernel
theorem d_R_count_101 : decode c_R_count 101 = .ok (.goto 4, 3) := by decide +kernel
theorem d_R_count_104 : decode c_R_count 104 = .ok (.iconst 2, 1) := by decide +kernel
theorem d_R_count_105 : decode c_R_count 105 = .ok (.if_icmp .ne 7, 3) := by decide +kernel
theorem d_R_count_108 : decode c_R_count 108 = .ok (.iconst 1, 1) := by decide +kernel
theorem d_R_count_109 : decode c_R_count 109 = .ok (.goto 4, 3) := by decide +kernel
theorem d_R_count_112 : decode c_R_count 112 = .ok (.iconst 0, 1) := by decide +kernel
theorem d_R_count_113 : decode c_R_count 113 = .ok (.iadd, 1) := by decide +kernel
theorem d_R_count_114 : decode c_R_count 114 = .ok (.istore_n 3, 1) := by decide +kernel
theorem d_R_count_115 : decode c_R_count 115 = .ok (.iinc 4 1, 3) := by decide +kernel
theorem d_R_count_118 : decode c_R_count 118 = .ok (.goto (-55), 3) := by decide +kernel
theorem d_R_count_121 : decode c_R_count 121 = .ok (.iload_n 3, 1) := by decide +kernel
theorem d_R_count_122 : decode c_R_count 122 = .ok (.ireturn, 1) := by decide +kernel
theorem d_R_alike_0 : decode c_R_alike 0 = .ok (.aload_n 0, 1) := by decide +kernel
theorem d_R_alike_1 : decode c_R_alike 1 = .ok (.iload_n 1, 1) := by decide +kernel
theorem d_R_alike_2 : decode c_R_alike 2 = .ok (.invokestatic 83, 3) := by decide +kernel
theorem d_R_alike_5 : decode c_R_alike 5 = .ok (.ifCond .eq 14, 3) := by decide +kernel
theorem d_R_alike_8 : decode c_R_alike 8 = .ok (.iload_n 2, 1) := by decide +kernel
theorem d_R_alike_9 : decode c_R_alike 9 = .ok (.invokestatic 83, 3) := by decide +kernel
theorem d_R_alike_12 : decode c_R_alike 12 = .ok (.ifCond .eq 7, 3) := by decide +kernel
theorem d_R_alike_15 : decode c_R_alike 15 = .ok (.iconst 0, 1) := by decide +kernel
theorem d_R_alike_16 : decode c_R_alike 16 = .ok (.goto 4, 3) := by decide +kernel
theorem d_R_alike_19 : decode c_R_alike 19 = .ok (.iconst 1, 1) := by decide +kernel
theorem d_R_alike_20 : decode c_R_alike 20 = .ok (.putfield 51, 3) := by decide +kernel
theorem d_R_alike_23 : decode c_R_alike 23 = .ok (.aload_n 0, 1) := by decide +kernel
theorem d_R_alike_24 : decode c_R_alike 24 = .ok (.getfield 51, 3) := by decide +kernel
theorem d_R_alike_27 : decode c_R_alike 27 = .ok (.ifCond .ne 7, 3) := by decide +kernel
theorem d_R_alike_30 : decode c_R_alike 30 = .ok (.iconst 1, 1) := by decide +kernel
theorem d_R_alike_31 : decode c_R_alike 31 = .ok (.goto 4, 3) := by decide +kernel
theorem d_R_alike_34 : decode c_R_alike 34 = .ok (.iconst 0, 1) := by decide +kernel
theorem d_R_alike_35 : decode c_R_alike 35 = .ok (.istore_n 3, 1) := by decide +kernel
theorem d_R_alike_36 : decode c_R_alike 36 = .ok (.iconst 0, 1) := by decide +kernel
theorem d_R_alike_37 : decode c_R_alike 37 = .ok (.istore 4, 2) := by decide +kernel
theorem d_R_alike_39 : decode c_R_alike 39 = .ok (.iload 4, 2) := by decide +kernel
theorem d_R_alike_41 : decode c_R_alike 41 = .ok (.aload_n 0, 1) := by decide +kernel
theorem d_R_alike_42 : decode c_R_alike 42 = .ok (.getfield 55, 3) := by decide +kernel
theorem d_R_alike_45 : decode c_R_alike 45 = .ok (.if_icmp .ge 46, 3) := by decide +kernel
theorem d_R_alike_48 : decode c_R_alike 48 = .ok (.iload_n 3, 1) := by decide +kernel
theorem d_R_alike_49 : decode c_R_alike 49 = .ok (.ifCond .eq 42, 3) := by decide +kernel
theorem d_R_alike_52 : decode c_R_alike 52 = .ok (.aload_n 0, 1) := by decide +kernel
theorem d_R_alike_53 : decode c_R_alike 53 = .ok (.getfield 32, 3) := by decide +kernel
theorem d_R_alike_56 : decode c_R_alike 56 = .ok (.bipush 90, 2) := by decide +kernel
theorem d_R_alike_58 : decode c_R_alike 58 = .ok (.iload_n 1, 1) := by decide +kernel
theorem d_R_alike_59 : decode c_R_alike 59 = .ok (.imul, 1) := by decide +kernel
theorem d_R_alike_60 : decode c_R_alike 60 = .ok (.iload 4, 2) := by decide +kernel
theorem d_R_alike_62 : decode c_R_alike 62 = .ok (.iadd, 1) := by decide +kernel
theorem d_R_alike_63 : decode c_R_alike 63 = .ok (.baload, 1) := by decide +kernel
theorem d_R_alike_64 : decode c_R_alike 64 = .ok (.aload_n 0, 1) := by decide +kernel
theorem d_R_alike_65 : decode c_R_alike 65 = .ok (.getfield 32, 3) := by decide +kernel
theorem d_R_alike_68 : decode c_R_alike 68 = .ok (.bipush 90, 2) := by decide +kernel
theorem d_R_alike_70 : decode c_R_alike 70 = .ok (.iload_n 2, 1) := by decide +kernel
theorem d_R_alike_71 : decode c_R_alike 71 = .ok (.imul, 1) := by decide +kernel
theorem d_R_alike_72 : decode c_R_alike 72 = .ok (.iload 4, 2) := by decide +kernel
theorem d_R_alike_74 : decode c_R_alike 74 = .ok (.iadd, 1) := by decide +kernel
theorem d_R_alike_75 : decode c_R_alike 75 = .ok (.baload, 1) := by decide +kernel
theorem d_R_alike_76 : decode c_R_alike 76 = .ok (.if_icmp .ne 7, 3) := by decide +kernel
theorem d_R_alike_79 : decode c_R_alike 79 = .ok (.iconst 1, 1) := by decide +kernel
theorem d_R_alike_80 : decode c_R_alike 80 = .ok (.goto 4, 3) := by decide +kernel
theorem d_R_alike_83 : decode c_R_alike 83 = .ok (.iconst 0, 1) := by decide +kernel
theorem d_R_alike_84 : decode c_R_alike 84 = .ok (.istore_n 3, 1) := by decide +kernel
theorem d_R_alike_85 : decode c_R_alike 85 = .ok (.iinc 4 1, 3) := by decide +kernel
theorem d_R_alike_88 : decode c_R_alike 88 = .ok (.goto (-49), 3) := by decide +kernel
theorem d_R_alike_91 : decode c_R_alike 91 = .ok (.iload_n 3, 1) := by decide +kernel
theorem d_R_alike_92 : decode c_R_alike 92 = .ok (.ireturn, 1) := by decide +kernel
