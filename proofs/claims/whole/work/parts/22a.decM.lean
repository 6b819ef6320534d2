/-! Decode rows by program. -/
theorem d_M_init_0 : decode c_M_init 0 = .ok (.aload_n 0, 1) := by decide +kernel
theorem d_M_init_1 : decode c_M_init 1 = .ok (.invokespecial 1, 3) := by decide +kernel
theorem d_M_init_4 : decode c_M_init 4 = .ok (.aload_n 0, 1) := by decide +kernel
theorem d_M_init_5 : decode c_M_init 5 = .ok (.iconst 3, 1) := by decide +kernel
theorem d_M_init_6 : decode c_M_init 6 = .ok (.anewarray 9, 3) := by decide +kernel
theorem d_M_init_9 : decode c_M_init 9 = .ok (.putfield 11, 3) := by decide +kernel
theorem d_M_init_12 : decode c_M_init 12 = .ok (.iconst 0, 1) := by decide +kernel
theorem d_M_init_13 : decode c_M_init 13 = .ok (.istore_n 1, 1) := by decide +kernel
theorem d_M_init_14 : decode c_M_init 14 = .ok (.iload_n 1, 1) := by decide +kernel
theorem d_M_init_15 : decode c_M_init 15 = .ok (.iconst 3, 1) := by decide +kernel
theorem d_M_init_16 : decode c_M_init 16 = .ok (.if_icmp .ge 22, 3) := by decide +kernel
theorem d_M_init_19 : decode c_M_init 19 = .ok (.aload_n 0, 1) := by decide +kernel
theorem d_M_init_20 : decode c_M_init 20 = .ok (.getfield 11, 3) := by decide +kernel
theorem d_M_init_23 : decode c_M_init 23 = .ok (.iload_n 1, 1) := by decide +kernel
theorem d_M_init_24 : decode c_M_init 24 = .ok (.new 9, 3) := by decide +kernel
theorem d_M_init_27 : decode c_M_init 27 = .ok (.dup, 1) := by decide +kernel
theorem d_M_init_28 : decode c_M_init 28 = .ok (.invokespecial 15, 3) := by decide +kernel
theorem d_M_init_31 : decode c_M_init 31 = .ok (.aastore, 1) := by decide +kernel
theorem d_M_init_32 : decode c_M_init 32 = .ok (.iinc 1 1, 3) := by decide +kernel
theorem d_M_init_35 : decode c_M_init 35 = .ok (.goto (-21), 3) := by decide +kernel
theorem d_M_init_38 : decode c_M_init 38 = .ok (.aload_n 0, 1) := by decide +kernel
theorem d_M_init_39 : decode c_M_init 39 = .ok (.iconst 0, 1) := by decide +kernel
theorem d_M_init_40 : decode c_M_init 40 = .ok (.putfield 16, 3) := by decide +kernel
theorem d_M_init_43 : decode c_M_init 43 = .ok (.return_, 1) := by decide +kernel
theorem d_M_write_0 : decode c_M_write 0 = .ok (.aload_n 0, 1) := by decide +kernel
theorem d_M_write_1 : decode c_M_write 1 = .ok (.iload_n 1, 1) := by decide +kernel
theorem d_M_write_2 : decode c_M_write 2 = .ok (.invokevirtual 20, 3) := by decide +kernel
theorem d_M_write_5 : decode c_M_write 5 = .ok (.astore 4, 2) := by decide +kernel
theorem d_M_write_7 : decode c_M_write 7 = .ok (.iload_n 2, 1) := by decide +kernel
theorem d_M_write_8 : decode c_M_write 8 = .ok (.ifCond .lt 16, 3) := by decide +kernel
theorem d_M_write_11 : decode c_M_write 11 = .ok (.iload_n 2, 1) := by decide +kernel
theorem d_M_write_12 : decode c_M_write 12 = .ok (.aload 4, 2) := by decide +kernel
theorem d_M_write_14 : decode c_M_write 14 = .ok (.getfield 24, 3) := by decide +kernel
theorem d_M_write_17 : decode c_M_write 17 = .ok (.if_icmp .gt 7, 3) := by decide +kernel
theorem d_M_write_20 : decode c_M_write 20 = .ok (.iconst 1, 1) := by decide +kernel
theorem d_M_write_21 : decode c_M_write 21 = .ok (.goto 4, 3) := by decide +kernel
theorem d_M_write_24 : decode c_M_write 24 = .ok (.iconst 0, 1) := by decide +kernel
theorem d_M_write_25 : decode c_M_write 25 = .ok (.invokestatic 27, 3) := by decide +kernel
theorem d_M_write_28 : decode c_M_write 28 = .ok (.aload_n 0, 1) := by decide +kernel
theorem d_M_write_29 : decode c_M_write 29 = .ok (.invokevirtual 31, 3) := by decide +kernel
theorem d_M_write_32 : decode c_M_write 32 = .ok (.iload_n 2, 1) := by decide +kernel
theorem d_M_write_33 : decode c_M_write 33 = .ok (.ifCond .ne 7, 3) := by decide +kernel
theorem d_M_write_36 : decode c_M_write 36 = .ok (.aconst_null, 1) := by decide +kernel
theorem d_M_write_37 : decode c_M_write 37 = .ok (.goto 12, 3) := by decide +kernel
theorem d_M_write_40 : decode c_M_write 40 = .ok (.aload 4, 2) := by decide +kernel
theorem d_M_write_42 : decode c_M_write 42 = .ok (.getfield 34, 3) := by decide +kernel
theorem d_M_write_45 : decode c_M_write 45 = .ok (.iload_n 2, 1) := by decide +kernel
theorem d_M_write_46 : decode c_M_write 46 = .ok (.iconst 1, 1) := by decide +kernel
theorem d_M_write_47 : decode c_M_write 47 = .ok (.isub, 1) := by decide +kernel
theorem d_M_write_48 : decode c_M_write 48 = .ok (.aaload, 1) := by decide +kernel
theorem d_M_write_49 : decode c_M_write 49 = .ok (.astore 5, 2) := by decide +kernel
theorem d_M_write_51 : decode c_M_write 51 = .ok (.aload_n 0, 1) := by decide +kernel
theorem d_M_write_52 : decode c_M_write 52 = .ok (.aload 4, 2) := by decide +kernel
theorem d_M_write_54 : decode c_M_write 54 = .ok (.new 38, 3) := by decide +kernel
theorem d_M_write_57 : decode c_M_write 57 = .ok (.dup, 1) := by decide +kernel
theorem d_M_write_58 : decode c_M_write 58 = .ok (.aload_n 0, 1) := by decide +kernel
theorem d_M_write_59 : decode c_M_write 59 = .ok (.getfield 16, 3) := by decide +kernel
theorem d_M_write_62 : decode c_M_write 62 = .ok (.aload 4, 2) := by decide +kernel
theorem d_M_write_64 : decode c_M_write 64 = .ok (.invokevirtual 40, 3) := by decide +kernel
theorem d_M_write_67 : decode c_M_write 67 = .ok (.iload_n 1, 1) := by decide +kernel
theorem d_M_write_68 : decode c_M_write 68 = .ok (.iload_n 3, 1) := by decide +kernel
theorem d_M_write_69 : decode c_M_write 69 = .ok (.aload 5, 2) := by decide +kernel
theorem d_M_write_71 : decode c_M_write 71 = .ok (.invokespecial 44, 3) := by decide +kernel
theorem d_M_write_74 : decode c_M_write 74 = .ok (.invokevirtual 47, 3) := by decide +kernel
theorem d_M_write_77 : decode c_M_write 77 = .ok (.ireturn, 1) := by decide +kernel
theorem d_M_erase_0 : decode c_M_erase 0 = .ok (.aload_n 0, 1) := by decide +kernel
theorem d_M_erase_1 : decode c_M_erase 1 = .ok (.iload_n 1, 1) := by decide +kernel
theorem d_M_erase_2 : decode c_M_erase 2 = .ok (.invokevirtual 20, 3) := by decide +kernel
theorem d_M_erase_5 : decode c_M_erase 5 = .ok (.astore_n 3, 1) := by decide +kernel
theorem d_M_erase_6 : decode c_M_erase 6 = .ok (.aload_n 3, 1) := by decide +kernel
theorem d_M_erase_7 : decode c_M_erase 7 = .ok (.iload_n 2, 1) := by decide +kernel
theorem d_M_erase_8 : decode c_M_erase 8 = .ok (.invokevirtual 51, 3) := by decide +kernel
theorem d_M_erase_11 : decode c_M_erase 11 = .ok (.astore 4, 2) := by decide +kernel
theorem d_M_erase_13 : decode c_M_erase 13 = .ok (.aload_n 0, 1) := by decide +kernel
theorem d_M_erase_14 : decode c_M_erase 14 = .ok (.invokevirtual 31, 3) := by decide +kernel
theorem d_M_erase_17 : decode c_M_erase 17 = .ok (.aload_n 0, 1) := by decide +kernel
theorem d_M_erase_18 : decode c_M_erase 18 = .ok (.aload_n 3, 1) := by decide +kernel
theorem d_M_erase_19 : decode c_M_erase 19 = .ok (.new 55, 3) := by decide +kernel
theorem d_M_erase_22 : decode c_M_erase 22 = .ok (.dup, 1) := by decide +kernel
theorem d_M_erase_23 : decode c_M_erase 23 = .ok (.aload_n 0, 1) := by decide +kernel
theorem d_M_erase_24 : decode c_M_erase 24 = .ok (.getfield 16, 3) := by decide +kernel
theorem d_M_erase_27 : decode c_M_erase 27 = .ok (.aload_n 3, 1) := by decide +kernel
theorem d_M_erase_28 : decode c_M_erase 28 = .ok (.invokevirtual 40, 3) := by decide +kernel
theorem d_M_erase_31 : decode c_M_erase 31 = .ok (.iload_n 1, 1) := by decide +kernel
theorem d_M_erase_32 : decode c_M_erase 32 = .ok (.aload 4, 2) := by decide +kernel
theorem d_M_erase_34 : decode c_M_erase 34 = .ok (.invokespecial 57, 3) := by decide +kernel
theorem d_M_erase_37 : decode c_M_erase 37 = .ok (.invokevirtual 47, 3) := by decide +kernel
theorem d_M_erase_40 : decode c_M_erase 40 = .ok (.pop, 1) := by decide +kernel
theorem d_M_erase_41 : decode c_M_erase 41 = .ok (.aload 4, 2) := by decide +kernel
theorem d_M_erase_43 : decode c_M_erase 43 = .ok (.getfield 60, 3) := by decide +kernel
theorem d_M_erase_46 : decode c_M_erase 46 = .ok (.ireturn, 1) := by decide +kernel
theorem d_M_mark_0 : decode c_M_mark 0 = .ok (.aload_n 0, 1) := by decide +kernel
theorem d_M_mark_1 : decode c_M_mark 1 = .ok (.iload_n 1, 1) := by decide +kernel
theorem d_M_mark_2 : decode c_M_mark 2 = .ok (.invokevirtual 20, 3) := by decide +kernel
theorem d_M_mark_5 : decode c_M_mark 5 = .ok (.astore 5, 2) := by decide +kernel
theorem d_M_mark_7 : decode c_M_mark 7 = .ok (.iload 4, 2) := by decide +kernel
theorem d_M_mark_9 : decode c_M_mark 9 = .ok (.ifCond .lt 14, 3) := by decide +kernel
theorem d_M_mark_12 : decode c_M_mark 12 = .ok (.iload 4, 2) := by decide +kernel
theorem d_M_mark_14 : decode c_M_mark 14 = .ok (.bipush 8, 2) := by decide +kernel
theorem d_M_mark_16 : decode c_M_mark 16 = .ok (.if_icmp .ge 7, 3) := by decide +kernel
theorem d_M_mark_19 : decode c_M_mark 19 = .ok (.iconst 1, 1) := by decide +kernel
theorem d_M_mark_20 : decode c_M_mark 20 = .ok (.goto 4, 3) := by decide +kernel
theorem d_M_mark_23 : decode c_M_mark 23 = .ok (.iconst 0, 1) := by decide +kernel
theorem d_M_mark_24 : decode c_M_mark 24 = .ok (.invokestatic 64, 3) := by decide +kernel
theorem d_M_mark_27 : decode c_M_mark 27 = .ok (.iconst 0, 1) := by decide +kernel
theorem d_M_mark_28 : decode c_M_mark 28 = .ok (.iload_n 2, 1) := by decide +kernel
theorem d_M_mark_29 : decode c_M_mark 29 = .ok (.if_icmp .gt 21, 3) := by decide +kernel
theorem d_M_mark_32 : decode c_M_mark 32 = .ok (.iload_n 2, 1) := by decide +kernel
theorem d_M_mark_33 : decode c_M_mark 33 = .ok (.iload_n 3, 1) := by decide +kernel
theorem d_M_mark_34 : decode c_M_mark 34 = .ok (.if_icmp .ge 16, 3) := by decide +kernel
theorem d_M_mark_37 : decode c_M_mark 37 = .ok (.iload_n 3, 1) := by decide +kernel
theorem d_M_mark_38 : decode c_M_mark 38 = .ok (.aload 5, 2) := by decide +kernel
theorem d_M_mark_40 : decode c_M_mark 40 = .ok (.getfield 24, 3) := by decide +kernel
theorem d_M_mark_43 : decode c_M_mark 43 = .ok (.if_icmp .gt 7, 3) := by decide +kernel
theorem d_M_mark_46 : decode c_M_mark 46 = .ok (.iconst 1, 1) := by decide +kernel
theorem d_M_mark_47 : decode c_M_mark 47 = .ok (.goto 4, 3) := by decide +kernel
theorem d_M_mark_50 : decode c_M_mark 50 = .ok (.iconst 0, 1) := by decide +kernel
theorem d_M_mark_51 : decode c_M_mark 51 = .ok (.invokestatic 27, 3) := by decide +kernel
theorem d_M_mark_54 : decode c_M_mark 54 = .ok (.aload_n 0, 1) := by decide +kernel
theorem d_M_mark_55 : decode c_M_mark 55 = .ok (.invokevirtual 31, 3) := by decide +kernel
theorem d_M_mark_58 : decode c_M_mark 58 = .ok (.aload 5, 2) := by decide +kernel
theorem d_M_mark_60 : decode c_M_mark 60 = .ok (.getfield 34, 3) := by decide +kernel
theorem d_M_mark_63 : decode c_M_mark 63 = .ok (.iload_n 2, 1) := by decide +kernel
theorem d_M_mark_64 : decode c_M_mark 64 = .ok (.aaload, 1) := by decide +kernel
theorem d_M_mark_65 : decode c_M_mark 65 = .ok (.astore 6, 2) := by decide +kernel
theorem d_M_mark_67 : decode c_M_mark 67 = .ok (.iload 4, 2) := by decide +kernel
theorem d_M_mark_69 : decode c_M_mark 69 = .ok (.invokestatic 67, 3) := by decide +kernel
theorem d_M_mark_72 : decode c_M_mark 72 = .ok (.ifCond .eq 7, 3) := by decide +kernel
theorem d_M_mark_75 : decode c_M_mark 75 = .ok (.iload_n 3, 1) := by decide +kernel
theorem d_M_mark_76 : decode c_M_mark 76 = .ok (.goto 6, 3) := by decide +kernel
theorem d_M_mark_79 : decode c_M_mark 79 = .ok (.iload_n 3, 1) := by decide +kernel
theorem d_M_mark_80 : decode c_M_mark 80 = .ok (.iconst 1, 1) := by decide +kernel
theorem d_M_mark_81 : decode c_M_mark 81 = .ok (.isub, 1) := by decide +kernel
theorem d_M_mark_82 : decode c_M_mark 82 = .ok (.istore 7, 2) := by decide +kernel
theorem d_M_mark_84 : decode c_M_mark 84 = .ok (.iload 7, 2) := by decide +kernel
theorem d_M_mark_86 : decode c_M_mark 86 = .ok (.aload 5, 2) := by decide +kernel
theorem d_M_mark_88 : decode c_M_mark 88 = .ok (.getfield 24, 3) := by decide +kernel
theorem d_M_mark_91 : decode c_M_mark 91 = .ok (.if_icmp .ge 14, 3) := by decide +kernel
theorem d_M_mark_94 : decode c_M_mark 94 = .ok (.aload 5, 2) := by decide +kernel
theorem d_M_mark_96 : decode c_M_mark 96 = .ok (.getfield 34, 3) := by decide +kernel
theorem d_M_mark_99 : decode c_M_mark 99 = .ok (.iload 7, 2) := by decide +kernel
theorem d_M_mark_101 : decode c_M_mark 101 = .ok (.aaload, 1) := by decide +kernel
theorem d_M_mark_102 : decode c_M_mark 102 = .ok (.goto 4, 3) := by decide +kernel
theorem d_M_mark_105 : decode c_M_mark 105 = .ok (.aconst_null, 1) := by decide +kernel
theorem d_M_mark_106 : decode c_M_mark 106 = .ok (.astore 8, 2) := by decide +kernel
theorem d_M_mark_108 : decode c_M_mark 108 = .ok (.aload_n 0, 1) := by decide +kernel
theorem d_M_mark_109 : decode c_M_mark 109 = .ok (.aload 5, 2) := by decide +kernel
theorem d_M_mark_111 : decode c_M_mark 111 = .ok (.new 68, 3) := by decide +kernel
theorem d_M_mark_114 : decode c_M_mark 114 = .ok (.dup, 1) := by decide +kernel
theorem d_M_mark_115 : decode c_M_mark 115 = .ok (.aload_n 0, 1) := by decide +kernel
theorem d_M_mark_116 : decode c_M_mark 116 = .ok (.getfield 16, 3) := by decide +kernel
theorem d_M_mark_119 : decode c_M_mark 119 = .ok (.aload 5, 2) := by decide +kernel
theorem d_M_mark_121 : decode c_M_mark 121 = .ok (.invokevirtual 40, 3) := by decide +kernel
theorem d_M_mark_124 : decode c_M_mark 124 = .ok (.iload_n 1, 1) := by decide +kernel
theorem d_M_mark_125 : decode c_M_mark 125 = .ok (.iload 4, 2) := by decide +kernel
theorem d_M_mark_127 : decode c_M_mark 127 = .ok (.aload 6, 2) := by decide +kernel
theorem d_M_mark_129 : decode c_M_mark 129 = .ok (.aload 8, 2) := by decide +kernel
theorem d_M_mark_131 : decode c_M_mark 131 = .ok (.invokespecial 73, 3) := by decide +kernel
theorem d_M_mark_134 : decode c_M_mark 134 = .ok (.invokevirtual 47, 3) := by decide +kernel
theorem d_M_mark_137 : decode c_M_mark 137 = .ok (.ireturn, 1) := by decide +kernel
theorem d_M_tell_0 : decode c_M_tell 0 = .ok (.aload_n 0, 1) := by decide +kernel
theorem d_M_tell_1 : decode c_M_tell 1 = .ok (.iload_n 1, 1) := by decide +kernel
theorem d_M_tell_2 : decode c_M_tell 2 = .ok (.invokevirtual 20, 3) := by decide +kernel
theorem d_M_tell_5 : decode c_M_tell 5 = .ok (.astore 4, 2) := by decide +kernel
theorem d_M_tell_7 : decode c_M_tell 7 = .ok (.aload_n 0, 1) := by decide +kernel
theorem d_M_tell_8 : decode c_M_tell 8 = .ok (.iload_n 2, 1) := by decide +kernel
theorem d_M_tell_9 : decode c_M_tell 9 = .ok (.invokevirtual 20, 3) := by decide +kernel
theorem d_M_tell_12 : decode c_M_tell 12 = .ok (.astore 5, 2) := by decide +kernel
theorem d_M_tell_14 : decode c_M_tell 14 = .ok (.iload_n 3, 1) := by decide +kernel
theorem d_M_tell_15 : decode c_M_tell 15 = .ok (.ifCond .lt 7, 3) := by decide +kernel
theorem d_M_tell_18 : decode c_M_tell 18 = .ok (.iconst 1, 1) := by decide +kernel
theorem d_M_tell_19 : decode c_M_tell 19 = .ok (.goto 4, 3) := by decide +kernel
theorem d_M_tell_22 : decode c_M_tell 22 = .ok (.iconst 0, 1) := by decide +kernel
theorem d_M_tell_23 : decode c_M_tell 23 = .ok (.invokestatic 64, 3) := by decide +kernel
theorem d_M_tell_26 : decode c_M_tell 26 = .ok (.iconst 0, 1) := by decide +kernel
theorem d_M_tell_27 : decode c_M_tell 27 = .ok (.istore 6, 2) := by decide +kernel
theorem d_M_tell_29 : decode c_M_tell 29 = .ok (.iconst 0, 1) := by decide +kernel
theorem d_M_tell_30 : decode c_M_tell 30 = .ok (.istore 7, 2) := by decide +kernel
theorem d_M_tell_32 : decode c_M_tell 32 = .ok (.iload 7, 2) := by decide +kernel
theorem d_M_tell_34 : decode c_M_tell 34 = .ok (.aload 4, 2) := by decide +kernel
theorem d_M_tell_36 : decode c_M_tell 36 = .ok (.getfield 76, 3) := by decide +kernel
theorem d_M_tell_39 : decode c_M_tell 39 = .ok (.if_icmp .ge 49, 3) := by decide +kernel
theorem d_M_tell_42 : decode c_M_tell 42 = .ok (.iload 6, 2) := by decide +kernel
theorem d_M_tell_44 : decode c_M_tell 44 = .ok (.iload_n 3, 1) := by decide +kernel
theorem d_M_tell_45 : decode c_M_tell 45 = .ok (.if_icmp .ge 43, 3) := by decide +kernel
theorem d_M_tell_48 : decode c_M_tell 48 = .ok (.aload 4, 2) := by decide +kernel
theorem d_M_tell_50 : decode c_M_tell 50 = .ok (.getfield 79, 3) := by decide +kernel
theorem d_M_tell_53 : decode c_M_tell 53 = .ok (.iload 7, 2) := by decide +kernel
theorem d_M_tell_55 : decode c_M_tell 55 = .ok (.aaload, 1) := by decide +kernel
theorem d_M_tell_56 : decode c_M_tell 56 = .ok (.astore 8, 2) := by decide +kernel
theorem d_M_tell_58 : decode c_M_tell 58 = .ok (.aload 5, 2) := by decide +kernel
theorem d_M_tell_60 : decode c_M_tell 60 = .ok (.getfield 83, 3) := by decide +kernel
theorem d_M_tell_63 : decode c_M_tell 63 = .ok (.aload 8, 2) := by decide +kernel
theorem d_M_tell_65 : decode c_M_tell 65 = .ok (.getfield 87, 3) := by decide +kernel
theorem d_M_tell_68 : decode c_M_tell 68 = .ok (.baload, 1) := by decide +kernel
theorem d_M_tell_69 : decode c_M_tell 69 = .ok (.ifCond .ne 13, 3) := by decide +kernel
theorem d_M_tell_72 : decode c_M_tell 72 = .ok (.aload 5, 2) := by decide +kernel
theorem d_M_tell_74 : decode c_M_tell 74 = .ok (.aload 8, 2) := by decide +kernel
theorem d_M_tell_76 : decode c_M_tell 76 = .ok (.invokevirtual 92, 3) := by decide +kernel
theorem d_M_tell_79 : decode c_M_tell 79 = .ok (.iinc 6 1, 3) := by decide +kernel
theorem d_M_tell_82 : decode c_M_tell 82 = .ok (.iinc 7 1, 3) := by decide +kernel
theorem d_M_tell_85 : decode c_M_tell 85 = .ok (.goto (-53), 3) := by decide +kernel
theorem d_M_tell_88 : decode c_M_tell 88 = .ok (.iload 6, 2) := by decide +kernel
theorem d_M_tell_90 : decode c_M_tell 90 = .ok (.ireturn, 1) := by decide +kernel
theorem d_M_length_0 : decode c_M_length 0 = .ok (.aload_n 0, 1) := by decide +kernel
theorem d_M_length_1 : decode c_M_length 1 = .ok (.iload_n 1, 1) := by decide +kernel
theorem d_M_length_2 : decode c_M_length 2 = .ok (.invokevirtual 20, 3) := by decide +kernel
theorem d_M_length_5 : decode c_M_length 5 = .ok (.getfield 24, 3) := by decide +kernel
theorem d_M_length_8 : decode c_M_length 8 = .ok (.ireturn, 1) := by decide +kernel
theorem d_M_at_0 : decode c_M_at 0 = .ok (.aload_n 0, 1) := by decide +kernel
theorem d_M_at_1 : decode c_M_at 1 = .ok (.iload_n 1, 1) := by decide +kernel
theorem d_M_at_2 : decode c_M_at 2 = .ok (.invokevirtual 20, 3) := by decide +kernel
theorem d_M_at_5 : decode c_M_at 5 = .ok (.iload_n 2, 1) := by decide +kernel
theorem d_M_at_6 : decode c_M_at 6 = .ok (.invokevirtual 51, 3) := by decide +kernel
theorem d_M_at_9 : decode c_M_at 9 = .ok (.getfield 60, 3) := by decide +kernel
theorem d_M_at_12 : decode c_M_at 12 = .ok (.ireturn, 1) := by decide +kernel
theorem d_M_format_0 : decode c_M_format 0 = .ok (.aload_n 0, 1) := by decide +kernel
theorem d_M_format_1 : decode c_M_format 1 = .ok (.iload_n 1, 1) := by decide +kernel
theorem d_M_format_2 : decode c_M_format 2 = .ok (.invokevirtual 20, 3) := by decide +kernel
theorem d_M_format_5 : decode c_M_format 5 = .ok (.astore_n 3, 1) := by decide +kernel
theorem d_M_format_6 : decode c_M_format 6 = .ok (.aload_n 3, 1) := by decide +kernel
theorem d_M_format_7 : decode c_M_format 7 = .ok (.aload_n 3, 1) := by decide +kernel
theorem d_M_format_8 : decode c_M_format 8 = .ok (.iload_n 2, 1) := by decide +kernel
theorem d_M_format_9 : decode c_M_format 9 = .ok (.invokevirtual 51, 3) := by decide +kernel
theorem d_M_format_12 : decode c_M_format 12 = .ok (.invokevirtual 96, 3) := by decide +kernel
theorem d_M_format_15 : decode c_M_format 15 = .ok (.ireturn, 1) := by decide +kernel
theorem d_M_id_0 : decode c_M_id 0 = .ok (.aload_n 0, 1) := by decide +kernel
theorem d_M_id_1 : decode c_M_id 1 = .ok (.iload_n 1, 1) := by decide +kernel
theorem d_M_id_2 : decode c_M_id 2 = .ok (.invokevirtual 20, 3) := by decide +kernel
theorem d_M_id_5 : decode c_M_id 5 = .ok (.iload_n 2, 1) := by decide +kernel
theorem d_M_id_6 : decode c_M_id 6 = .ok (.invokevirtual 51, 3) := by decide +kernel
theorem d_M_id_9 : decode c_M_id 9 = .ok (.getfield 100, 3) := by decide +kernel
theorem d_M_id_12 : decode c_M_id 12 = .ok (.ireturn, 1) := by decide +kernel
theorem d_M_runs_0 : decode c_M_runs 0 = .ok (.aload_n 0, 1) := by decide +kernel
theorem d_M_runs_1 : decode c_M_runs 1 = .ok (.iload_n 1, 1) := by decide +kernel
theorem d_M_runs_2 : decode c_M_runs 2 = .ok (.invokevirtual 20, 3) := by decide +kernel
theorem d_M_runs_5 : decode c_M_runs 5 = .ok (.astore_n 2, 1) := by decide +kernel
theorem d_M_runs_6 : decode c_M_runs 6 = .ok (.iconst 0, 1) := by decide +kernel
theorem d_M_runs_7 : decode c_M_runs 7 = .ok (.istore_n 3, 1) := by decide +kernel
theorem d_M_runs_8 : decode c_M_runs 8 = .ok (.iconst 0, 1) := by decide +kernel
theorem d_M_runs_9 : decode c_M_runs 9 = .ok (.istore 4, 2) := by decide +kernel
theorem d_M_runs_11 : decode c_M_runs 11 = .ok (.iload 4, 2) := by decide +kernel
theorem d_M_runs_13 : decode c_M_runs 13 = .ok (.aload_n 2, 1) := by decide +kernel
theorem d_M_runs_14 : decode c_M_runs 14 = .ok (.getfield 24, 3) := by decide +kernel
theorem d_M_runs_17 : decode c_M_runs 17 = .ok (.if_icmp .ge 21, 3) := by decide +kernel
theorem d_M_runs_20 : decode c_M_runs 20 = .ok (.aload_n 2, 1) := by decide +kernel
theorem d_M_runs_21 : decode c_M_runs 21 = .ok (.iload 4, 2) := by decide +kernel
theorem d_M_runs_23 : decode c_M_runs 23 = .ok (.invokevirtual 103, 3) := by decide +kernel
theorem d_M_runs_26 : decode c_M_runs 26 = .ok (.ifCond .eq 6, 3) := by decide +kernel
theorem d_M_runs_29 : decode c_M_runs 29 = .ok (.iinc 3 1, 3) := by decide +kernel
theorem d_M_runs_32 : decode c_M_runs 32 = .ok (.iinc 4 1, 3) := by decide +kernel
theorem d_M_runs_35 : decode c_M_runs 35 = .ok (.goto (-24), 3) := by decide +kernel
theorem d_M_runs_38 : decode c_M_runs 38 = .ok (.iload_n 3, 1) := by decide +kernel
theorem d_M_runs_39 : decode c_M_runs 39 = .ok (.ireturn, 1) := by decide +kernel
theorem d_M_run_0 : decode c_M_run 0 = .ok (.aload_n 0, 1) := by decide +kernel
theorem d_M_run_1 : decode c_M_run 1 = .ok (.iload_n 1, 1) := by decide +kernel
theorem d_M_run_2 : decode c_M_run 2 = .ok (.invokevirtual 20, 3) := by decide +kernel
theorem d_M_run_5 : decode c_M_run 5 = .ok (.astore 4, 2) := by decide +kernel
theorem d_M_run_7 : decode c_M_run 7 = .ok (.iload_n 3, 1) := by decide +kernel
theorem d_M_run_8 : decode c_M_run 8 = .ok (.ifCond .lt 12, 3) := by decide +kernel
theorem d_M_run_11 : decode c_M_run 11 = .ok (.iload_n 3, 1) := by decide +kernel
theorem d_M_run_12 : decode c_M_run 12 = .ok (.iconst 2, 1) := by decide +kernel
theorem d_M_run_13 : decode c_M_run 13 = .ok (.if_icmp .gt 7, 3) := by decide +kernel
theorem d_M_run_16 : decode c_M_run 16 = .ok (.iconst 1, 1) := by decide +kernel
theorem d_M_run_17 : decode c_M_run 17 = .ok (.goto 4, 3) := by decide +kernel
theorem d_M_run_20 : decode c_M_run 20 = .ok (.iconst 0, 1) := by decide +kernel
theorem d_M_run_21 : decode c_M_run 21 = .ok (.invokestatic 64, 3) := by decide +kernel
theorem d_M_run_24 : decode c_M_run 24 = .ok (.aload 4, 2) := by decide +kernel
theorem d_M_run_26 : decode c_M_run 26 = .ok (.iload_n 2, 1) := by decide +kernel
theorem d_M_run_27 : decode c_M_run 27 = .ok (.invokevirtual 106, 3) := by decide +kernel
theorem d_M_run_30 : decode c_M_run 30 = .ok (.istore 5, 2) := by decide +kernel
theorem d_M_run_32 : decode c_M_run 32 = .ok (.iload 5, 2) := by decide +kernel
theorem d_M_run_34 : decode c_M_run 34 = .ok (.aload 4, 2) := by decide +kernel
theorem d_M_run_36 : decode c_M_run 36 = .ok (.getfield 24, 3) := by decide +kernel
theorem d_M_run_39 : decode c_M_run 39 = .ok (.if_icmp .ge 7, 3) := by decide +kernel
theorem d_M_run_42 : decode c_M_run 42 = .ok (.iconst 1, 1) := by decide +kernel
theorem d_M_run_43 : decode c_M_run 43 = .ok (.goto 4, 3) := by decide +kernel
theorem d_M_run_46 : decode c_M_run 46 = .ok (.iconst 0, 1) := by decide +kernel
theorem d_M_run_47 : decode c_M_run 47 = .ok (.invokestatic 27, 3) := by decide +kernel
theorem d_M_run_50 : decode c_M_run 50 = .ok (.iload_n 3, 1) := by decide +kernel
theorem d_M_run_51 : decode c_M_run 51 = .ok (.lookupswitch 40 #[(0, 25), (1, 28)], 25) := by decide +kernel
theorem d_M_run_76 : decode c_M_run 76 = .ok (.iload 5, 2) := by decide +kernel
theorem d_M_run_78 : decode c_M_run 78 = .ok (.ireturn, 1) := by decide +kernel
theorem d_M_run_79 : decode c_M_run 79 = .ok (.aload 4, 2) := by decide +kernel
theorem d_M_run_81 : decode c_M_run 81 = .ok (.iload_n 2, 1) := by decide +kernel
theorem d_M_run_82 : decode c_M_run 82 = .ok (.iconst 1, 1) := by decide +kernel
theorem d_M_run_83 : decode c_M_run 83 = .ok (.iadd, 1) := by decide +kernel
theorem d_M_run_84 : decode c_M_run 84 = .ok (.invokevirtual 106, 3) := by decide +kernel
theorem d_M_run_87 : decode c_M_run 87 = .ok (.iload 5, 2) := by decide +kernel
theorem d_M_run_89 : decode c_M_run 89 = .ok (.isub, 1) := by decide +kernel
theorem d_M_run_90 : decode c_M_run 90 = .ok (.ireturn, 1) := by decide +kernel
theorem d_M_run_91 : decode c_M_run 91 = .ok (.aload 4, 2) := by decide +kernel
theorem d_M_run_93 : decode c_M_run 93 = .ok (.aload 4, 2) := by decide +kernel
theorem d_M_run_95 : decode c_M_run 95 = .ok (.getfield 34, 3) := by decide +kernel
theorem d_M_run_98 : decode c_M_run 98 = .ok (.iload 5, 2) := by decide +kernel
theorem d_M_run_100 : decode c_M_run 100 = .ok (.aaload, 1) := by decide +kernel
theorem d_M_run_101 : decode c_M_run 101 = .ok (.invokevirtual 96, 3) := by decide +kernel
theorem d_M_run_104 : decode c_M_run 104 = .ok (.ireturn, 1) := by decide +kernel
theorem d_M_count_0 : decode c_M_count 0 = .ok (.aload_n 0, 1) := by decide +kernel
theorem d_M_count_1 : decode c_M_count 1 = .ok (.iload_n 1, 1) := by decide +kernel
theorem d_M_count_2 : decode c_M_count 2 = .ok (.invokevirtual 20, 3) := by decide +kernel
theorem d_M_count_5 : decode c_M_count 5 = .ok (.astore_n 3, 1) := by decide +kernel
theorem d_M_count_6 : decode c_M_count 6 = .ok (.iload_n 2, 1) := by decide +kernel
theorem d_M_count_7 : decode c_M_count 7 = .ok (.ifCond .lt 12, 3) := by decide +kernel
theorem d_M_count_10 : decode c_M_count 10 = .ok (.iload_n 2, 1) := by decide +kernel
theorem d_M_count_11 : decode c_M_count 11 = .ok (.iconst 3, 1) := by decide +kernel
theorem d_M_count_12 : decode c_M_count 12 = .ok (.if_icmp .gt 7, 3) := by decide +kernel
theorem d_M_count_15 : decode c_M_count 15 = .ok (.iconst 1, 1) := by decide +kernel
theorem d_M_count_16 : decode c_M_count 16 = .ok (.goto 4, 3) := by decide +kernel
theorem d_M_count_19 : decode c_M_count 19 = .ok (.iconst 0, 1) := by decide +kernel
theorem d_M_count_20 : decode c_M_count 20 = .ok (.invokestatic 64, 3) := by decide +kernel
theorem d_M_count_23 : decode c_M_count 23 = .ok (.iload_n 2, 1) := by decide +kernel
theorem d_M_count_24 : decode c_M_count 24 = .ok (.tableswitch 43 0 2 #[28, 33, 38], 28) := by decide +kernel
theorem d_M_count_52 : decode c_M_count 52 = .ok (.aload_n 3, 1) := by decide +kernel
theorem d_M_count_53 : decode c_M_count 53 = .ok (.getfield 76, 3) := by decide +kernel
theorem d_M_count_56 : decode c_M_count 56 = .ok (.ireturn, 1) := by decide +kernel
theorem d_M_count_57 : decode c_M_count 57 = .ok (.aload_n 3, 1) := by decide +kernel
theorem d_M_count_58 : decode c_M_count 58 = .ok (.getfield 110, 3) := by decide +kernel
theorem d_M_count_61 : decode c_M_count 61 = .ok (.ireturn, 1) := by decide +kernel
theorem d_M_count_62 : decode c_M_count 62 = .ok (.aload_n 3, 1) := by decide +kernel
theorem d_M_count_63 : decode c_M_count 63 = .ok (.getfield 113, 3) := by decide +kernel
theorem d_M_count_66 : decode c_M_count 66 = .ok (.ireturn, 1) := by decide +kernel
theorem d_M_count_67 : decode c_M_count 67 = .ok (.aload_n 3, 1) := by decide +kernel
theorem d_M_count_68 : decode c_M_count 68 = .ok (.getfield 116, 3) := by decide +kernel
theorem d_M_count_71 : decode c_M_count 71 = .ok (.ireturn, 1) := by decide +kernel
theorem d_M_alike_0 : decode c_M_alike 0 = .ok (.aload_n 0, 1) := by decide +kernel
theorem d_M_alike_1 : decode c_M_alike 1 = .ok (.iload_n 1, 1) := by decide +kernel
theorem d_M_alike_2 : decode c_M_alike 2 = .ok (.invokevirtual 20, 3) := by decide +kernel
theorem d_M_alike_5 : decode c_M_alike 5 = .ok (.astore_n 3, 1) := by decide +kernel
theorem d_M_alike_6 : decode c_M_alike 6 = .ok (.aload_n 0, 1) := by decide +kernel
theorem d_M_alike_7 : decode c_M_alike 7 = .ok (.iload_n 2, 1) := by decide +kernel
theorem d_M_alike_8 : decode c_M_alike 8 = .ok (.invokevirtual 20, 3) := by decide +kernel
theorem d_M_alike_11 : decode c_M_alike 11 = .ok (.astore 4, 2) := by decide +kernel
theorem d_M_alike_13 : decode c_M_alike 13 = .ok (.aload_n 3, 1) := by decide +kernel
theorem d_M_alike_14 : decode c_M_alike 14 = .ok (.getfield 76, 3) := by decide +kernel
theorem d_M_alike_17 : decode c_M_alike 17 = .ok (.aload 4, 2) := by decide +kernel
theorem d_M_alike_19 : decode c_M_alike 19 = .ok (.getfield 76, 3) := by decide +kernel
theorem d_M_alike_22 : decode c_M_alike 22 = .ok (.if_icmp .ne 16, 3) := by decide +kernel
theorem d_M_alike_25 : decode c_M_alike 25 = .ok (.aload_n 3, 1) := by decide +kernel
theorem d_M_alike_26 : decode c_M_alike 26 = .ok (.aload 4, 2) := by decide +kernel
theorem d_M_alike_28 : decode c_M_alike 28 = .ok (.invokevirtual 119, 3) := by decide +kernel
theorem d_M_alike_31 : decode c_M_alike 31 = .ok (.ifCond .eq 7, 3) := by decide +kernel
theorem d_M_alike_34 : decode c_M_alike 34 = .ok (.iconst 1, 1) := by decide +kernel
theorem d_M_alike_35 : decode c_M_alike 35 = .ok (.goto 4, 3) := by decide +kernel
theorem d_M_alike_38 : decode c_M_alike 38 = .ok (.iconst 0, 1) := by decide +kernel
theorem d_M_alike_39 : decode c_M_alike 39 = .ok (.ireturn, 1) := by decide +kernel
theorem d_M_pageNumbered_0 : decode c_M_pageNumbered 0 = .ok (.iload_n 1, 1) := by decide +kernel
theorem d_M_pageNumbered_1 : decode c_M_pageNumbered 1 = .ok (.ifCond .lt 12, 3) := by decide +kernel
theorem d_M_pageNumbered_4 : decode c_M_pageNumbered 4 = .ok (.iload_n 1, 1) := by decide +kernel
theorem d_M_pageNumbered_5 : decode c_M_pageNumbered 5 = .ok (.iconst 3, 1) := by decide +kernel
theorem d_M_pageNumbered_6 : decode c_M_pageNumbered 6 = .ok (.if_icmp .ge 7, 3) := by decide +kernel
theorem d_M_pageNumbered_9 : decode c_M_pageNumbered 9 = .ok (.iconst 1, 1) := by decide +kernel
theorem d_M_pageNumbered_10 : decode c_M_pageNumbered 10 = .ok (.goto 4, 3) := by decide +kernel
theorem d_M_pageNumbered_13 : decode c_M_pageNumbered 13 = .ok (.iconst 0, 1) := by decide +kernel
theorem d_M_pageNumbered_14 : decode c_M_pageNumbered 14 = .ok (.invokestatic 64, 3) := by decide +kernel
theorem d_M_pageNumbered_17 : decode c_M_pageNumbered 17 = .ok (.aload_n 0, 1) := by decide +kernel
theorem d_M_pageNumbered_18 : decode c_M_pageNumbered 18 = .ok (.getfield 11, 3) := by decide +kernel
theorem d_M_pageNumbered_21 : decode c_M_pageNumbered 21 = .ok (.iload_n 1, 1) := by decide +kernel
theorem d_M_pageNumbered_22 : decode c_M_pageNumbered 22 = .ok (.aaload, 1) := by decide +kernel
theorem d_M_pageNumbered_23 : decode c_M_pageNumbered 23 = .ok (.areturn, 1) := by decide +kernel
theorem d_M_make_0 : decode c_M_make 0 = .ok (.aload_n 0, 1) := by decide +kernel
theorem d_M_make_1 : decode c_M_make 1 = .ok (.dup, 1) := by decide +kernel
theorem d_M_make_2 : decode c_M_make 2 = .ok (.getfield 16, 3) := by decide +kernel
theorem d_M_make_5 : decode c_M_make 5 = .ok (.iconst 1, 1) := by decide +kernel
theorem d_M_make_6 : decode c_M_make 6 = .ok (.iadd, 1) := by decide +kernel
theorem d_M_make_7 : decode c_M_make 7 = .ok (.putfield 16, 3) := by decide +kernel
theorem d_M_make_10 : decode c_M_make 10 = .ok (.aload_n 1, 1) := by decide +kernel
theorem d_M_make_11 : decode c_M_make 11 = .ok (.aload_n 2, 1) := by decide +kernel
theorem d_M_make_12 : decode c_M_make 12 = .ok (.invokevirtual 92, 3) := by decide +kernel
theorem d_M_make_15 : decode c_M_make 15 = .ok (.aload_n 2, 1) := by decide +kernel
theorem d_M_make_16 : decode c_M_make 16 = .ok (.getfield 123, 3) := by decide +kernel
theorem d_M_make_19 : decode c_M_make 19 = .ok (.ireturn, 1) := by decide +kernel
theorem d_M_refuseWhenAllAreMade_0 : decode c_M_refuseWhenAllAreMade 0 = .ok (.aload_n 0, 1) := by decide +kernel
theorem d_M_refuseWhenAllAreMade_1 : decode c_M_refuseWhenAllAreMade 1 = .ok (.getfield 16, 3) := by decide +kernel
theorem d_M_refuseWhenAllAreMade_4 : decode c_M_refuseWhenAllAreMade 4 = .ok (.bipush 90, 2) := by decide +kernel
theorem d_M_refuseWhenAllAreMade_6 : decode c_M_refuseWhenAllAreMade 6 = .ok (.if_icmp .lt 11, 3) := by decide +kernel
theorem d_M_refuseWhenAllAreMade_9 : decode c_M_refuseWhenAllAreMade 9 = .ok (.new 126, 3) := by decide +kernel
theorem d_M_refuseWhenAllAreMade_12 : decode c_M_refuseWhenAllAreMade 12 = .ok (.dup, 1) := by decide +kernel
theorem d_M_refuseWhenAllAreMade_13 : decode c_M_refuseWhenAllAreMade 13 = .ok (.invokespecial 128, 3) := by decide +kernel
theorem d_M_refuseWhenAllAreMade_16 : decode c_M_refuseWhenAllAreMade 16 = .ok (.athrow, 1) := by decide +kernel
theorem d_M_refuseWhenAllAreMade_17 : decode c_M_refuseWhenAllAreMade 17 = .ok (.return_, 1) := by decide +kernel
theorem d_M_refuseArgumentUnless_0 : decode c_M_refuseArgumentUnless 0 = .ok (.iload_n 0, 1) := by decide +kernel
theorem d_M_refuseArgumentUnless_1 : decode c_M_refuseArgumentUnless 1 = .ok (.ifCond .ne 11, 3) := by decide +kernel
theorem d_M_refuseArgumentUnless_4 : decode c_M_refuseArgumentUnless 4 = .ok (.new 129, 3) := by decide +kernel
theorem d_M_refuseArgumentUnless_7 : decode c_M_refuseArgumentUnless 7 = .ok (.dup, 1) := by decide +kernel
theorem d_M_refuseArgumentUnless_8 : decode c_M_refuseArgumentUnless 8 = .ok (.invokespecial 131, 3) := by decide +kernel
theorem d_M_refuseArgumentUnless_11 : decode c_M_refuseArgumentUnless 11 = .ok (.athrow, 1) := by decide +kernel
theorem d_M_refuseArgumentUnless_12 : decode c_M_refuseArgumentUnless 12 = .ok (.return_, 1) := by decide +kernel
theorem d_M_refuseIndexUnless_0 : decode c_M_refuseIndexUnless 0 = .ok (.iload_n 0, 1) := by decide +kernel
theorem d_M_refuseIndexUnless_1 : decode c_M_refuseIndexUnless 1 = .ok (.ifCond .ne 11, 3) := by decide +kernel
theorem d_M_refuseIndexUnless_4 : decode c_M_refuseIndexUnless 4 = .ok (.new 132, 3) := by decide +kernel
theorem d_M_refuseIndexUnless_7 : decode c_M_refuseIndexUnless 7 = .ok (.dup, 1) := by decide +kernel
theorem d_M_refuseIndexUnless_8 : decode c_M_refuseIndexUnless 8 = .ok (.invokespecial 134, 3) := by decide +kernel
theorem d_M_refuseIndexUnless_11 : decode c_M_refuseIndexUnless 11 = .ok (.athrow, 1) := by decide +kernel
theorem d_M_refuseIndexUnless_12 : decode c_M_refuseIndexUnless 12 = .ok (.return_, 1) := by decide +kernel
theorem d_E_init_0 : decode c_E_init 0 = .ok (.aload_n 0, 1) := by decide +kernel
theorem d_E_init_1 : decode c_E_init 1 = .ok (.iload_n 1, 1) := by decide +kernel
theorem d_E_init_2 : decode c_E_init 2 = .ok (.iload_n 2, 1) := by decide +kernel
theorem d_E_init_3 : decode c_E_init 3 = .ok (.iload_n 3, 1) := by decide +kernel
theorem d_E_init_4 : decode c_E_init 4 = .ok (.invokespecial 1, 3) := by decide +kernel
theorem d_E_init_7 : decode c_E_init 7 = .ok (.aload_n 0, 1) := by decide +kernel
theorem d_E_init_8 : decode c_E_init 8 = .ok (.aload 4, 2) := by decide +kernel
theorem d_E_init_10 : decode c_E_init 10 = .ok (.putfield 7, 3) := by decide +kernel
theorem d_E_init_13 : decode c_E_init 13 = .ok (.return_, 1) := by decide +kernel
theorem d_E_reach_0 : decode c_E_reach 0 = .ok (.aload_n 1, 1) := by decide +kernel
theorem d_E_reach_1 : decode c_E_reach 1 = .ok (.getfield 13, 3) := by decide +kernel
theorem d_E_reach_4 : decode c_E_reach 4 = .ok (.aload_n 0, 1) := by decide +kernel
theorem d_E_reach_5 : decode c_E_reach 5 = .ok (.getfield 7, 3) := by decide +kernel
theorem d_E_reach_8 : decode c_E_reach 8 = .ok (.getfield 19, 3) := by decide +kernel
theorem d_E_reach_11 : decode c_E_reach 11 = .ok (.iconst 1, 1) := by decide +kernel
theorem d_E_reach_12 : decode c_E_reach 12 = .ok (.bastore, 1) := by decide +kernel
theorem d_E_reach_13 : decode c_E_reach 13 = .ok (.return_, 1) := by decide +kernel
theorem d_K_init_0 : decode c_K_init 0 = .ok (.aload_n 0, 1) := by decide +kernel
theorem d_K_init_1 : decode c_K_init 1 = .ok (.iload_n 1, 1) := by decide +kernel
theorem d_K_init_2 : decode c_K_init 2 = .ok (.iload_n 2, 1) := by decide +kernel
theorem d_K_init_3 : decode c_K_init 3 = .ok (.iload_n 3, 1) := by decide +kernel
theorem d_K_init_4 : decode c_K_init 4 = .ok (.invokespecial 1, 3) := by decide +kernel
theorem d_K_init_7 : decode c_K_init 7 = .ok (.aload_n 0, 1) := by decide +kernel
theorem d_K_init_8 : decode c_K_init 8 = .ok (.iload 4, 2) := by decide +kernel
theorem d_K_init_10 : decode c_K_init 10 = .ok (.iconst 2, 1) := by decide +kernel
theorem d_K_init_11 : decode c_K_init 11 = .ok (.irem, 1) := by decide +kernel
theorem d_K_init_12 : decode c_K_init 12 = .ok (.iconst 1, 1) := by decide +kernel
theorem d_K_init_13 : decode c_K_init 13 = .ok (.if_icmp .ne 7, 3) := by decide +kernel
theorem d_K_init_16 : decode c_K_init 16 = .ok (.iconst 1, 1) := by decide +kernel
theorem d_K_init_17 : decode c_K_init 17 = .ok (.goto 4, 3) := by decide +kernel
theorem d_K_init_20 : decode c_K_init 20 = .ok (.iconst 0, 1) := by decide +kernel
theorem d_K_init_21 : decode c_K_init 21 = .ok (.putfield 7, 3) := by decide +kernel
theorem d_K_init_24 : decode c_K_init 24 = .ok (.aload_n 0, 1) := by decide +kernel
theorem d_K_init_25 : decode c_K_init 25 = .ok (.iconst 1, 1) := by decide +kernel
theorem d_K_init_26 : decode c_K_init 26 = .ok (.iload 4, 2) := by decide +kernel
theorem d_K_init_28 : decode c_K_init 28 = .ok (.iconst 2, 1) := by decide +kernel
theorem d_K_init_29 : decode c_K_init 29 = .ok (.idiv, 1) := by decide +kernel
theorem d_K_init_30 : decode c_K_init 30 = .ok (.ishl, 1) := by decide +kernel
theorem d_K_init_31 : decode c_K_init 31 = .ok (.putfield 13, 3) := by decide +kernel
theorem d_K_init_34 : decode c_K_init 34 = .ok (.aload_n 0, 1) := by decide +kernel
theorem d_K_init_35 : decode c_K_init 35 = .ok (.iload 4, 2) := by decide +kernel
theorem d_K_init_37 : decode c_K_init 37 = .ok (.invokestatic 17, 3) := by decide +kernel
theorem d_K_init_40 : decode c_K_init 40 = .ok (.ifCond .ne 7, 3) := by decide +kernel
theorem d_K_init_43 : decode c_K_init 43 = .ok (.iconst 1, 1) := by decide +kernel
theorem d_K_init_44 : decode c_K_init 44 = .ok (.goto 4, 3) := by decide +kernel
theorem d_K_init_47 : decode c_K_init 47 = .ok (.iconst 0, 1) := by decide +kernel
theorem d_K_init_48 : decode c_K_init 48 = .ok (.putfield 21, 3) := by decide +kernel
theorem d_K_init_51 : decode c_K_init 51 = .ok (.aload_n 0, 1) := by decide +kernel
theorem d_K_init_52 : decode c_K_init 52 = .ok (.aload 5, 2) := by decide +kernel
theorem d_K_init_54 : decode c_K_init 54 = .ok (.putfield 24, 3) := by decide +kernel
theorem d_K_init_57 : decode c_K_init 57 = .ok (.aload_n 0, 1) := by decide +kernel
theorem d_K_init_58 : decode c_K_init 58 = .ok (.aload 6, 2) := by decide +kernel
theorem d_K_init_60 : decode c_K_init 60 = .ok (.putfield 28, 3) := by decide +kernel
theorem d_K_init_63 : decode c_K_init 63 = .ok (.return_, 1) := by decide +kernel
theorem d_K_endsBeforeItsEndLetter_0 : decode c_K_endsBeforeItsEndLetter 0 = .ok (.iload_n 0, 1) := by decide +kernel
theorem d_K_endsBeforeItsEndLetter_1 : decode c_K_endsBeforeItsEndLetter 1 = .ok (.iconst 2, 1) := by decide +kernel
theorem d_K_endsBeforeItsEndLetter_2 : decode c_K_endsBeforeItsEndLetter 2 = .ok (.idiv, 1) := by decide +kernel
theorem d_K_endsBeforeItsEndLetter_3 : decode c_K_endsBeforeItsEndLetter 3 = .ok (.iconst 2, 1) := by decide +kernel
theorem d_K_endsBeforeItsEndLetter_4 : decode c_K_endsBeforeItsEndLetter 4 = .ok (.if_icmp .ge 7, 3) := by decide +kernel
theorem d_K_endsBeforeItsEndLetter_7 : decode c_K_endsBeforeItsEndLetter 7 = .ok (.iconst 1, 1) := by decide +kernel
theorem d_K_endsBeforeItsEndLetter_8 : decode c_K_endsBeforeItsEndLetter 8 = .ok (.goto 4, 3) := by decide +kernel
theorem d_K_endsBeforeItsEndLetter_11 : decode c_K_endsBeforeItsEndLetter 11 = .ok (.iconst 0, 1) := by decide +kernel
theorem d_K_endsBeforeItsEndLetter_12 : decode c_K_endsBeforeItsEndLetter 12 = .ok (.ireturn, 1) := by decide +kernel
theorem d_K_reach_0 : decode c_K_reach 0 = .ok (.aload_n 1, 1) := by decide +kernel
theorem d_K_reach_1 : decode c_K_reach 1 = .ok (.aload_n 0, 1) := by decide +kernel
theorem d_K_reach_2 : decode c_K_reach 2 = .ok (.invokevirtual 31, 3) := by decide +kernel
theorem d_K_reach_5 : decode c_K_reach 5 = .ok (.return_, 1) := by decide +kernel
theorem d_K_covers_0 : decode c_K_covers 0 = .ok (.iload_n 1, 1) := by decide +kernel
theorem d_K_covers_1 : decode c_K_covers 1 = .ok (.aload_n 2, 1) := by decide +kernel
theorem d_K_covers_2 : decode c_K_covers 2 = .ok (.aload_n 0, 1) := by decide +kernel
theorem d_K_covers_3 : decode c_K_covers 3 = .ok (.getfield 24, 3) := by decide +kernel
theorem d_K_covers_6 : decode c_K_covers 6 = .ok (.getfield 37, 3) := by decide +kernel
theorem d_K_covers_9 : decode c_K_covers 9 = .ok (.iaload, 1) := by decide +kernel
theorem d_K_covers_10 : decode c_K_covers 10 = .ok (.if_icmp .ge 5, 3) := by decide +kernel
theorem d_K_covers_13 : decode c_K_covers 13 = .ok (.iconst 0, 1) := by decide +kernel
theorem d_K_covers_14 : decode c_K_covers 14 = .ok (.ireturn, 1) := by decide +kernel
theorem d_K_covers_15 : decode c_K_covers 15 = .ok (.aload_n 0, 1) := by decide +kernel
theorem d_K_covers_16 : decode c_K_covers 16 = .ok (.getfield 28, 3) := by decide +kernel
theorem d_K_covers_19 : decode c_K_covers 19 = .ok (.ifnonnull 5, 3) := by decide +kernel
theorem d_K_covers_22 : decode c_K_covers 22 = .ok (.iconst 1, 1) := by decide +kernel
theorem d_K_covers_23 : decode c_K_covers 23 = .ok (.ireturn, 1) := by decide +kernel
theorem d_K_covers_24 : decode c_K_covers 24 = .ok (.aload_n 2, 1) := by decide +kernel
theorem d_K_covers_25 : decode c_K_covers 25 = .ok (.aload_n 0, 1) := by decide +kernel
theorem d_K_covers_26 : decode c_K_covers 26 = .ok (.getfield 28, 3) := by decide +kernel
theorem d_K_covers_29 : decode c_K_covers 29 = .ok (.getfield 37, 3) := by decide +kernel
theorem d_K_covers_32 : decode c_K_covers 32 = .ok (.iaload, 1) := by decide +kernel
theorem d_K_covers_33 : decode c_K_covers 33 = .ok (.istore_n 3, 1) := by decide +kernel
theorem d_K_covers_34 : decode c_K_covers 34 = .ok (.iload_n 1, 1) := by decide +kernel
theorem d_K_covers_35 : decode c_K_covers 35 = .ok (.iload_n 3, 1) := by decide +kernel
theorem d_K_covers_36 : decode c_K_covers 36 = .ok (.if_icmp .lt 15, 3) := by decide +kernel
theorem d_K_covers_39 : decode c_K_covers 39 = .ok (.iload_n 1, 1) := by decide +kernel
theorem d_K_covers_40 : decode c_K_covers 40 = .ok (.iload_n 3, 1) := by decide +kernel
theorem d_K_covers_41 : decode c_K_covers 41 = .ok (.if_icmp .ne 14, 3) := by decide +kernel
theorem d_K_covers_44 : decode c_K_covers 44 = .ok (.aload_n 0, 1) := by decide +kernel
theorem d_K_covers_45 : decode c_K_covers 45 = .ok (.getfield 21, 3) := by decide +kernel
theorem d_K_covers_48 : decode c_K_covers 48 = .ok (.ifCond .eq 7, 3) := by decide +kernel
theorem d_K_covers_51 : decode c_K_covers 51 = .ok (.iconst 1, 1) := by decide +kernel
theorem d_K_covers_52 : decode c_K_covers 52 = .ok (.goto 4, 3) := by decide +kernel
theorem d_K_covers_55 : decode c_K_covers 55 = .ok (.iconst 0, 1) := by decide +kernel
theorem d_K_covers_56 : decode c_K_covers 56 = .ok (.ireturn, 1) := by decide +kernel
theorem d_O_init_0 : decode c_O_init 0 = .ok (.aload_n 0, 1) := by decide +kernel
theorem d_O_init_1 : decode c_O_init 1 = .ok (.invokespecial 1, 3) := by decide +kernel
theorem d_O_init_4 : decode c_O_init 4 = .ok (.aload_n 0, 1) := by decide +kernel
theorem d_O_init_5 : decode c_O_init 5 = .ok (.iload_n 1, 1) := by decide +kernel
theorem d_O_init_6 : decode c_O_init 6 = .ok (.putfield 7, 3) := by decide +kernel
theorem d_O_init_9 : decode c_O_init 9 = .ok (.aload_n 0, 1) := by decide +kernel
theorem d_O_init_10 : decode c_O_init 10 = .ok (.iload_n 2, 1) := by decide +kernel
theorem d_O_init_11 : decode c_O_init 11 = .ok (.putfield 13, 3) := by decide +kernel
theorem d_O_init_14 : decode c_O_init 14 = .ok (.aload_n 0, 1) := by decide +kernel
theorem d_O_init_15 : decode c_O_init 15 = .ok (.iconst 4, 1) := by decide +kernel
theorem d_O_init_16 : decode c_O_init 16 = .ok (.iload_n 2, 1) := by decide +kernel
theorem d_O_init_17 : decode c_O_init 17 = .ok (.imul, 1) := by decide +kernel
theorem d_O_init_18 : decode c_O_init 18 = .ok (.iload_n 3, 1) := by decide +kernel
theorem d_O_init_19 : decode c_O_init 19 = .ok (.iadd, 1) := by decide +kernel
theorem d_O_init_20 : decode c_O_init 20 = .ok (.putfield 16, 3) := by decide +kernel
theorem d_O_init_23 : decode c_O_init 23 = .ok (.return_, 1) := by decide +kernel
theorem d_W_init_0 : decode c_W_init 0 = .ok (.aload_n 0, 1) := by decide +kernel
theorem d_W_init_1 : decode c_W_init 1 = .ok (.iload_n 1, 1) := by decide +kernel
theorem d_W_init_2 : decode c_W_init 2 = .ok (.iload_n 2, 1) := by decide +kernel
theorem d_W_init_3 : decode c_W_init 3 = .ok (.iload_n 3, 1) := by decide +kernel
theorem d_W_init_4 : decode c_W_init 4 = .ok (.invokespecial 1, 3) := by decide +kernel
theorem d_W_init_7 : decode c_W_init 7 = .ok (.aload_n 0, 1) := by decide +kernel
theorem d_W_init_8 : decode c_W_init 8 = .ok (.iload 4, 2) := by decide +kernel
theorem d_W_init_10 : decode c_W_init 10 = .ok (.putfield 7, 3) := by decide +kernel
theorem d_W_init_13 : decode c_W_init 13 = .ok (.aload_n 0, 1) := by decide +kernel
theorem d_W_init_14 : decode c_W_init 14 = .ok (.aload 5, 2) := by decide +kernel
theorem d_W_init_16 : decode c_W_init 16 = .ok (.putfield 13, 3) := by decide +kernel
theorem d_W_init_19 : decode c_W_init 19 = .ok (.return_, 1) := by decide +kernel
theorem d_W_reach_0 : decode c_W_reach 0 = .ok (.aload_n 1, 1) := by decide +kernel
theorem d_W_reach_1 : decode c_W_reach 1 = .ok (.aload_n 0, 1) := by decide +kernel
theorem d_W_reach_2 : decode c_W_reach 2 = .ok (.invokevirtual 17, 3) := by decide +kernel
theorem d_W_reach_5 : decode c_W_reach 5 = .ok (.return_, 1) := by decide +kernel
