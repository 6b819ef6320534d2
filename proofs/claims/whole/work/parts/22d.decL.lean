/-! Decode rows by program. -/
theorem d_L_write_0 : decode c_L_write 0 = .ok (.aload 4, 2) := by decide +kernel
theorem d_L_write_2 : decode c_L_write 2 = .ok (.iconst 0, 1) := by decide +kernel
theorem d_L_write_3 : decode c_L_write 3 = .ok (.aload_n 0, 1) := by decide +kernel
theorem d_L_write_4 : decode c_L_write 4 = .ok (.iload_n 1, 1) := by decide +kernel
theorem d_L_write_5 : decode c_L_write 5 = .ok (.iload_n 2, 1) := by decide +kernel
theorem d_L_write_6 : decode c_L_write 6 = .ok (.iload_n 3, 1) := by decide +kernel
theorem d_L_write_7 : decode c_L_write 7 = .ok (.invokevirtual 7, 3) := by decide +kernel
theorem d_L_write_10 : decode c_L_write 10 = .ok (.i2l, 1) := by decide +kernel
theorem d_L_write_11 : decode c_L_write 11 = .ok (.lastore, 1) := by decide +kernel
theorem d_L_write_12 : decode c_L_write 12 = .ok (.goto 15, 3) := by decide +kernel
theorem d_L_write_15 : decode c_L_write 15 = .ok (.astore 5, 2) := by decide +kernel
theorem d_L_write_17 : decode c_L_write 17 = .ok (.iconst 1, 1) := by decide +kernel
theorem d_L_write_18 : decode c_L_write 18 = .ok (.ireturn, 1) := by decide +kernel
theorem d_L_write_19 : decode c_L_write 19 = .ok (.astore 5, 2) := by decide +kernel
theorem d_L_write_21 : decode c_L_write 21 = .ok (.iconst 2, 1) := by decide +kernel
theorem d_L_write_22 : decode c_L_write 22 = .ok (.ireturn, 1) := by decide +kernel
theorem d_L_write_23 : decode c_L_write 23 = .ok (.astore 5, 2) := by decide +kernel
theorem d_L_write_25 : decode c_L_write 25 = .ok (.iconst 3, 1) := by decide +kernel
theorem d_L_write_26 : decode c_L_write 26 = .ok (.ireturn, 1) := by decide +kernel
theorem d_L_write_27 : decode c_L_write 27 = .ok (.iconst 0, 1) := by decide +kernel
theorem d_L_write_28 : decode c_L_write 28 = .ok (.ireturn, 1) := by decide +kernel
theorem d_L_erase_0 : decode c_L_erase 0 = .ok (.aload_n 3, 1) := by decide +kernel
theorem d_L_erase_1 : decode c_L_erase 1 = .ok (.iconst 0, 1) := by decide +kernel
theorem d_L_erase_2 : decode c_L_erase 2 = .ok (.aload_n 0, 1) := by decide +kernel
theorem d_L_erase_3 : decode c_L_erase 3 = .ok (.iload_n 1, 1) := by decide +kernel
theorem d_L_erase_4 : decode c_L_erase 4 = .ok (.iload_n 2, 1) := by decide +kernel
theorem d_L_erase_5 : decode c_L_erase 5 = .ok (.invokevirtual 19, 3) := by decide +kernel
theorem d_L_erase_8 : decode c_L_erase 8 = .ok (.i2l, 1) := by decide +kernel
theorem d_L_erase_9 : decode c_L_erase 9 = .ok (.lastore, 1) := by decide +kernel
theorem d_L_erase_10 : decode c_L_erase 10 = .ok (.goto 15, 3) := by decide +kernel
theorem d_L_erase_13 : decode c_L_erase 13 = .ok (.astore 4, 2) := by decide +kernel
theorem d_L_erase_15 : decode c_L_erase 15 = .ok (.iconst 1, 1) := by decide +kernel
theorem d_L_erase_16 : decode c_L_erase 16 = .ok (.ireturn, 1) := by decide +kernel
theorem d_L_erase_17 : decode c_L_erase 17 = .ok (.astore 4, 2) := by decide +kernel
theorem d_L_erase_19 : decode c_L_erase 19 = .ok (.iconst 2, 1) := by decide +kernel
theorem d_L_erase_20 : decode c_L_erase 20 = .ok (.ireturn, 1) := by decide +kernel
theorem d_L_erase_21 : decode c_L_erase 21 = .ok (.astore 4, 2) := by decide +kernel
theorem d_L_erase_23 : decode c_L_erase 23 = .ok (.iconst 3, 1) := by decide +kernel
theorem d_L_erase_24 : decode c_L_erase 24 = .ok (.ireturn, 1) := by decide +kernel
theorem d_L_erase_25 : decode c_L_erase 25 = .ok (.iconst 0, 1) := by decide +kernel
theorem d_L_erase_26 : decode c_L_erase 26 = .ok (.ireturn, 1) := by decide +kernel
theorem d_L_mark_0 : decode c_L_mark 0 = .ok (.aload 5, 2) := by decide +kernel
theorem d_L_mark_2 : decode c_L_mark 2 = .ok (.iconst 0, 1) := by decide +kernel
theorem d_L_mark_3 : decode c_L_mark 3 = .ok (.aload_n 0, 1) := by decide +kernel
theorem d_L_mark_4 : decode c_L_mark 4 = .ok (.iload_n 1, 1) := by decide +kernel
theorem d_L_mark_5 : decode c_L_mark 5 = .ok (.iload_n 2, 1) := by decide +kernel
theorem d_L_mark_6 : decode c_L_mark 6 = .ok (.iload_n 3, 1) := by decide +kernel
theorem d_L_mark_7 : decode c_L_mark 7 = .ok (.iload 4, 2) := by decide +kernel
theorem d_L_mark_9 : decode c_L_mark 9 = .ok (.invokevirtual 23, 3) := by decide +kernel
theorem d_L_mark_12 : decode c_L_mark 12 = .ok (.i2l, 1) := by decide +kernel
theorem d_L_mark_13 : decode c_L_mark 13 = .ok (.lastore, 1) := by decide +kernel
theorem d_L_mark_14 : decode c_L_mark 14 = .ok (.goto 15, 3) := by decide +kernel
theorem d_L_mark_17 : decode c_L_mark 17 = .ok (.astore 6, 2) := by decide +kernel
theorem d_L_mark_19 : decode c_L_mark 19 = .ok (.iconst 1, 1) := by decide +kernel
theorem d_L_mark_20 : decode c_L_mark 20 = .ok (.ireturn, 1) := by decide +kernel
theorem d_L_mark_21 : decode c_L_mark 21 = .ok (.astore 6, 2) := by decide +kernel
theorem d_L_mark_23 : decode c_L_mark 23 = .ok (.iconst 2, 1) := by decide +kernel
theorem d_L_mark_24 : decode c_L_mark 24 = .ok (.ireturn, 1) := by decide +kernel
theorem d_L_mark_25 : decode c_L_mark 25 = .ok (.astore 6, 2) := by decide +kernel
theorem d_L_mark_27 : decode c_L_mark 27 = .ok (.iconst 3, 1) := by decide +kernel
theorem d_L_mark_28 : decode c_L_mark 28 = .ok (.ireturn, 1) := by decide +kernel
theorem d_L_mark_29 : decode c_L_mark 29 = .ok (.iconst 0, 1) := by decide +kernel
theorem d_L_mark_30 : decode c_L_mark 30 = .ok (.ireturn, 1) := by decide +kernel
theorem d_L_tell_0 : decode c_L_tell 0 = .ok (.aload 4, 2) := by decide +kernel
theorem d_L_tell_2 : decode c_L_tell 2 = .ok (.iconst 0, 1) := by decide +kernel
theorem d_L_tell_3 : decode c_L_tell 3 = .ok (.aload_n 0, 1) := by decide +kernel
theorem d_L_tell_4 : decode c_L_tell 4 = .ok (.iload_n 1, 1) := by decide +kernel
theorem d_L_tell_5 : decode c_L_tell 5 = .ok (.iload_n 2, 1) := by decide +kernel
theorem d_L_tell_6 : decode c_L_tell 6 = .ok (.iload_n 3, 1) := by decide +kernel
theorem d_L_tell_7 : decode c_L_tell 7 = .ok (.invokevirtual 27, 3) := by decide +kernel
theorem d_L_tell_10 : decode c_L_tell 10 = .ok (.i2l, 1) := by decide +kernel
theorem d_L_tell_11 : decode c_L_tell 11 = .ok (.lastore, 1) := by decide +kernel
theorem d_L_tell_12 : decode c_L_tell 12 = .ok (.goto 7, 3) := by decide +kernel
theorem d_L_tell_15 : decode c_L_tell 15 = .ok (.astore 5, 2) := by decide +kernel
theorem d_L_tell_17 : decode c_L_tell 17 = .ok (.iconst 1, 1) := by decide +kernel
theorem d_L_tell_18 : decode c_L_tell 18 = .ok (.ireturn, 1) := by decide +kernel
theorem d_L_tell_19 : decode c_L_tell 19 = .ok (.iconst 0, 1) := by decide +kernel
theorem d_L_tell_20 : decode c_L_tell 20 = .ok (.ireturn, 1) := by decide +kernel
theorem d_L_length_0 : decode c_L_length 0 = .ok (.aload_n 2, 1) := by decide +kernel
theorem d_L_length_1 : decode c_L_length 1 = .ok (.iconst 0, 1) := by decide +kernel
theorem d_L_length_2 : decode c_L_length 2 = .ok (.aload_n 0, 1) := by decide +kernel
theorem d_L_length_3 : decode c_L_length 3 = .ok (.iload_n 1, 1) := by decide +kernel
theorem d_L_length_4 : decode c_L_length 4 = .ok (.invokevirtual 31, 3) := by decide +kernel
theorem d_L_length_7 : decode c_L_length 7 = .ok (.i2l, 1) := by decide +kernel
theorem d_L_length_8 : decode c_L_length 8 = .ok (.lastore, 1) := by decide +kernel
theorem d_L_length_9 : decode c_L_length 9 = .ok (.goto 6, 3) := by decide +kernel
theorem d_L_length_12 : decode c_L_length 12 = .ok (.astore_n 3, 1) := by decide +kernel
theorem d_L_length_13 : decode c_L_length 13 = .ok (.iconst 1, 1) := by decide +kernel
theorem d_L_length_14 : decode c_L_length 14 = .ok (.ireturn, 1) := by decide +kernel
theorem d_L_length_15 : decode c_L_length 15 = .ok (.iconst 0, 1) := by decide +kernel
theorem d_L_length_16 : decode c_L_length 16 = .ok (.ireturn, 1) := by decide +kernel
theorem d_L_at_0 : decode c_L_at 0 = .ok (.aload_n 3, 1) := by decide +kernel
theorem d_L_at_1 : decode c_L_at 1 = .ok (.iconst 0, 1) := by decide +kernel
theorem d_L_at_2 : decode c_L_at 2 = .ok (.aload_n 0, 1) := by decide +kernel
theorem d_L_at_3 : decode c_L_at 3 = .ok (.iload_n 1, 1) := by decide +kernel
theorem d_L_at_4 : decode c_L_at 4 = .ok (.iload_n 2, 1) := by decide +kernel
theorem d_L_at_5 : decode c_L_at 5 = .ok (.invokevirtual 35, 3) := by decide +kernel
theorem d_L_at_8 : decode c_L_at 8 = .ok (.i2l, 1) := by decide +kernel
theorem d_L_at_9 : decode c_L_at 9 = .ok (.lastore, 1) := by decide +kernel
theorem d_L_at_10 : decode c_L_at 10 = .ok (.goto 11, 3) := by decide +kernel
theorem d_L_at_13 : decode c_L_at 13 = .ok (.astore 4, 2) := by decide +kernel
theorem d_L_at_15 : decode c_L_at 15 = .ok (.iconst 1, 1) := by decide +kernel
theorem d_L_at_16 : decode c_L_at 16 = .ok (.ireturn, 1) := by decide +kernel
theorem d_L_at_17 : decode c_L_at 17 = .ok (.astore 4, 2) := by decide +kernel
theorem d_L_at_19 : decode c_L_at 19 = .ok (.iconst 2, 1) := by decide +kernel
theorem d_L_at_20 : decode c_L_at 20 = .ok (.ireturn, 1) := by decide +kernel
theorem d_L_at_21 : decode c_L_at 21 = .ok (.iconst 0, 1) := by decide +kernel
theorem d_L_at_22 : decode c_L_at 22 = .ok (.ireturn, 1) := by decide +kernel
theorem d_L_format_0 : decode c_L_format 0 = .ok (.aload_n 3, 1) := by decide +kernel
theorem d_L_format_1 : decode c_L_format 1 = .ok (.iconst 0, 1) := by decide +kernel
theorem d_L_format_2 : decode c_L_format 2 = .ok (.aload_n 0, 1) := by decide +kernel
theorem d_L_format_3 : decode c_L_format 3 = .ok (.iload_n 1, 1) := by decide +kernel
theorem d_L_format_4 : decode c_L_format 4 = .ok (.iload_n 2, 1) := by decide +kernel
theorem d_L_format_5 : decode c_L_format 5 = .ok (.invokevirtual 38, 3) := by decide +kernel
theorem d_L_format_8 : decode c_L_format 8 = .ok (.i2l, 1) := by decide +kernel
theorem d_L_format_9 : decode c_L_format 9 = .ok (.lastore, 1) := by decide +kernel
theorem d_L_format_10 : decode c_L_format 10 = .ok (.goto 11, 3) := by decide +kernel
theorem d_L_format_13 : decode c_L_format 13 = .ok (.astore 4, 2) := by decide +kernel
theorem d_L_format_15 : decode c_L_format 15 = .ok (.iconst 1, 1) := by decide +kernel
theorem d_L_format_16 : decode c_L_format 16 = .ok (.ireturn, 1) := by decide +kernel
theorem d_L_format_17 : decode c_L_format 17 = .ok (.astore 4, 2) := by decide +kernel
theorem d_L_format_19 : decode c_L_format 19 = .ok (.iconst 2, 1) := by decide +kernel
theorem d_L_format_20 : decode c_L_format 20 = .ok (.ireturn, 1) := by decide +kernel
theorem d_L_format_21 : decode c_L_format 21 = .ok (.iconst 0, 1) := by decide +kernel
theorem d_L_format_22 : decode c_L_format 22 = .ok (.ireturn, 1) := by decide +kernel
theorem d_L_id_0 : decode c_L_id 0 = .ok (.aload_n 3, 1) := by decide +kernel
theorem d_L_id_1 : decode c_L_id 1 = .ok (.iconst 0, 1) := by decide +kernel
theorem d_L_id_2 : decode c_L_id 2 = .ok (.aload_n 0, 1) := by decide +kernel
theorem d_L_id_3 : decode c_L_id 3 = .ok (.iload_n 1, 1) := by decide +kernel
theorem d_L_id_4 : decode c_L_id 4 = .ok (.iload_n 2, 1) := by decide +kernel
theorem d_L_id_5 : decode c_L_id 5 = .ok (.invokevirtual 42, 3) := by decide +kernel
theorem d_L_id_8 : decode c_L_id 8 = .ok (.i2l, 1) := by decide +kernel
theorem d_L_id_9 : decode c_L_id 9 = .ok (.lastore, 1) := by decide +kernel
theorem d_L_id_10 : decode c_L_id 10 = .ok (.goto 11, 3) := by decide +kernel
theorem d_L_id_13 : decode c_L_id 13 = .ok (.astore 4, 2) := by decide +kernel
theorem d_L_id_15 : decode c_L_id 15 = .ok (.iconst 1, 1) := by decide +kernel
theorem d_L_id_16 : decode c_L_id 16 = .ok (.ireturn, 1) := by decide +kernel
theorem d_L_id_17 : decode c_L_id 17 = .ok (.astore 4, 2) := by decide +kernel
theorem d_L_id_19 : decode c_L_id 19 = .ok (.iconst 2, 1) := by decide +kernel
theorem d_L_id_20 : decode c_L_id 20 = .ok (.ireturn, 1) := by decide +kernel
theorem d_L_id_21 : decode c_L_id 21 = .ok (.iconst 0, 1) := by decide +kernel
theorem d_L_id_22 : decode c_L_id 22 = .ok (.ireturn, 1) := by decide +kernel
theorem d_L_runs_0 : decode c_L_runs 0 = .ok (.aload_n 2, 1) := by decide +kernel
theorem d_L_runs_1 : decode c_L_runs 1 = .ok (.iconst 0, 1) := by decide +kernel
theorem d_L_runs_2 : decode c_L_runs 2 = .ok (.aload_n 0, 1) := by decide +kernel
theorem d_L_runs_3 : decode c_L_runs 3 = .ok (.iload_n 1, 1) := by decide +kernel
theorem d_L_runs_4 : decode c_L_runs 4 = .ok (.invokevirtual 45, 3) := by decide +kernel
theorem d_L_runs_7 : decode c_L_runs 7 = .ok (.i2l, 1) := by decide +kernel
theorem d_L_runs_8 : decode c_L_runs 8 = .ok (.lastore, 1) := by decide +kernel
theorem d_L_runs_9 : decode c_L_runs 9 = .ok (.goto 6, 3) := by decide +kernel
theorem d_L_runs_12 : decode c_L_runs 12 = .ok (.astore_n 3, 1) := by decide +kernel
theorem d_L_runs_13 : decode c_L_runs 13 = .ok (.iconst 1, 1) := by decide +kernel
theorem d_L_runs_14 : decode c_L_runs 14 = .ok (.ireturn, 1) := by decide +kernel
theorem d_L_runs_15 : decode c_L_runs 15 = .ok (.iconst 0, 1) := by decide +kernel
theorem d_L_runs_16 : decode c_L_runs 16 = .ok (.ireturn, 1) := by decide +kernel
theorem d_L_run_0 : decode c_L_run 0 = .ok (.aload 4, 2) := by decide +kernel
theorem d_L_run_2 : decode c_L_run 2 = .ok (.iconst 0, 1) := by decide +kernel
theorem d_L_run_3 : decode c_L_run 3 = .ok (.aload_n 0, 1) := by decide +kernel
theorem d_L_run_4 : decode c_L_run 4 = .ok (.iload_n 1, 1) := by decide +kernel
theorem d_L_run_5 : decode c_L_run 5 = .ok (.iload_n 2, 1) := by decide +kernel
theorem d_L_run_6 : decode c_L_run 6 = .ok (.iload_n 3, 1) := by decide +kernel
theorem d_L_run_7 : decode c_L_run 7 = .ok (.invokevirtual 48, 3) := by decide +kernel
theorem d_L_run_10 : decode c_L_run 10 = .ok (.i2l, 1) := by decide +kernel
theorem d_L_run_11 : decode c_L_run 11 = .ok (.lastore, 1) := by decide +kernel
theorem d_L_run_12 : decode c_L_run 12 = .ok (.goto 11, 3) := by decide +kernel
theorem d_L_run_15 : decode c_L_run 15 = .ok (.astore 5, 2) := by decide +kernel
theorem d_L_run_17 : decode c_L_run 17 = .ok (.iconst 1, 1) := by decide +kernel
theorem d_L_run_18 : decode c_L_run 18 = .ok (.ireturn, 1) := by decide +kernel
theorem d_L_run_19 : decode c_L_run 19 = .ok (.astore 5, 2) := by decide +kernel
theorem d_L_run_21 : decode c_L_run 21 = .ok (.iconst 2, 1) := by decide +kernel
theorem d_L_run_22 : decode c_L_run 22 = .ok (.ireturn, 1) := by decide +kernel
theorem d_L_run_23 : decode c_L_run 23 = .ok (.iconst 0, 1) := by decide +kernel
theorem d_L_run_24 : decode c_L_run 24 = .ok (.ireturn, 1) := by decide +kernel
theorem d_L_count_0 : decode c_L_count 0 = .ok (.aload_n 3, 1) := by decide +kernel
theorem d_L_count_1 : decode c_L_count 1 = .ok (.iconst 0, 1) := by decide +kernel
theorem d_L_count_2 : decode c_L_count 2 = .ok (.aload_n 0, 1) := by decide +kernel
theorem d_L_count_3 : decode c_L_count 3 = .ok (.iload_n 1, 1) := by decide +kernel
theorem d_L_count_4 : decode c_L_count 4 = .ok (.iload_n 2, 1) := by decide +kernel
theorem d_L_count_5 : decode c_L_count 5 = .ok (.invokevirtual 51, 3) := by decide +kernel
theorem d_L_count_8 : decode c_L_count 8 = .ok (.i2l, 1) := by decide +kernel
theorem d_L_count_9 : decode c_L_count 9 = .ok (.lastore, 1) := by decide +kernel
theorem d_L_count_10 : decode c_L_count 10 = .ok (.goto 7, 3) := by decide +kernel
theorem d_L_count_13 : decode c_L_count 13 = .ok (.astore 4, 2) := by decide +kernel
theorem d_L_count_15 : decode c_L_count 15 = .ok (.iconst 1, 1) := by decide +kernel
theorem d_L_count_16 : decode c_L_count 16 = .ok (.ireturn, 1) := by decide +kernel
theorem d_L_count_17 : decode c_L_count 17 = .ok (.iconst 0, 1) := by decide +kernel
theorem d_L_count_18 : decode c_L_count 18 = .ok (.ireturn, 1) := by decide +kernel
theorem d_L_alike_0 : decode c_L_alike 0 = .ok (.aload_n 3, 1) := by decide +kernel
theorem d_L_alike_1 : decode c_L_alike 1 = .ok (.iconst 0, 1) := by decide +kernel
theorem d_L_alike_2 : decode c_L_alike 2 = .ok (.aload_n 0, 1) := by decide +kernel
theorem d_L_alike_3 : decode c_L_alike 3 = .ok (.iload_n 1, 1) := by decide +kernel
theorem d_L_alike_4 : decode c_L_alike 4 = .ok (.iload_n 2, 1) := by decide +kernel
theorem d_L_alike_5 : decode c_L_alike 5 = .ok (.invokevirtual 54, 3) := by decide +kernel
theorem d_L_alike_8 : decode c_L_alike 8 = .ok (.ifCond .eq 7, 3) := by decide +kernel
theorem d_L_alike_11 : decode c_L_alike 11 = .ok (.lconst 1, 1) := by decide +kernel
theorem d_L_alike_12 : decode c_L_alike 12 = .ok (.goto 4, 3) := by decide +kernel
theorem d_L_alike_15 : decode c_L_alike 15 = .ok (.lconst 0, 1) := by decide +kernel
theorem d_L_alike_16 : decode c_L_alike 16 = .ok (.lastore, 1) := by decide +kernel
theorem d_L_alike_17 : decode c_L_alike 17 = .ok (.goto 7, 3) := by decide +kernel
theorem d_L_alike_20 : decode c_L_alike 20 = .ok (.astore 4, 2) := by decide +kernel
theorem d_L_alike_22 : decode c_L_alike 22 = .ok (.iconst 1, 1) := by decide +kernel
theorem d_L_alike_23 : decode c_L_alike 23 = .ok (.ireturn, 1) := by decide +kernel
theorem d_L_alike_24 : decode c_L_alike 24 = .ok (.iconst 0, 1) := by decide +kernel
theorem d_L_alike_25 : decode c_L_alike 25 = .ok (.ireturn, 1) := by decide +kernel
theorem d_L_law_0 : decode c_L_law 0 = .ok (.new 8, 3) := by decide +kernel
theorem d_L_law_3 : decode c_L_law 3 = .ok (.dup, 1) := by decide +kernel
theorem d_L_law_4 : decode c_L_law 4 = .ok (.invokespecial 58, 3) := by decide +kernel
theorem d_L_law_7 : decode c_L_law 7 = .ok (.astore_n 1, 1) := by decide +kernel
theorem d_L_law_8 : decode c_L_law 8 = .ok (.new 59, 3) := by decide +kernel
theorem d_L_law_11 : decode c_L_law 11 = .ok (.dup, 1) := by decide +kernel
theorem d_L_law_12 : decode c_L_law 12 = .ok (.invokespecial 61, 3) := by decide +kernel
theorem d_L_law_15 : decode c_L_law 15 = .ok (.astore_n 2, 1) := by decide +kernel
theorem d_L_law_16 : decode c_L_law 16 = .ok (.iconst 1, 1) := by decide +kernel
theorem d_L_law_17 : decode c_L_law 17 = .ok (.newarray .long, 2) := by decide +kernel
theorem d_L_law_19 : decode c_L_law 19 = .ok (.astore_n 3, 1) := by decide +kernel
theorem d_L_law_20 : decode c_L_law 20 = .ok (.iconst 0, 1) := by decide +kernel
theorem d_L_law_21 : decode c_L_law 21 = .ok (.istore 4, 2) := by decide +kernel
theorem d_L_law_23 : decode c_L_law 23 = .ok (.iload 4, 2) := by decide +kernel
theorem d_L_law_25 : decode c_L_law 25 = .ok (.aload_n 0, 1) := by decide +kernel
theorem d_L_law_26 : decode c_L_law 26 = .ok (.arraylength, 1) := by decide +kernel
theorem d_L_law_27 : decode c_L_law 27 = .ok (.iconst 5, 1) := by decide +kernel
theorem d_L_law_28 : decode c_L_law 28 = .ok (.isub, 1) := by decide +kernel
theorem d_L_law_29 : decode c_L_law 29 = .ok (.if_icmp .gt 938, 3) := by decide +kernel
theorem d_L_law_32 : decode c_L_law 32 = .ok (.aload_n 0, 1) := by decide +kernel
theorem d_L_law_33 : decode c_L_law 33 = .ok (.iload 4, 2) := by decide +kernel
theorem d_L_law_35 : decode c_L_law 35 = .ok (.iaload, 1) := by decide +kernel
theorem d_L_law_36 : decode c_L_law 36 = .ok (.bipush 15, 2) := by decide +kernel
theorem d_L_law_38 : decode c_L_law 38 = .ok (.iand, 1) := by decide +kernel
theorem d_L_law_39 : decode c_L_law 39 = .ok (.tableswitch 922 0 11 #[61, 143, 211, 303, 383, 439, 507, 575, 643, 699, 779, 847], 61) := by decide +kernel
theorem d_L_law_100 : decode c_L_law 100 = .ok (.aload_n 1, 1) := by decide +kernel
theorem d_L_law_101 : decode c_L_law 101 = .ok (.aload_n 0, 1) := by decide +kernel
theorem d_L_law_102 : decode c_L_law 102 = .ok (.iload 4, 2) := by decide +kernel
theorem d_L_law_104 : decode c_L_law 104 = .ok (.iconst 1, 1) := by decide +kernel
theorem d_L_law_105 : decode c_L_law 105 = .ok (.iadd, 1) := by decide +kernel
theorem d_L_law_106 : decode c_L_law 106 = .ok (.iaload, 1) := by decide +kernel
theorem d_L_law_107 : decode c_L_law 107 = .ok (.aload_n 0, 1) := by decide +kernel
theorem d_L_law_108 : decode c_L_law 108 = .ok (.iload 4, 2) := by decide +kernel
theorem d_L_law_110 : decode c_L_law 110 = .ok (.iconst 2, 1) := by decide +kernel
theorem d_L_law_111 : decode c_L_law 111 = .ok (.iadd, 1) := by decide +kernel
theorem d_L_law_112 : decode c_L_law 112 = .ok (.iaload, 1) := by decide +kernel
theorem d_L_law_113 : decode c_L_law 113 = .ok (.aload_n 0, 1) := by decide +kernel
theorem d_L_law_114 : decode c_L_law 114 = .ok (.iload 4, 2) := by decide +kernel
theorem d_L_law_116 : decode c_L_law 116 = .ok (.iconst 3, 1) := by decide +kernel
theorem d_L_law_117 : decode c_L_law 117 = .ok (.iadd, 1) := by decide +kernel
theorem d_L_law_118 : decode c_L_law 118 = .ok (.iaload, 1) := by decide +kernel
theorem d_L_law_119 : decode c_L_law 119 = .ok (.i2c, 1) := by decide +kernel
theorem d_L_law_120 : decode c_L_law 120 = .ok (.aload_n 3, 1) := by decide +kernel
theorem d_L_law_121 : decode c_L_law 121 = .ok (.invokestatic 62, 3) := by decide +kernel
theorem d_L_law_124 : decode c_L_law 124 = .ok (.istore 5, 2) := by decide +kernel
theorem d_L_law_126 : decode c_L_law 126 = .ok (.aload_n 2, 1) := by decide +kernel
theorem d_L_law_127 : decode c_L_law 127 = .ok (.aload_n 0, 1) := by decide +kernel
theorem d_L_law_128 : decode c_L_law 128 = .ok (.iload 4, 2) := by decide +kernel
theorem d_L_law_130 : decode c_L_law 130 = .ok (.iconst 1, 1) := by decide +kernel
theorem d_L_law_131 : decode c_L_law 131 = .ok (.iadd, 1) := by decide +kernel
theorem d_L_law_132 : decode c_L_law 132 = .ok (.iaload, 1) := by decide +kernel
theorem d_L_law_133 : decode c_L_law 133 = .ok (.aload_n 0, 1) := by decide +kernel
theorem d_L_law_134 : decode c_L_law 134 = .ok (.iload 4, 2) := by decide +kernel
theorem d_L_law_136 : decode c_L_law 136 = .ok (.iconst 2, 1) := by decide +kernel
theorem d_L_law_137 : decode c_L_law 137 = .ok (.iadd, 1) := by decide +kernel
theorem d_L_law_138 : decode c_L_law 138 = .ok (.iaload, 1) := by decide +kernel
theorem d_L_law_139 : decode c_L_law 139 = .ok (.aload_n 0, 1) := by decide +kernel
theorem d_L_law_140 : decode c_L_law 140 = .ok (.iload 4, 2) := by decide +kernel
theorem d_L_law_142 : decode c_L_law 142 = .ok (.iconst 3, 1) := by decide +kernel
theorem d_L_law_143 : decode c_L_law 143 = .ok (.iadd, 1) := by decide +kernel
theorem d_L_law_144 : decode c_L_law 144 = .ok (.iaload, 1) := by decide +kernel
theorem d_L_law_145 : decode c_L_law 145 = .ok (.i2c, 1) := by decide +kernel
theorem d_L_law_146 : decode c_L_law 146 = .ok (.invokevirtual 67, 3) := by decide +kernel
theorem d_L_law_149 : decode c_L_law 149 = .ok (.istore 6, 2) := by decide +kernel
theorem d_L_law_151 : decode c_L_law 151 = .ok (.aload_n 2, 1) := by decide +kernel
theorem d_L_law_152 : decode c_L_law 152 = .ok (.invokevirtual 68, 3) := by decide +kernel
theorem d_L_law_155 : decode c_L_law 155 = .ok (.iload 5, 2) := by decide +kernel
theorem d_L_law_157 : decode c_L_law 157 = .ok (.if_icmp .eq 5, 3) := by decide +kernel
theorem d_L_law_160 : decode c_L_law 160 = .ok (.iconst 0, 1) := by decide +kernel
theorem d_L_law_161 : decode c_L_law 161 = .ok (.ireturn, 1) := by decide +kernel
theorem d_L_law_162 : decode c_L_law 162 = .ok (.iload 5, 2) := by decide +kernel
theorem d_L_law_164 : decode c_L_law 164 = .ok (.ifCond .ne 15, 3) := by decide +kernel
theorem d_L_law_167 : decode c_L_law 167 = .ok (.aload_n 3, 1) := by decide +kernel
theorem d_L_law_168 : decode c_L_law 168 = .ok (.iconst 0, 1) := by decide +kernel
theorem d_L_law_169 : decode c_L_law 169 = .ok (.laload, 1) := by decide +kernel
theorem d_L_law_170 : decode c_L_law 170 = .ok (.iload 6, 2) := by decide +kernel
theorem d_L_law_172 : decode c_L_law 172 = .ok (.i2l, 1) := by decide +kernel
theorem d_L_law_173 : decode c_L_law 173 = .ok (.lcmp, 1) := by decide +kernel
theorem d_L_law_174 : decode c_L_law 174 = .ok (.ifCond .eq 5, 3) := by decide +kernel
theorem d_L_law_177 : decode c_L_law 177 = .ok (.iconst 0, 1) := by decide +kernel
theorem d_L_law_178 : decode c_L_law 178 = .ok (.ireturn, 1) := by decide +kernel
theorem d_L_law_179 : decode c_L_law 179 = .ok (.goto 782, 3) := by decide +kernel
theorem d_L_law_182 : decode c_L_law 182 = .ok (.aload_n 1, 1) := by decide +kernel
theorem d_L_law_183 : decode c_L_law 183 = .ok (.aload_n 0, 1) := by decide +kernel
theorem d_L_law_184 : decode c_L_law 184 = .ok (.iload 4, 2) := by decide +kernel
theorem d_L_law_186 : decode c_L_law 186 = .ok (.iconst 1, 1) := by decide +kernel
theorem d_L_law_187 : decode c_L_law 187 = .ok (.iadd, 1) := by decide +kernel
theorem d_L_law_188 : decode c_L_law 188 = .ok (.iaload, 1) := by decide +kernel
theorem d_L_law_189 : decode c_L_law 189 = .ok (.aload_n 0, 1) := by decide +kernel
theorem d_L_law_190 : decode c_L_law 190 = .ok (.iload 4, 2) := by decide +kernel
theorem d_L_law_192 : decode c_L_law 192 = .ok (.iconst 2, 1) := by decide +kernel
theorem d_L_law_193 : decode c_L_law 193 = .ok (.iadd, 1) := by decide +kernel
theorem d_L_law_194 : decode c_L_law 194 = .ok (.iaload, 1) := by decide +kernel
theorem d_L_law_195 : decode c_L_law 195 = .ok (.aload_n 3, 1) := by decide +kernel
theorem d_L_law_196 : decode c_L_law 196 = .ok (.invokestatic 72, 3) := by decide +kernel
theorem d_L_law_199 : decode c_L_law 199 = .ok (.istore 5, 2) := by decide +kernel
theorem d_L_law_201 : decode c_L_law 201 = .ok (.aload_n 2, 1) := by decide +kernel
theorem d_L_law_202 : decode c_L_law 202 = .ok (.aload_n 0, 1) := by decide +kernel
theorem d_L_law_203 : decode c_L_law 203 = .ok (.iload 4, 2) := by decide +kernel
theorem d_L_law_205 : decode c_L_law 205 = .ok (.iconst 1, 1) := by decide +kernel
theorem d_L_law_206 : decode c_L_law 206 = .ok (.iadd, 1) := by decide +kernel
theorem d_L_law_207 : decode c_L_law 207 = .ok (.iaload, 1) := by decide +kernel
theorem d_L_law_208 : decode c_L_law 208 = .ok (.aload_n 0, 1) := by decide +kernel
theorem d_L_law_209 : decode c_L_law 209 = .ok (.iload 4, 2) := by decide +kernel
theorem d_L_law_211 : decode c_L_law 211 = .ok (.iconst 2, 1) := by decide +kernel
theorem d_L_law_212 : decode c_L_law 212 = .ok (.iadd, 1) := by decide +kernel
theorem d_L_law_213 : decode c_L_law 213 = .ok (.iaload, 1) := by decide +kernel
theorem d_L_law_214 : decode c_L_law 214 = .ok (.invokevirtual 75, 3) := by decide +kernel
theorem d_L_law_217 : decode c_L_law 217 = .ok (.istore 6, 2) := by decide +kernel
theorem d_L_law_219 : decode c_L_law 219 = .ok (.aload_n 2, 1) := by decide +kernel
theorem d_L_law_220 : decode c_L_law 220 = .ok (.invokevirtual 68, 3) := by decide +kernel
theorem d_L_law_223 : decode c_L_law 223 = .ok (.iload 5, 2) := by decide +kernel
theorem d_L_law_225 : decode c_L_law 225 = .ok (.if_icmp .eq 5, 3) := by decide +kernel
theorem d_L_law_228 : decode c_L_law 228 = .ok (.iconst 0, 1) := by decide +kernel
theorem d_L_law_229 : decode c_L_law 229 = .ok (.ireturn, 1) := by decide +kernel
theorem d_L_law_230 : decode c_L_law 230 = .ok (.iload 5, 2) := by decide +kernel
theorem d_L_law_232 : decode c_L_law 232 = .ok (.ifCond .ne 15, 3) := by decide +kernel
theorem d_L_law_235 : decode c_L_law 235 = .ok (.aload_n 3, 1) := by decide +kernel
theorem d_L_law_236 : decode c_L_law 236 = .ok (.iconst 0, 1) := by decide +kernel
theorem d_L_law_237 : decode c_L_law 237 = .ok (.laload, 1) := by decide +kernel
theorem d_L_law_238 : decode c_L_law 238 = .ok (.iload 6, 2) := by decide +kernel
theorem d_L_law_240 : decode c_L_law 240 = .ok (.i2l, 1) := by decide +kernel
theorem d_L_law_241 : decode c_L_law 241 = .ok (.lcmp, 1) := by decide +kernel
theorem d_L_law_242 : decode c_L_law 242 = .ok (.ifCond .eq 5, 3) := by decide +kernel
theorem d_L_law_245 : decode c_L_law 245 = .ok (.iconst 0, 1) := by decide +kernel
theorem d_L_law_246 : decode c_L_law 246 = .ok (.ireturn, 1) := by decide +kernel
theorem d_L_law_247 : decode c_L_law 247 = .ok (.goto 714, 3) := by decide +kernel
theorem d_L_law_250 : decode c_L_law 250 = .ok (.aload_n 1, 1) := by decide +kernel
theorem d_L_law_251 : decode c_L_law 251 = .ok (.aload_n 0, 1) := by decide +kernel
theorem d_L_law_252 : decode c_L_law 252 = .ok (.iload 4, 2) := by decide +kernel
theorem d_L_law_254 : decode c_L_law 254 = .ok (.iconst 1, 1) := by decide +kernel
theorem d_L_law_255 : decode c_L_law 255 = .ok (.iadd, 1) := by decide +kernel
theorem d_L_law_256 : decode c_L_law 256 = .ok (.iaload, 1) := by decide +kernel
theorem d_L_law_257 : decode c_L_law 257 = .ok (.aload_n 0, 1) := by decide +kernel
theorem d_L_law_258 : decode c_L_law 258 = .ok (.iload 4, 2) := by decide +kernel
theorem d_L_law_260 : decode c_L_law 260 = .ok (.iconst 2, 1) := by decide +kernel
theorem d_L_law_261 : decode c_L_law 261 = .ok (.iadd, 1) := by decide +kernel
theorem d_L_law_262 : decode c_L_law 262 = .ok (.iaload, 1) := by decide +kernel
theorem d_L_law_263 : decode c_L_law 263 = .ok (.aload_n 0, 1) := by decide +kernel
theorem d_L_law_264 : decode c_L_law 264 = .ok (.iload 4, 2) := by decide +kernel
theorem d_L_law_266 : decode c_L_law 266 = .ok (.iconst 3, 1) := by decide +kernel
theorem d_L_law_267 : decode c_L_law 267 = .ok (.iadd, 1) := by decide +kernel
theorem d_L_law_268 : decode c_L_law 268 = .ok (.iaload, 1) := by decide +kernel
theorem d_L_law_269 : decode c_L_law 269 = .ok (.aload_n 0, 1) := by decide +kernel
theorem d_L_law_270 : decode c_L_law 270 = .ok (.iload 4, 2) := by decide +kernel
theorem d_L_law_272 : decode c_L_law 272 = .ok (.iconst 4, 1) := by decide +kernel
theorem d_L_law_273 : decode c_L_law 273 = .ok (.iadd, 1) := by decide +kernel
theorem d_L_law_274 : decode c_L_law 274 = .ok (.iaload, 1) := by decide +kernel
theorem d_L_law_275 : decode c_L_law 275 = .ok (.aload_n 3, 1) := by decide +kernel
theorem d_L_law_276 : decode c_L_law 276 = .ok (.invokestatic 76, 3) := by decide +kernel
theorem d_L_law_279 : decode c_L_law 279 = .ok (.istore 5, 2) := by decide +kernel
theorem d_L_law_281 : decode c_L_law 281 = .ok (.aload_n 2, 1) := by decide +kernel
theorem d_L_law_282 : decode c_L_law 282 = .ok (.aload_n 0, 1) := by decide +kernel
theorem d_L_law_283 : decode c_L_law 283 = .ok (.iload 4, 2) := by decide +kernel
theorem d_L_law_285 : decode c_L_law 285 = .ok (.iconst 1, 1) := by decide +kernel
theorem d_L_law_286 : decode c_L_law 286 = .ok (.iadd, 1) := by decide +kernel
theorem d_L_law_287 : decode c_L_law 287 = .ok (.iaload, 1) := by decide +kernel
theorem d_L_law_288 : decode c_L_law 288 = .ok (.aload_n 0, 1) := by decide +kernel
theorem d_L_law_289 : decode c_L_law 289 = .ok (.iload 4, 2) := by decide +kernel
theorem d_L_law_291 : decode c_L_law 291 = .ok (.iconst 2, 1) := by decide +kernel
theorem d_L_law_292 : decode c_L_law 292 = .ok (.iadd, 1) := by decide +kernel
theorem d_L_law_293 : decode c_L_law 293 = .ok (.iaload, 1) := by decide +kernel
theorem d_L_law_294 : decode c_L_law 294 = .ok (.aload_n 0, 1) := by decide +kernel
theorem d_L_law_295 : decode c_L_law 295 = .ok (.iload 4, 2) := by decide +kernel
theorem d_L_law_297 : decode c_L_law 297 = .ok (.iconst 3, 1) := by decide +kernel
theorem d_L_law_298 : decode c_L_law 298 = .ok (.iadd, 1) := by decide +kernel
theorem d_L_law_299 : decode c_L_law 299 = .ok (.iaload, 1) := by decide +kernel
theorem d_L_law_300 : decode c_L_law 300 = .ok (.aload_n 0, 1) := by decide +kernel
theorem d_L_law_301 : decode c_L_law 301 = .ok (.iload 4, 2) := by decide +kernel
theorem d_L_law_303 : decode c_L_law 303 = .ok (.iconst 4, 1) := by decide +kernel
theorem d_L_law_304 : decode c_L_law 304 = .ok (.iadd, 1) := by decide +kernel
theorem d_L_law_305 : decode c_L_law 305 = .ok (.iaload, 1) := by decide +kernel
theorem d_L_law_306 : decode c_L_law 306 = .ok (.invokevirtual 79, 3) := by decide +kernel
theorem d_L_law_309 : decode c_L_law 309 = .ok (.istore 6, 2) := by decide +kernel
theorem d_L_law_311 : decode c_L_law 311 = .ok (.aload_n 2, 1) := by decide +kernel
theorem d_L_law_312 : decode c_L_law 312 = .ok (.invokevirtual 68, 3) := by decide +kernel
theorem d_L_law_315 : decode c_L_law 315 = .ok (.iload 5, 2) := by decide +kernel
theorem d_L_law_317 : decode c_L_law 317 = .ok (.if_icmp .eq 5, 3) := by decide +kernel
theorem d_L_law_320 : decode c_L_law 320 = .ok (.iconst 0, 1) := by decide +kernel
theorem d_L_law_321 : decode c_L_law 321 = .ok (.ireturn, 1) := by decide +kernel
theorem d_L_law_322 : decode c_L_law 322 = .ok (.iload 5, 2) := by decide +kernel
theorem d_L_law_324 : decode c_L_law 324 = .ok (.ifCond .ne 15, 3) := by decide +kernel
theorem d_L_law_327 : decode c_L_law 327 = .ok (.aload_n 3, 1) := by decide +kernel
theorem d_L_law_328 : decode c_L_law 328 = .ok (.iconst 0, 1) := by decide +kernel
theorem d_L_law_329 : decode c_L_law 329 = .ok (.laload, 1) := by decide +kernel
theorem d_L_law_330 : decode c_L_law 330 = .ok (.iload 6, 2) := by decide +kernel
theorem d_L_law_332 : decode c_L_law 332 = .ok (.i2l, 1) := by decide +kernel
theorem d_L_law_333 : decode c_L_law 333 = .ok (.lcmp, 1) := by decide +kernel
theorem d_L_law_334 : decode c_L_law 334 = .ok (.ifCond .eq 5, 3) := by decide +kernel
theorem d_L_law_337 : decode c_L_law 337 = .ok (.iconst 0, 1) := by decide +kernel
theorem d_L_law_338 : decode c_L_law 338 = .ok (.ireturn, 1) := by decide +kernel
theorem d_L_law_339 : decode c_L_law 339 = .ok (.goto 622, 3) := by decide +kernel
theorem d_L_law_342 : decode c_L_law 342 = .ok (.aload_n 1, 1) := by decide +kernel
theorem d_L_law_343 : decode c_L_law 343 = .ok (.aload_n 0, 1) := by decide +kernel
theorem d_L_law_344 : decode c_L_law 344 = .ok (.iload 4, 2) := by decide +kernel
theorem d_L_law_346 : decode c_L_law 346 = .ok (.iconst 1, 1) := by decide +kernel
theorem d_L_law_347 : decode c_L_law 347 = .ok (.iadd, 1) := by decide +kernel
theorem d_L_law_348 : decode c_L_law 348 = .ok (.iaload, 1) := by decide +kernel
theorem d_L_law_349 : decode c_L_law 349 = .ok (.aload_n 0, 1) := by decide +kernel
theorem d_L_law_350 : decode c_L_law 350 = .ok (.iload 4, 2) := by decide +kernel
theorem d_L_law_352 : decode c_L_law 352 = .ok (.iconst 2, 1) := by decide +kernel
theorem d_L_law_353 : decode c_L_law 353 = .ok (.iadd, 1) := by decide +kernel
theorem d_L_law_354 : decode c_L_law 354 = .ok (.iaload, 1) := by decide +kernel
theorem d_L_law_355 : decode c_L_law 355 = .ok (.aload_n 0, 1) := by decide +kernel
theorem d_L_law_356 : decode c_L_law 356 = .ok (.iload 4, 2) := by decide +kernel
theorem d_L_law_358 : decode c_L_law 358 = .ok (.iconst 3, 1) := by decide +kernel
theorem d_L_law_359 : decode c_L_law 359 = .ok (.iadd, 1) := by decide +kernel
theorem d_L_law_360 : decode c_L_law 360 = .ok (.iaload, 1) := by decide +kernel
theorem d_L_law_361 : decode c_L_law 361 = .ok (.aload_n 3, 1) := by decide +kernel
theorem d_L_law_362 : decode c_L_law 362 = .ok (.invokestatic 80, 3) := by decide +kernel
theorem d_L_law_365 : decode c_L_law 365 = .ok (.istore 5, 2) := by decide +kernel
theorem d_L_law_367 : decode c_L_law 367 = .ok (.aload_n 2, 1) := by decide +kernel
theorem d_L_law_368 : decode c_L_law 368 = .ok (.aload_n 0, 1) := by decide +kernel
theorem d_L_law_369 : decode c_L_law 369 = .ok (.iload 4, 2) := by decide +kernel
theorem d_L_law_371 : decode c_L_law 371 = .ok (.iconst 1, 1) := by decide +kernel
theorem d_L_law_372 : decode c_L_law 372 = .ok (.iadd, 1) := by decide +kernel
theorem d_L_law_373 : decode c_L_law 373 = .ok (.iaload, 1) := by decide +kernel
theorem d_L_law_374 : decode c_L_law 374 = .ok (.aload_n 0, 1) := by decide +kernel
theorem d_L_law_375 : decode c_L_law 375 = .ok (.iload 4, 2) := by decide +kernel
theorem d_L_law_377 : decode c_L_law 377 = .ok (.iconst 2, 1) := by decide +kernel
theorem d_L_law_378 : decode c_L_law 378 = .ok (.iadd, 1) := by decide +kernel
theorem d_L_law_379 : decode c_L_law 379 = .ok (.iaload, 1) := by decide +kernel
theorem d_L_law_380 : decode c_L_law 380 = .ok (.aload_n 0, 1) := by decide +kernel
theorem d_L_law_381 : decode c_L_law 381 = .ok (.iload 4, 2) := by decide +kernel
theorem d_L_law_383 : decode c_L_law 383 = .ok (.iconst 3, 1) := by decide +kernel
theorem d_L_law_384 : decode c_L_law 384 = .ok (.iadd, 1) := by decide +kernel
theorem d_L_law_385 : decode c_L_law 385 = .ok (.iaload, 1) := by decide +kernel
theorem d_L_law_386 : decode c_L_law 386 = .ok (.invokevirtual 83, 3) := by decide +kernel
theorem d_L_law_389 : decode c_L_law 389 = .ok (.istore 6, 2) := by decide +kernel
theorem d_L_law_391 : decode c_L_law 391 = .ok (.aload_n 2, 1) := by decide +kernel
theorem d_L_law_392 : decode c_L_law 392 = .ok (.invokevirtual 68, 3) := by decide +kernel
theorem d_L_law_395 : decode c_L_law 395 = .ok (.iload 5, 2) := by decide +kernel
theorem d_L_law_397 : decode c_L_law 397 = .ok (.if_icmp .eq 5, 3) := by decide +kernel
theorem d_L_law_400 : decode c_L_law 400 = .ok (.iconst 0, 1) := by decide +kernel
theorem d_L_law_401 : decode c_L_law 401 = .ok (.ireturn, 1) := by decide +kernel
theorem d_L_law_402 : decode c_L_law 402 = .ok (.iload 5, 2) := by decide +kernel
theorem d_L_law_404 : decode c_L_law 404 = .ok (.ifCond .ne 15, 3) := by decide +kernel
theorem d_L_law_407 : decode c_L_law 407 = .ok (.aload_n 3, 1) := by decide +kernel
theorem d_L_law_408 : decode c_L_law 408 = .ok (.iconst 0, 1) := by decide +kernel
theorem d_L_law_409 : decode c_L_law 409 = .ok (.laload, 1) := by decide +kernel
theorem d_L_law_410 : decode c_L_law 410 = .ok (.iload 6, 2) := by decide +kernel
theorem d_L_law_412 : decode c_L_law 412 = .ok (.i2l, 1) := by decide +kernel
theorem d_L_law_413 : decode c_L_law 413 = .ok (.lcmp, 1) := by decide +kernel
theorem d_L_law_414 : decode c_L_law 414 = .ok (.ifCond .eq 5, 3) := by decide +kernel
theorem d_L_law_417 : decode c_L_law 417 = .ok (.iconst 0, 1) := by decide +kernel
theorem d_L_law_418 : decode c_L_law 418 = .ok (.ireturn, 1) := by decide +kernel
theorem d_L_law_419 : decode c_L_law 419 = .ok (.goto 542, 3) := by decide +kernel
theorem d_L_law_422 : decode c_L_law 422 = .ok (.aload_n 1, 1) := by decide +kernel
theorem d_L_law_423 : decode c_L_law 423 = .ok (.aload_n 0, 1) := by decide +kernel
theorem d_L_law_424 : decode c_L_law 424 = .ok (.iload 4, 2) := by decide +kernel
theorem d_L_law_426 : decode c_L_law 426 = .ok (.iconst 1, 1) := by decide +kernel
theorem d_L_law_427 : decode c_L_law 427 = .ok (.iadd, 1) := by decide +kernel
theorem d_L_law_428 : decode c_L_law 428 = .ok (.iaload, 1) := by decide +kernel
theorem d_L_law_429 : decode c_L_law 429 = .ok (.aload_n 3, 1) := by decide +kernel
theorem d_L_law_430 : decode c_L_law 430 = .ok (.invokestatic 84, 3) := by decide +kernel
theorem d_L_law_433 : decode c_L_law 433 = .ok (.istore 5, 2) := by decide +kernel
theorem d_L_law_435 : decode c_L_law 435 = .ok (.aload_n 2, 1) := by decide +kernel
theorem d_L_law_436 : decode c_L_law 436 = .ok (.aload_n 0, 1) := by decide +kernel
theorem d_L_law_437 : decode c_L_law 437 = .ok (.iload 4, 2) := by decide +kernel
theorem d_L_law_439 : decode c_L_law 439 = .ok (.iconst 1, 1) := by decide +kernel
theorem d_L_law_440 : decode c_L_law 440 = .ok (.iadd, 1) := by decide +kernel
theorem d_L_law_441 : decode c_L_law 441 = .ok (.iaload, 1) := by decide +kernel
theorem d_L_law_442 : decode c_L_law 442 = .ok (.invokevirtual 87, 3) := by decide +kernel
theorem d_L_law_445 : decode c_L_law 445 = .ok (.istore 6, 2) := by decide +kernel
theorem d_L_law_447 : decode c_L_law 447 = .ok (.aload_n 2, 1) := by decide +kernel
theorem d_L_law_448 : decode c_L_law 448 = .ok (.invokevirtual 68, 3) := by decide +kernel
theorem d_L_law_451 : decode c_L_law 451 = .ok (.iload 5, 2) := by decide +kernel
theorem d_L_law_453 : decode c_L_law 453 = .ok (.if_icmp .eq 5, 3) := by decide +kernel
theorem d_L_law_456 : decode c_L_law 456 = .ok (.iconst 0, 1) := by decide +kernel
theorem d_L_law_457 : decode c_L_law 457 = .ok (.ireturn, 1) := by decide +kernel
theorem d_L_law_458 : decode c_L_law 458 = .ok (.iload 5, 2) := by decide +kernel
theorem d_L_law_460 : decode c_L_law 460 = .ok (.ifCond .ne 15, 3) := by decide +kernel
theorem d_L_law_463 : decode c_L_law 463 = .ok (.aload_n 3, 1) := by decide +kernel
theorem d_L_law_464 : decode c_L_law 464 = .ok (.iconst 0, 1) := by decide +kernel
theorem d_L_law_465 : decode c_L_law 465 = .ok (.laload, 1) := by decide +kernel
theorem d_L_law_466 : decode c_L_law 466 = .ok (.iload 6, 2) := by decide +kernel
theorem d_L_law_468 : decode c_L_law 468 = .ok (.i2l, 1) := by decide +kernel
theorem d_L_law_469 : decode c_L_law 469 = .ok (.lcmp, 1) := by decide +kernel
theorem d_L_law_470 : decode c_L_law 470 = .ok (.ifCond .eq 5, 3) := by decide +kernel
theorem d_L_law_473 : decode c_L_law 473 = .ok (.iconst 0, 1) := by decide +kernel
theorem d_L_law_474 : decode c_L_law 474 = .ok (.ireturn, 1) := by decide +kernel
theorem d_L_law_475 : decode c_L_law 475 = .ok (.goto 486, 3) := by decide +kernel
theorem d_L_law_478 : decode c_L_law 478 = .ok (.aload_n 1, 1) := by decide +kernel
theorem d_L_law_479 : decode c_L_law 479 = .ok (.aload_n 0, 1) := by decide +kernel
theorem d_L_law_480 : decode c_L_law 480 = .ok (.iload 4, 2) := by decide +kernel
theorem d_L_law_482 : decode c_L_law 482 = .ok (.iconst 1, 1) := by decide +kernel
theorem d_L_law_483 : decode c_L_law 483 = .ok (.iadd, 1) := by decide +kernel
theorem d_L_law_484 : decode c_L_law 484 = .ok (.iaload, 1) := by decide +kernel
theorem d_L_law_485 : decode c_L_law 485 = .ok (.aload_n 0, 1) := by decide +kernel
theorem d_L_law_486 : decode c_L_law 486 = .ok (.iload 4, 2) := by decide +kernel
theorem d_L_law_488 : decode c_L_law 488 = .ok (.iconst 2, 1) := by decide +kernel
theorem d_L_law_489 : decode c_L_law 489 = .ok (.iadd, 1) := by decide +kernel
theorem d_L_law_490 : decode c_L_law 490 = .ok (.iaload, 1) := by decide +kernel
theorem d_L_law_491 : decode c_L_law 491 = .ok (.aload_n 3, 1) := by decide +kernel
theorem d_L_law_492 : decode c_L_law 492 = .ok (.invokestatic 88, 3) := by decide +kernel
theorem d_L_law_495 : decode c_L_law 495 = .ok (.istore 5, 2) := by decide +kernel
theorem d_L_law_497 : decode c_L_law 497 = .ok (.aload_n 2, 1) := by decide +kernel
theorem d_L_law_498 : decode c_L_law 498 = .ok (.aload_n 0, 1) := by decide +kernel
theorem d_L_law_499 : decode c_L_law 499 = .ok (.iload 4, 2) := by decide +kernel
theorem d_L_law_501 : decode c_L_law 501 = .ok (.iconst 1, 1) := by decide +kernel
theorem d_L_law_502 : decode c_L_law 502 = .ok (.iadd, 1) := by decide +kernel
theorem d_L_law_503 : decode c_L_law 503 = .ok (.iaload, 1) := by decide +kernel
theorem d_L_law_504 : decode c_L_law 504 = .ok (.aload_n 0, 1) := by decide +kernel
theorem d_L_law_505 : decode c_L_law 505 = .ok (.iload 4, 2) := by decide +kernel
theorem d_L_law_507 : decode c_L_law 507 = .ok (.iconst 2, 1) := by decide +kernel
theorem d_L_law_508 : decode c_L_law 508 = .ok (.iadd, 1) := by decide +kernel
theorem d_L_law_509 : decode c_L_law 509 = .ok (.iaload, 1) := by decide +kernel
theorem d_L_law_510 : decode c_L_law 510 = .ok (.invokevirtual 90, 3) := by decide +kernel
theorem d_L_law_513 : decode c_L_law 513 = .ok (.istore 6, 2) := by decide +kernel
theorem d_L_law_515 : decode c_L_law 515 = .ok (.aload_n 2, 1) := by decide +kernel
theorem d_L_law_516 : decode c_L_law 516 = .ok (.invokevirtual 68, 3) := by decide +kernel
theorem d_L_law_519 : decode c_L_law 519 = .ok (.iload 5, 2) := by decide +kernel
theorem d_L_law_521 : decode c_L_law 521 = .ok (.if_icmp .eq 5, 3) := by decide +kernel
theorem d_L_law_524 : decode c_L_law 524 = .ok (.iconst 0, 1) := by decide +kernel
theorem d_L_law_525 : decode c_L_law 525 = .ok (.ireturn, 1) := by decide +kernel
theorem d_L_law_526 : decode c_L_law 526 = .ok (.iload 5, 2) := by decide +kernel
theorem d_L_law_528 : decode c_L_law 528 = .ok (.ifCond .ne 15, 3) := by decide +kernel
theorem d_L_law_531 : decode c_L_law 531 = .ok (.aload_n 3, 1) := by decide +kernel
theorem d_L_law_532 : decode c_L_law 532 = .ok (.iconst 0, 1) := by decide +kernel
theorem d_L_law_533 : decode c_L_law 533 = .ok (.laload, 1) := by decide +kernel
theorem d_L_law_534 : decode c_L_law 534 = .ok (.iload 6, 2) := by decide +kernel
theorem d_L_law_536 : decode c_L_law 536 = .ok (.i2l, 1) := by decide +kernel
theorem d_L_law_537 : decode c_L_law 537 = .ok (.lcmp, 1) := by decide +kernel
theorem d_L_law_538 : decode c_L_law 538 = .ok (.ifCond .eq 5, 3) := by decide +kernel
theorem d_L_law_541 : decode c_L_law 541 = .ok (.iconst 0, 1) := by decide +kernel
theorem d_L_law_542 : decode c_L_law 542 = .ok (.ireturn, 1) := by decide +kernel
theorem d_L_law_543 : decode c_L_law 543 = .ok (.goto 418, 3) := by decide +kernel
theorem d_L_law_546 : decode c_L_law 546 = .ok (.aload_n 1, 1) := by decide +kernel
theorem d_L_law_547 : decode c_L_law 547 = .ok (.aload_n 0, 1) := by decide +kernel
theorem d_L_law_548 : decode c_L_law 548 = .ok (.iload 4, 2) := by decide +kernel
theorem d_L_law_550 : decode c_L_law 550 = .ok (.iconst 1, 1) := by decide +kernel
theorem d_L_law_551 : decode c_L_law 551 = .ok (.iadd, 1) := by decide +kernel
theorem d_L_law_552 : decode c_L_law 552 = .ok (.iaload, 1) := by decide +kernel
theorem d_L_law_553 : decode c_L_law 553 = .ok (.aload_n 0, 1) := by decide +kernel
theorem d_L_law_554 : decode c_L_law 554 = .ok (.iload 4, 2) := by decide +kernel
theorem d_L_law_556 : decode c_L_law 556 = .ok (.iconst 2, 1) := by decide +kernel
theorem d_L_law_557 : decode c_L_law 557 = .ok (.iadd, 1) := by decide +kernel
theorem d_L_law_558 : decode c_L_law 558 = .ok (.iaload, 1) := by decide +kernel
theorem d_L_law_559 : decode c_L_law 559 = .ok (.aload_n 3, 1) := by decide +kernel
theorem d_L_law_560 : decode c_L_law 560 = .ok (.invokestatic 91, 3) := by decide +kernel
theorem d_L_law_563 : decode c_L_law 563 = .ok (.istore 5, 2) := by decide +kernel
theorem d_L_law_565 : decode c_L_law 565 = .ok (.aload_n 2, 1) := by decide +kernel
theorem d_L_law_566 : decode c_L_law 566 = .ok (.aload_n 0, 1) := by decide +kernel
theorem d_L_law_567 : decode c_L_law 567 = .ok (.iload 4, 2) := by decide +kernel
theorem d_L_law_569 : decode c_L_law 569 = .ok (.iconst 1, 1) := by decide +kernel
theorem d_L_law_570 : decode c_L_law 570 = .ok (.iadd, 1) := by decide +kernel
theorem d_L_law_571 : decode c_L_law 571 = .ok (.iaload, 1) := by decide +kernel
theorem d_L_law_572 : decode c_L_law 572 = .ok (.aload_n 0, 1) := by decide +kernel
theorem d_L_law_573 : decode c_L_law 573 = .ok (.iload 4, 2) := by decide +kernel
theorem d_L_law_575 : decode c_L_law 575 = .ok (.iconst 2, 1) := by decide +kernel
theorem d_L_law_576 : decode c_L_law 576 = .ok (.iadd, 1) := by decide +kernel
theorem d_L_law_577 : decode c_L_law 577 = .ok (.iaload, 1) := by decide +kernel
theorem d_L_law_578 : decode c_L_law 578 = .ok (.invokevirtual 93, 3) := by decide +kernel
theorem d_L_law_581 : decode c_L_law 581 = .ok (.istore 6, 2) := by decide +kernel
theorem d_L_law_583 : decode c_L_law 583 = .ok (.aload_n 2, 1) := by decide +kernel
theorem d_L_law_584 : decode c_L_law 584 = .ok (.invokevirtual 68, 3) := by decide +kernel
theorem d_L_law_587 : decode c_L_law 587 = .ok (.iload 5, 2) := by decide +kernel
theorem d_L_law_589 : decode c_L_law 589 = .ok (.if_icmp .eq 5, 3) := by decide +kernel
theorem d_L_law_592 : decode c_L_law 592 = .ok (.iconst 0, 1) := by decide +kernel
theorem d_L_law_593 : decode c_L_law 593 = .ok (.ireturn, 1) := by decide +kernel
theorem d_L_law_594 : decode c_L_law 594 = .ok (.iload 5, 2) := by decide +kernel
theorem d_L_law_596 : decode c_L_law 596 = .ok (.ifCond .ne 15, 3) := by decide +kernel
theorem d_L_law_599 : decode c_L_law 599 = .ok (.aload_n 3, 1) := by decide +kernel
theorem d_L_law_600 : decode c_L_law 600 = .ok (.iconst 0, 1) := by decide +kernel
theorem d_L_law_601 : decode c_L_law 601 = .ok (.laload, 1) := by decide +kernel
theorem d_L_law_602 : decode c_L_law 602 = .ok (.iload 6, 2) := by decide +kernel
theorem d_L_law_604 : decode c_L_law 604 = .ok (.i2l, 1) := by decide +kernel
theorem d_L_law_605 : decode c_L_law 605 = .ok (.lcmp, 1) := by decide +kernel
theorem d_L_law_606 : decode c_L_law 606 = .ok (.ifCond .eq 5, 3) := by decide +kernel
theorem d_L_law_609 : decode c_L_law 609 = .ok (.iconst 0, 1) := by decide +kernel
theorem d_L_law_610 : decode c_L_law 610 = .ok (.ireturn, 1) := by decide +kernel
theorem d_L_law_611 : decode c_L_law 611 = .ok (.goto 350, 3) := by decide +kernel
theorem d_L_law_614 : decode c_L_law 614 = .ok (.aload_n 1, 1) := by decide +kernel
theorem d_L_law_615 : decode c_L_law 615 = .ok (.aload_n 0, 1) := by decide +kernel
theorem d_L_law_616 : decode c_L_law 616 = .ok (.iload 4, 2) := by decide +kernel
theorem d_L_law_618 : decode c_L_law 618 = .ok (.iconst 1, 1) := by decide +kernel
theorem d_L_law_619 : decode c_L_law 619 = .ok (.iadd, 1) := by decide +kernel
theorem d_L_law_620 : decode c_L_law 620 = .ok (.iaload, 1) := by decide +kernel
theorem d_L_law_621 : decode c_L_law 621 = .ok (.aload_n 0, 1) := by decide +kernel
theorem d_L_law_622 : decode c_L_law 622 = .ok (.iload 4, 2) := by decide +kernel
theorem d_L_law_624 : decode c_L_law 624 = .ok (.iconst 2, 1) := by decide +kernel
theorem d_L_law_625 : decode c_L_law 625 = .ok (.iadd, 1) := by decide +kernel
theorem d_L_law_626 : decode c_L_law 626 = .ok (.iaload, 1) := by decide +kernel
theorem d_L_law_627 : decode c_L_law 627 = .ok (.aload_n 3, 1) := by decide +kernel
theorem d_L_law_628 : decode c_L_law 628 = .ok (.invokestatic 94, 3) := by decide +kernel
theorem d_L_law_631 : decode c_L_law 631 = .ok (.istore 5, 2) := by decide +kernel
theorem d_L_law_633 : decode c_L_law 633 = .ok (.aload_n 2, 1) := by decide +kernel
theorem d_L_law_634 : decode c_L_law 634 = .ok (.aload_n 0, 1) := by decide +kernel
theorem d_L_law_635 : decode c_L_law 635 = .ok (.iload 4, 2) := by decide +kernel
theorem d_L_law_637 : decode c_L_law 637 = .ok (.iconst 1, 1) := by decide +kernel
theorem d_L_law_638 : decode c_L_law 638 = .ok (.iadd, 1) := by decide +kernel
theorem d_L_law_639 : decode c_L_law 639 = .ok (.iaload, 1) := by decide +kernel
theorem d_L_law_640 : decode c_L_law 640 = .ok (.aload_n 0, 1) := by decide +kernel
theorem d_L_law_641 : decode c_L_law 641 = .ok (.iload 4, 2) := by decide +kernel
theorem d_L_law_643 : decode c_L_law 643 = .ok (.iconst 2, 1) := by decide +kernel
theorem d_L_law_644 : decode c_L_law 644 = .ok (.iadd, 1) := by decide +kernel
theorem d_L_law_645 : decode c_L_law 645 = .ok (.iaload, 1) := by decide +kernel
theorem d_L_law_646 : decode c_L_law 646 = .ok (.invokevirtual 96, 3) := by decide +kernel
theorem d_L_law_649 : decode c_L_law 649 = .ok (.istore 6, 2) := by decide +kernel
theorem d_L_law_651 : decode c_L_law 651 = .ok (.aload_n 2, 1) := by decide +kernel
theorem d_L_law_652 : decode c_L_law 652 = .ok (.invokevirtual 68, 3) := by decide +kernel
theorem d_L_law_655 : decode c_L_law 655 = .ok (.iload 5, 2) := by decide +kernel
theorem d_L_law_657 : decode c_L_law 657 = .ok (.if_icmp .eq 5, 3) := by decide +kernel
theorem d_L_law_660 : decode c_L_law 660 = .ok (.iconst 0, 1) := by decide +kernel
theorem d_L_law_661 : decode c_L_law 661 = .ok (.ireturn, 1) := by decide +kernel
theorem d_L_law_662 : decode c_L_law 662 = .ok (.iload 5, 2) := by decide +kernel
theorem d_L_law_664 : decode c_L_law 664 = .ok (.ifCond .ne 15, 3) := by decide +kernel
theorem d_L_law_667 : decode c_L_law 667 = .ok (.aload_n 3, 1) := by decide +kernel
theorem d_L_law_668 : decode c_L_law 668 = .ok (.iconst 0, 1) := by decide +kernel
theorem d_L_law_669 : decode c_L_law 669 = .ok (.laload, 1) := by decide +kernel
theorem d_L_law_670 : decode c_L_law 670 = .ok (.iload 6, 2) := by decide +kernel
theorem d_L_law_672 : decode c_L_law 672 = .ok (.i2l, 1) := by decide +kernel
theorem d_L_law_673 : decode c_L_law 673 = .ok (.lcmp, 1) := by decide +kernel
theorem d_L_law_674 : decode c_L_law 674 = .ok (.ifCond .eq 5, 3) := by decide +kernel
theorem d_L_law_677 : decode c_L_law 677 = .ok (.iconst 0, 1) := by decide +kernel
theorem d_L_law_678 : decode c_L_law 678 = .ok (.ireturn, 1) := by decide +kernel
theorem d_L_law_679 : decode c_L_law 679 = .ok (.goto 282, 3) := by decide +kernel
theorem d_L_law_682 : decode c_L_law 682 = .ok (.aload_n 1, 1) := by decide +kernel
theorem d_L_law_683 : decode c_L_law 683 = .ok (.aload_n 0, 1) := by decide +kernel
theorem d_L_law_684 : decode c_L_law 684 = .ok (.iload 4, 2) := by decide +kernel
theorem d_L_law_686 : decode c_L_law 686 = .ok (.iconst 1, 1) := by decide +kernel
theorem d_L_law_687 : decode c_L_law 687 = .ok (.iadd, 1) := by decide +kernel
theorem d_L_law_688 : decode c_L_law 688 = .ok (.iaload, 1) := by decide +kernel
theorem d_L_law_689 : decode c_L_law 689 = .ok (.aload_n 3, 1) := by decide +kernel
theorem d_L_law_690 : decode c_L_law 690 = .ok (.invokestatic 97, 3) := by decide +kernel
theorem d_L_law_693 : decode c_L_law 693 = .ok (.istore 5, 2) := by decide +kernel
theorem d_L_law_695 : decode c_L_law 695 = .ok (.aload_n 2, 1) := by decide +kernel
theorem d_L_law_696 : decode c_L_law 696 = .ok (.aload_n 0, 1) := by decide +kernel
theorem d_L_law_697 : decode c_L_law 697 = .ok (.iload 4, 2) := by decide +kernel
theorem d_L_law_699 : decode c_L_law 699 = .ok (.iconst 1, 1) := by decide +kernel
theorem d_L_law_700 : decode c_L_law 700 = .ok (.iadd, 1) := by decide +kernel
theorem d_L_law_701 : decode c_L_law 701 = .ok (.iaload, 1) := by decide +kernel
theorem d_L_law_702 : decode c_L_law 702 = .ok (.invokevirtual 99, 3) := by decide +kernel
theorem d_L_law_705 : decode c_L_law 705 = .ok (.istore 6, 2) := by decide +kernel
theorem d_L_law_707 : decode c_L_law 707 = .ok (.aload_n 2, 1) := by decide +kernel
theorem d_L_law_708 : decode c_L_law 708 = .ok (.invokevirtual 68, 3) := by decide +kernel
theorem d_L_law_711 : decode c_L_law 711 = .ok (.iload 5, 2) := by decide +kernel
theorem d_L_law_713 : decode c_L_law 713 = .ok (.if_icmp .eq 5, 3) := by decide +kernel
theorem d_L_law_716 : decode c_L_law 716 = .ok (.iconst 0, 1) := by decide +kernel
theorem d_L_law_717 : decode c_L_law 717 = .ok (.ireturn, 1) := by decide +kernel
theorem d_L_law_718 : decode c_L_law 718 = .ok (.iload 5, 2) := by decide +kernel
theorem d_L_law_720 : decode c_L_law 720 = .ok (.ifCond .ne 15, 3) := by decide +kernel
theorem d_L_law_723 : decode c_L_law 723 = .ok (.aload_n 3, 1) := by decide +kernel
theorem d_L_law_724 : decode c_L_law 724 = .ok (.iconst 0, 1) := by decide +kernel
theorem d_L_law_725 : decode c_L_law 725 = .ok (.laload, 1) := by decide +kernel
theorem d_L_law_726 : decode c_L_law 726 = .ok (.iload 6, 2) := by decide +kernel
theorem d_L_law_728 : decode c_L_law 728 = .ok (.i2l, 1) := by decide +kernel
theorem d_L_law_729 : decode c_L_law 729 = .ok (.lcmp, 1) := by decide +kernel
theorem d_L_law_730 : decode c_L_law 730 = .ok (.ifCond .eq 5, 3) := by decide +kernel
theorem d_L_law_733 : decode c_L_law 733 = .ok (.iconst 0, 1) := by decide +kernel
theorem d_L_law_734 : decode c_L_law 734 = .ok (.ireturn, 1) := by decide +kernel
theorem d_L_law_735 : decode c_L_law 735 = .ok (.goto 226, 3) := by decide +kernel
theorem d_L_law_738 : decode c_L_law 738 = .ok (.aload_n 1, 1) := by decide +kernel
theorem d_L_law_739 : decode c_L_law 739 = .ok (.aload_n 0, 1) := by decide +kernel
theorem d_L_law_740 : decode c_L_law 740 = .ok (.iload 4, 2) := by decide +kernel
theorem d_L_law_742 : decode c_L_law 742 = .ok (.iconst 1, 1) := by decide +kernel
theorem d_L_law_743 : decode c_L_law 743 = .ok (.iadd, 1) := by decide +kernel
theorem d_L_law_744 : decode c_L_law 744 = .ok (.iaload, 1) := by decide +kernel
theorem d_L_law_745 : decode c_L_law 745 = .ok (.aload_n 0, 1) := by decide +kernel
theorem d_L_law_746 : decode c_L_law 746 = .ok (.iload 4, 2) := by decide +kernel
theorem d_L_law_748 : decode c_L_law 748 = .ok (.iconst 2, 1) := by decide +kernel
theorem d_L_law_749 : decode c_L_law 749 = .ok (.iadd, 1) := by decide +kernel
theorem d_L_law_750 : decode c_L_law 750 = .ok (.iaload, 1) := by decide +kernel
theorem d_L_law_751 : decode c_L_law 751 = .ok (.aload_n 0, 1) := by decide +kernel
theorem d_L_law_752 : decode c_L_law 752 = .ok (.iload 4, 2) := by decide +kernel
theorem d_L_law_754 : decode c_L_law 754 = .ok (.iconst 3, 1) := by decide +kernel
theorem d_L_law_755 : decode c_L_law 755 = .ok (.iadd, 1) := by decide +kernel
theorem d_L_law_756 : decode c_L_law 756 = .ok (.iaload, 1) := by decide +kernel
theorem d_L_law_757 : decode c_L_law 757 = .ok (.aload_n 3, 1) := by decide +kernel
theorem d_L_law_758 : decode c_L_law 758 = .ok (.invokestatic 100, 3) := by decide +kernel
theorem d_L_law_761 : decode c_L_law 761 = .ok (.istore 5, 2) := by decide +kernel
theorem d_L_law_763 : decode c_L_law 763 = .ok (.aload_n 2, 1) := by decide +kernel
theorem d_L_law_764 : decode c_L_law 764 = .ok (.aload_n 0, 1) := by decide +kernel
theorem d_L_law_765 : decode c_L_law 765 = .ok (.iload 4, 2) := by decide +kernel
theorem d_L_law_767 : decode c_L_law 767 = .ok (.iconst 1, 1) := by decide +kernel
theorem d_L_law_768 : decode c_L_law 768 = .ok (.iadd, 1) := by decide +kernel
theorem d_L_law_769 : decode c_L_law 769 = .ok (.iaload, 1) := by decide +kernel
theorem d_L_law_770 : decode c_L_law 770 = .ok (.aload_n 0, 1) := by decide +kernel
theorem d_L_law_771 : decode c_L_law 771 = .ok (.iload 4, 2) := by decide +kernel
theorem d_L_law_773 : decode c_L_law 773 = .ok (.iconst 2, 1) := by decide +kernel
theorem d_L_law_774 : decode c_L_law 774 = .ok (.iadd, 1) := by decide +kernel
theorem d_L_law_775 : decode c_L_law 775 = .ok (.iaload, 1) := by decide +kernel
theorem d_L_law_776 : decode c_L_law 776 = .ok (.aload_n 0, 1) := by decide +kernel
theorem d_L_law_777 : decode c_L_law 777 = .ok (.iload 4, 2) := by decide +kernel
theorem d_L_law_779 : decode c_L_law 779 = .ok (.iconst 3, 1) := by decide +kernel
theorem d_L_law_780 : decode c_L_law 780 = .ok (.iadd, 1) := by decide +kernel
theorem d_L_law_781 : decode c_L_law 781 = .ok (.iaload, 1) := by decide +kernel
theorem d_L_law_782 : decode c_L_law 782 = .ok (.invokevirtual 102, 3) := by decide +kernel
theorem d_L_law_785 : decode c_L_law 785 = .ok (.istore 6, 2) := by decide +kernel
theorem d_L_law_787 : decode c_L_law 787 = .ok (.aload_n 2, 1) := by decide +kernel
theorem d_L_law_788 : decode c_L_law 788 = .ok (.invokevirtual 68, 3) := by decide +kernel
theorem d_L_law_791 : decode c_L_law 791 = .ok (.iload 5, 2) := by decide +kernel
theorem d_L_law_793 : decode c_L_law 793 = .ok (.if_icmp .eq 5, 3) := by decide +kernel
theorem d_L_law_796 : decode c_L_law 796 = .ok (.iconst 0, 1) := by decide +kernel
theorem d_L_law_797 : decode c_L_law 797 = .ok (.ireturn, 1) := by decide +kernel
theorem d_L_law_798 : decode c_L_law 798 = .ok (.iload 5, 2) := by decide +kernel
theorem d_L_law_800 : decode c_L_law 800 = .ok (.ifCond .ne 15, 3) := by decide +kernel
theorem d_L_law_803 : decode c_L_law 803 = .ok (.aload_n 3, 1) := by decide +kernel
theorem d_L_law_804 : decode c_L_law 804 = .ok (.iconst 0, 1) := by decide +kernel
theorem d_L_law_805 : decode c_L_law 805 = .ok (.laload, 1) := by decide +kernel
theorem d_L_law_806 : decode c_L_law 806 = .ok (.iload 6, 2) := by decide +kernel
theorem d_L_law_808 : decode c_L_law 808 = .ok (.i2l, 1) := by decide +kernel
theorem d_L_law_809 : decode c_L_law 809 = .ok (.lcmp, 1) := by decide +kernel
theorem d_L_law_810 : decode c_L_law 810 = .ok (.ifCond .eq 5, 3) := by decide +kernel
theorem d_L_law_813 : decode c_L_law 813 = .ok (.iconst 0, 1) := by decide +kernel
theorem d_L_law_814 : decode c_L_law 814 = .ok (.ireturn, 1) := by decide +kernel
theorem d_L_law_815 : decode c_L_law 815 = .ok (.goto 146, 3) := by decide +kernel
theorem d_L_law_818 : decode c_L_law 818 = .ok (.aload_n 1, 1) := by decide +kernel
theorem d_L_law_819 : decode c_L_law 819 = .ok (.aload_n 0, 1) := by decide +kernel
theorem d_L_law_820 : decode c_L_law 820 = .ok (.iload 4, 2) := by decide +kernel
theorem d_L_law_822 : decode c_L_law 822 = .ok (.iconst 1, 1) := by decide +kernel
theorem d_L_law_823 : decode c_L_law 823 = .ok (.iadd, 1) := by decide +kernel
theorem d_L_law_824 : decode c_L_law 824 = .ok (.iaload, 1) := by decide +kernel
theorem d_L_law_825 : decode c_L_law 825 = .ok (.aload_n 0, 1) := by decide +kernel
theorem d_L_law_826 : decode c_L_law 826 = .ok (.iload 4, 2) := by decide +kernel
theorem d_L_law_828 : decode c_L_law 828 = .ok (.iconst 2, 1) := by decide +kernel
theorem d_L_law_829 : decode c_L_law 829 = .ok (.iadd, 1) := by decide +kernel
theorem d_L_law_830 : decode c_L_law 830 = .ok (.iaload, 1) := by decide +kernel
theorem d_L_law_831 : decode c_L_law 831 = .ok (.aload_n 3, 1) := by decide +kernel
theorem d_L_law_832 : decode c_L_law 832 = .ok (.invokestatic 103, 3) := by decide +kernel
theorem d_L_law_835 : decode c_L_law 835 = .ok (.istore 5, 2) := by decide +kernel
theorem d_L_law_837 : decode c_L_law 837 = .ok (.aload_n 2, 1) := by decide +kernel
theorem d_L_law_838 : decode c_L_law 838 = .ok (.aload_n 0, 1) := by decide +kernel
theorem d_L_law_839 : decode c_L_law 839 = .ok (.iload 4, 2) := by decide +kernel
theorem d_L_law_841 : decode c_L_law 841 = .ok (.iconst 1, 1) := by decide +kernel
theorem d_L_law_842 : decode c_L_law 842 = .ok (.iadd, 1) := by decide +kernel
theorem d_L_law_843 : decode c_L_law 843 = .ok (.iaload, 1) := by decide +kernel
theorem d_L_law_844 : decode c_L_law 844 = .ok (.aload_n 0, 1) := by decide +kernel
theorem d_L_law_845 : decode c_L_law 845 = .ok (.iload 4, 2) := by decide +kernel
theorem d_L_law_847 : decode c_L_law 847 = .ok (.iconst 2, 1) := by decide +kernel
theorem d_L_law_848 : decode c_L_law 848 = .ok (.iadd, 1) := by decide +kernel
theorem d_L_law_849 : decode c_L_law 849 = .ok (.iaload, 1) := by decide +kernel
theorem d_L_law_850 : decode c_L_law 850 = .ok (.invokevirtual 105, 3) := by decide +kernel
theorem d_L_law_853 : decode c_L_law 853 = .ok (.istore 6, 2) := by decide +kernel
theorem d_L_law_855 : decode c_L_law 855 = .ok (.aload_n 2, 1) := by decide +kernel
theorem d_L_law_856 : decode c_L_law 856 = .ok (.invokevirtual 68, 3) := by decide +kernel
theorem d_L_law_859 : decode c_L_law 859 = .ok (.iload 5, 2) := by decide +kernel
theorem d_L_law_861 : decode c_L_law 861 = .ok (.if_icmp .eq 5, 3) := by decide +kernel
theorem d_L_law_864 : decode c_L_law 864 = .ok (.iconst 0, 1) := by decide +kernel
theorem d_L_law_865 : decode c_L_law 865 = .ok (.ireturn, 1) := by decide +kernel
theorem d_L_law_866 : decode c_L_law 866 = .ok (.iload 5, 2) := by decide +kernel
theorem d_L_law_868 : decode c_L_law 868 = .ok (.ifCond .ne 15, 3) := by decide +kernel
theorem d_L_law_871 : decode c_L_law 871 = .ok (.aload_n 3, 1) := by decide +kernel
theorem d_L_law_872 : decode c_L_law 872 = .ok (.iconst 0, 1) := by decide +kernel
theorem d_L_law_873 : decode c_L_law 873 = .ok (.laload, 1) := by decide +kernel
theorem d_L_law_874 : decode c_L_law 874 = .ok (.iload 6, 2) := by decide +kernel
theorem d_L_law_876 : decode c_L_law 876 = .ok (.i2l, 1) := by decide +kernel
theorem d_L_law_877 : decode c_L_law 877 = .ok (.lcmp, 1) := by decide +kernel
theorem d_L_law_878 : decode c_L_law 878 = .ok (.ifCond .eq 5, 3) := by decide +kernel
theorem d_L_law_881 : decode c_L_law 881 = .ok (.iconst 0, 1) := by decide +kernel
theorem d_L_law_882 : decode c_L_law 882 = .ok (.ireturn, 1) := by decide +kernel
theorem d_L_law_883 : decode c_L_law 883 = .ok (.goto 78, 3) := by decide +kernel
theorem d_L_law_886 : decode c_L_law 886 = .ok (.aload_n 1, 1) := by decide +kernel
theorem d_L_law_887 : decode c_L_law 887 = .ok (.aload_n 0, 1) := by decide +kernel
theorem d_L_law_888 : decode c_L_law 888 = .ok (.iload 4, 2) := by decide +kernel
theorem d_L_law_890 : decode c_L_law 890 = .ok (.iconst 1, 1) := by decide +kernel
theorem d_L_law_891 : decode c_L_law 891 = .ok (.iadd, 1) := by decide +kernel
theorem d_L_law_892 : decode c_L_law 892 = .ok (.iaload, 1) := by decide +kernel
theorem d_L_law_893 : decode c_L_law 893 = .ok (.aload_n 0, 1) := by decide +kernel
theorem d_L_law_894 : decode c_L_law 894 = .ok (.iload 4, 2) := by decide +kernel
theorem d_L_law_896 : decode c_L_law 896 = .ok (.iconst 2, 1) := by decide +kernel
theorem d_L_law_897 : decode c_L_law 897 = .ok (.iadd, 1) := by decide +kernel
theorem d_L_law_898 : decode c_L_law 898 = .ok (.iaload, 1) := by decide +kernel
theorem d_L_law_899 : decode c_L_law 899 = .ok (.aload_n 3, 1) := by decide +kernel
theorem d_L_law_900 : decode c_L_law 900 = .ok (.invokestatic 106, 3) := by decide +kernel
theorem d_L_law_903 : decode c_L_law 903 = .ok (.istore 5, 2) := by decide +kernel
theorem d_L_law_905 : decode c_L_law 905 = .ok (.aload_n 2, 1) := by decide +kernel
theorem d_L_law_906 : decode c_L_law 906 = .ok (.aload_n 0, 1) := by decide +kernel
theorem d_L_law_907 : decode c_L_law 907 = .ok (.iload 4, 2) := by decide +kernel
theorem d_L_law_909 : decode c_L_law 909 = .ok (.iconst 1, 1) := by decide +kernel
theorem d_L_law_910 : decode c_L_law 910 = .ok (.iadd, 1) := by decide +kernel
theorem d_L_law_911 : decode c_L_law 911 = .ok (.iaload, 1) := by decide +kernel
theorem d_L_law_912 : decode c_L_law 912 = .ok (.aload_n 0, 1) := by decide +kernel
theorem d_L_law_913 : decode c_L_law 913 = .ok (.iload 4, 2) := by decide +kernel
theorem d_L_law_915 : decode c_L_law 915 = .ok (.iconst 2, 1) := by decide +kernel
theorem d_L_law_916 : decode c_L_law 916 = .ok (.iadd, 1) := by decide +kernel
theorem d_L_law_917 : decode c_L_law 917 = .ok (.iaload, 1) := by decide +kernel
theorem d_L_law_918 : decode c_L_law 918 = .ok (.invokevirtual 108, 3) := by decide +kernel
theorem d_L_law_921 : decode c_L_law 921 = .ok (.istore 6, 2) := by decide +kernel
theorem d_L_law_923 : decode c_L_law 923 = .ok (.aload_n 2, 1) := by decide +kernel
theorem d_L_law_924 : decode c_L_law 924 = .ok (.invokevirtual 68, 3) := by decide +kernel
theorem d_L_law_927 : decode c_L_law 927 = .ok (.iload 5, 2) := by decide +kernel
theorem d_L_law_929 : decode c_L_law 929 = .ok (.if_icmp .eq 5, 3) := by decide +kernel
theorem d_L_law_932 : decode c_L_law 932 = .ok (.iconst 0, 1) := by decide +kernel
theorem d_L_law_933 : decode c_L_law 933 = .ok (.ireturn, 1) := by decide +kernel
theorem d_L_law_934 : decode c_L_law 934 = .ok (.iload 5, 2) := by decide +kernel
theorem d_L_law_936 : decode c_L_law 936 = .ok (.ifCond .ne 22, 3) := by decide +kernel
theorem d_L_law_939 : decode c_L_law 939 = .ok (.aload_n 3, 1) := by decide +kernel
theorem d_L_law_940 : decode c_L_law 940 = .ok (.iconst 0, 1) := by decide +kernel
theorem d_L_law_941 : decode c_L_law 941 = .ok (.laload, 1) := by decide +kernel
theorem d_L_law_942 : decode c_L_law 942 = .ok (.iload 6, 2) := by decide +kernel
theorem d_L_law_944 : decode c_L_law 944 = .ok (.ifCond .eq 7, 3) := by decide +kernel
theorem d_L_law_947 : decode c_L_law 947 = .ok (.lconst 1, 1) := by decide +kernel
theorem d_L_law_948 : decode c_L_law 948 = .ok (.goto 4, 3) := by decide +kernel
theorem d_L_law_951 : decode c_L_law 951 = .ok (.lconst 0, 1) := by decide +kernel
theorem d_L_law_952 : decode c_L_law 952 = .ok (.lcmp, 1) := by decide +kernel
theorem d_L_law_953 : decode c_L_law 953 = .ok (.ifCond .eq 5, 3) := by decide +kernel
theorem d_L_law_956 : decode c_L_law 956 = .ok (.iconst 0, 1) := by decide +kernel
theorem d_L_law_957 : decode c_L_law 957 = .ok (.ireturn, 1) := by decide +kernel
theorem d_L_law_958 : decode c_L_law 958 = .ok (.goto 3, 3) := by decide +kernel
theorem d_L_law_961 : decode c_L_law 961 = .ok (.iinc 4 5, 3) := by decide +kernel
theorem d_L_law_964 : decode c_L_law 964 = .ok (.goto (-941), 3) := by decide +kernel
theorem d_L_law_967 : decode c_L_law 967 = .ok (.iconst 1, 1) := by decide +kernel
theorem d_L_law_968 : decode c_L_law 968 = .ok (.ireturn, 1) := by decide +kernel
