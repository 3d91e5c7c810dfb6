/-! Decode rows (printed by wip/gen/dec.py). -/
theorem d_H_init_0 : decode m_H_init.2.1 0 = .ok (.aload_n 0, 1) := by decide +kernel
theorem d_H_init_1 : decode m_H_init.2.1 1 = .ok (.invokespecial 1, 3) := by decide +kernel
theorem d_H_init_4 : decode m_H_init.2.1 4 = .ok (.aload_n 0, 1) := by decide +kernel
theorem d_H_init_5 : decode m_H_init.2.1 5 = .ok (.iload_n 1, 1) := by decide +kernel
theorem d_H_init_6 : decode m_H_init.2.1 6 = .ok (.iconst 1, 1) := by decide +kernel
theorem d_H_init_7 : decode m_H_init.2.1 7 = .ok (.if_icmp .lt 13, 3) := by decide +kernel
theorem d_H_init_10 : decode m_H_init.2.1 10 = .ok (.iload_n 1, 1) := by decide +kernel
theorem d_H_init_11 : decode m_H_init.2.1 11 = .ok (.bipush 50, 2) := by decide +kernel
theorem d_H_init_13 : decode m_H_init.2.1 13 = .ok (.if_icmp .gt 7, 3) := by decide +kernel
theorem d_H_init_16 : decode m_H_init.2.1 16 = .ok (.iload_n 1, 1) := by decide +kernel
theorem d_H_init_17 : decode m_H_init.2.1 17 = .ok (.goto 5, 3) := by decide +kernel
theorem d_H_init_20 : decode m_H_init.2.1 20 = .ok (.bipush 8, 2) := by decide +kernel
theorem d_H_init_22 : decode m_H_init.2.1 22 = .ok (.putfield 9, 3) := by decide +kernel
theorem d_H_init_25 : decode m_H_init.2.1 25 = .ok (.aload_n 0, 1) := by decide +kernel
theorem d_H_init_26 : decode m_H_init.2.1 26 = .ok (.new 13, 3) := by decide +kernel
theorem d_H_init_29 : decode m_H_init.2.1 29 = .ok (.dup, 1) := by decide +kernel
theorem d_H_init_30 : decode m_H_init.2.1 30 = .ok (.invokespecial 15, 3) := by decide +kernel
theorem d_H_init_33 : decode m_H_init.2.1 33 = .ok (.putfield 16, 3) := by decide +kernel
theorem d_H_init_36 : decode m_H_init.2.1 36 = .ok (.aload_n 0, 1) := by decide +kernel
theorem d_H_init_37 : decode m_H_init.2.1 37 = .ok (.aload_n 0, 1) := by decide +kernel
theorem d_H_init_38 : decode m_H_init.2.1 38 = .ok (.getfield 16, 3) := by decide +kernel
theorem d_H_init_41 : decode m_H_init.2.1 41 = .ok (.getfield 20, 3) := by decide +kernel
theorem d_H_init_44 : decode m_H_init.2.1 44 = .ok (.putfield 24, 3) := by decide +kernel
theorem d_H_init_47 : decode m_H_init.2.1 47 = .ok (.aload_n 0, 1) := by decide +kernel
theorem d_H_init_48 : decode m_H_init.2.1 48 = .ok (.aload_n 0, 1) := by decide +kernel
theorem d_H_init_49 : decode m_H_init.2.1 49 = .ok (.getfield 16, 3) := by decide +kernel
theorem d_H_init_52 : decode m_H_init.2.1 52 = .ok (.getfield 25, 3) := by decide +kernel
theorem d_H_init_55 : decode m_H_init.2.1 55 = .ok (.putfield 29, 3) := by decide +kernel
theorem d_H_init_58 : decode m_H_init.2.1 58 = .ok (.aload_n 0, 1) := by decide +kernel
theorem d_H_init_59 : decode m_H_init.2.1 59 = .ok (.iconst 0, 1) := by decide +kernel
theorem d_H_init_60 : decode m_H_init.2.1 60 = .ok (.putfield 30, 3) := by decide +kernel
theorem d_H_init_63 : decode m_H_init.2.1 63 = .ok (.return_, 1) := by decide +kernel
theorem d_H_add_0 : decode m_H_add.2.1 0 = .ok (.aload_n 0, 1) := by decide +kernel
theorem d_H_add_1 : decode m_H_add.2.1 1 = .ok (.getfield 24, 3) := by decide +kernel
theorem d_H_add_4 : decode m_H_add.2.1 4 = .ok (.iload_n 1, 1) := by decide +kernel
theorem d_H_add_5 : decode m_H_add.2.1 5 = .ok (.iload_n 2, 1) := by decide +kernel
theorem d_H_add_6 : decode m_H_add.2.1 6 = .ok (.iload_n 3, 1) := by decide +kernel
theorem d_H_add_7 : decode m_H_add.2.1 7 = .ok (.iload 4, 2) := by decide +kernel
theorem d_H_add_9 : decode m_H_add.2.1 9 = .ok (.invokevirtual 33, 3) := by decide +kernel
theorem d_H_add_12 : decode m_H_add.2.1 12 = .ok (.ireturn, 1) := by decide +kernel
theorem d_H_begin_0 : decode m_H_begin.2.1 0 = .ok (.iload_n 1, 1) := by decide +kernel
theorem d_H_begin_1 : decode m_H_begin.2.1 1 = .ok (.ifCond .lt 9, 3) := by decide +kernel
theorem d_H_begin_4 : decode m_H_begin.2.1 4 = .ok (.iload_n 1, 1) := by decide +kernel
theorem d_H_begin_5 : decode m_H_begin.2.1 5 = .ok (.bipush 48, 2) := by decide +kernel
theorem d_H_begin_7 : decode m_H_begin.2.1 7 = .ok (.if_icmp .lt 5, 3) := by decide +kernel
theorem d_H_begin_10 : decode m_H_begin.2.1 10 = .ok (.iconst (-1), 1) := by decide +kernel
theorem d_H_begin_11 : decode m_H_begin.2.1 11 = .ok (.ireturn, 1) := by decide +kernel
theorem d_H_begin_12 : decode m_H_begin.2.1 12 = .ok (.aload_n 0, 1) := by decide +kernel
theorem d_H_begin_13 : decode m_H_begin.2.1 13 = .ok (.getfield 29, 3) := by decide +kernel
theorem d_H_begin_16 : decode m_H_begin.2.1 16 = .ok (.iload_n 1, 1) := by decide +kernel
theorem d_H_begin_17 : decode m_H_begin.2.1 17 = .ok (.new 39, 3) := by decide +kernel
theorem d_H_begin_20 : decode m_H_begin.2.1 20 = .ok (.dup, 1) := by decide +kernel
theorem d_H_begin_21 : decode m_H_begin.2.1 21 = .ok (.iconst 0, 1) := by decide +kernel
theorem d_H_begin_22 : decode m_H_begin.2.1 22 = .ok (.iload_n 2, 1) := by decide +kernel
theorem d_H_begin_23 : decode m_H_begin.2.1 23 = .ok (.invokespecial 41, 3) := by decide +kernel
theorem d_H_begin_26 : decode m_H_begin.2.1 26 = .ok (.invokevirtual 44, 3) := by decide +kernel
theorem d_H_begin_29 : decode m_H_begin.2.1 29 = .ok (.astore_n 3, 1) := by decide +kernel
theorem d_H_begin_30 : decode m_H_begin.2.1 30 = .ok (.aload_n 3, 1) := by decide +kernel
theorem d_H_begin_31 : decode m_H_begin.2.1 31 = .ok (.ifnonnull 7, 3) := by decide +kernel
theorem d_H_begin_34 : decode m_H_begin.2.1 34 = .ok (.iconst (-1), 1) := by decide +kernel
theorem d_H_begin_35 : decode m_H_begin.2.1 35 = .ok (.goto 7, 3) := by decide +kernel
theorem d_H_begin_38 : decode m_H_begin.2.1 38 = .ok (.aload_n 3, 1) := by decide +kernel
theorem d_H_begin_39 : decode m_H_begin.2.1 39 = .ok (.getfield 50, 3) := by decide +kernel
theorem d_H_begin_42 : decode m_H_begin.2.1 42 = .ok (.ireturn, 1) := by decide +kernel
theorem d_H_tell_0 : decode m_H_tell.2.1 0 = .ok (.aload_n 0, 1) := by decide +kernel
theorem d_H_tell_1 : decode m_H_tell.2.1 1 = .ok (.getfield 29, 3) := by decide +kernel
theorem d_H_tell_4 : decode m_H_tell.2.1 4 = .ok (.iload_n 1, 1) := by decide +kernel
theorem d_H_tell_5 : decode m_H_tell.2.1 5 = .ok (.invokevirtual 55, 3) := by decide +kernel
theorem d_H_tell_8 : decode m_H_tell.2.1 8 = .ok (.astore_n 3, 1) := by decide +kernel
theorem d_H_tell_9 : decode m_H_tell.2.1 9 = .ok (.aload_n 3, 1) := by decide +kernel
theorem d_H_tell_10 : decode m_H_tell.2.1 10 = .ok (.ifnull 11, 3) := by decide +kernel
theorem d_H_tell_13 : decode m_H_tell.2.1 13 = .ok (.aload_n 3, 1) := by decide +kernel
theorem d_H_tell_14 : decode m_H_tell.2.1 14 = .ok (.getfield 59, 3) := by decide +kernel
theorem d_H_tell_17 : decode m_H_tell.2.1 17 = .ok (.iconst 3, 1) := by decide +kernel
theorem d_H_tell_18 : decode m_H_tell.2.1 18 = .ok (.if_icmp .ne 5, 3) := by decide +kernel
theorem d_H_tell_21 : decode m_H_tell.2.1 21 = .ok (.iconst 0, 1) := by decide +kernel
theorem d_H_tell_22 : decode m_H_tell.2.1 22 = .ok (.ireturn, 1) := by decide +kernel
theorem d_H_tell_23 : decode m_H_tell.2.1 23 = .ok (.aload_n 0, 1) := by decide +kernel
theorem d_H_tell_24 : decode m_H_tell.2.1 24 = .ok (.getfield 29, 3) := by decide +kernel
theorem d_H_tell_27 : decode m_H_tell.2.1 27 = .ok (.aload_n 3, 1) := by decide +kernel
theorem d_H_tell_28 : decode m_H_tell.2.1 28 = .ok (.new 39, 3) := by decide +kernel
theorem d_H_tell_31 : decode m_H_tell.2.1 31 = .ok (.dup, 1) := by decide +kernel
theorem d_H_tell_32 : decode m_H_tell.2.1 32 = .ok (.iconst 0, 1) := by decide +kernel
theorem d_H_tell_33 : decode m_H_tell.2.1 33 = .ok (.iload_n 2, 1) := by decide +kernel
theorem d_H_tell_34 : decode m_H_tell.2.1 34 = .ok (.invokespecial 41, 3) := by decide +kernel
theorem d_H_tell_37 : decode m_H_tell.2.1 37 = .ok (.invokevirtual 62, 3) := by decide +kernel
theorem d_H_tell_40 : decode m_H_tell.2.1 40 = .ok (.iconst 1, 1) := by decide +kernel
theorem d_H_tell_41 : decode m_H_tell.2.1 41 = .ok (.ireturn, 1) := by decide +kernel
theorem d_H_run_0 : decode m_H_run.2.1 0 = .ok (.iload_n 1, 1) := by decide +kernel
theorem d_H_run_1 : decode m_H_run.2.1 1 = .ok (.iconst 1, 1) := by decide +kernel
theorem d_H_run_2 : decode m_H_run.2.1 2 = .ok (.if_icmp .lt 9, 3) := by decide +kernel
theorem d_H_run_5 : decode m_H_run.2.1 5 = .ok (.iload_n 1, 1) := by decide +kernel
theorem d_H_run_6 : decode m_H_run.2.1 6 = .ok (.bipush 15, 2) := by decide +kernel
theorem d_H_run_8 : decode m_H_run.2.1 8 = .ok (.if_icmp .le 5, 3) := by decide +kernel
theorem d_H_run_11 : decode m_H_run.2.1 11 = .ok (.iconst (-1), 1) := by decide +kernel
theorem d_H_run_12 : decode m_H_run.2.1 12 = .ok (.ireturn, 1) := by decide +kernel
theorem d_H_run_13 : decode m_H_run.2.1 13 = .ok (.iconst 0, 1) := by decide +kernel
theorem d_H_run_14 : decode m_H_run.2.1 14 = .ok (.istore_n 2, 1) := by decide +kernel
theorem d_H_run_15 : decode m_H_run.2.1 15 = .ok (.iload_n 2, 1) := by decide +kernel
theorem d_H_run_16 : decode m_H_run.2.1 16 = .ok (.iload_n 1, 1) := by decide +kernel
theorem d_H_run_17 : decode m_H_run.2.1 17 = .ok (.if_icmp .ge 48, 3) := by decide +kernel
theorem d_H_run_20 : decode m_H_run.2.1 20 = .ok (.aload_n 0, 1) := by decide +kernel
theorem d_H_run_21 : decode m_H_run.2.1 21 = .ok (.getfield 29, 3) := by decide +kernel
theorem d_H_run_24 : decode m_H_run.2.1 24 = .ok (.aload_n 0, 1) := by decide +kernel
theorem d_H_run_25 : decode m_H_run.2.1 25 = .ok (.getfield 29, 3) := by decide +kernel
theorem d_H_run_28 : decode m_H_run.2.1 28 = .ok (.getfield 66, 3) := by decide +kernel
theorem d_H_run_31 : decode m_H_run.2.1 31 = .ok (.iconst 0, 1) := by decide +kernel
theorem d_H_run_32 : decode m_H_run.2.1 32 = .ok (.invokevirtual 70, 3) := by decide +kernel
theorem d_H_run_35 : decode m_H_run.2.1 35 = .ok (.invokevirtual 55, 3) := by decide +kernel
theorem d_H_run_38 : decode m_H_run.2.1 38 = .ok (.astore_n 3, 1) := by decide +kernel
theorem d_H_run_39 : decode m_H_run.2.1 39 = .ok (.aload_n 3, 1) := by decide +kernel
theorem d_H_run_40 : decode m_H_run.2.1 40 = .ok (.ifnonnull 6, 3) := by decide +kernel
theorem d_H_run_43 : decode m_H_run.2.1 43 = .ok (.goto 22, 3) := by decide +kernel
theorem d_H_run_46 : decode m_H_run.2.1 46 = .ok (.aload_n 0, 1) := by decide +kernel
theorem d_H_run_47 : decode m_H_run.2.1 47 = .ok (.getfield 16, 3) := by decide +kernel
theorem d_H_run_50 : decode m_H_run.2.1 50 = .ok (.aload_n 3, 1) := by decide +kernel
theorem d_H_run_51 : decode m_H_run.2.1 51 = .ok (.invokevirtual 76, 3) := by decide +kernel
theorem d_H_run_54 : decode m_H_run.2.1 54 = .ok (.iinc 2 1, 3) := by decide +kernel
theorem d_H_run_57 : decode m_H_run.2.1 57 = .ok (.aload_n 0, 1) := by decide +kernel
theorem d_H_run_58 : decode m_H_run.2.1 58 = .ok (.aload_n 3, 1) := by decide +kernel
theorem d_H_run_59 : decode m_H_run.2.1 59 = .ok (.invokevirtual 80, 3) := by decide +kernel
theorem d_H_run_62 : decode m_H_run.2.1 62 = .ok (.goto (-47), 3) := by decide +kernel
theorem d_H_run_65 : decode m_H_run.2.1 65 = .ok (.iload_n 2, 1) := by decide +kernel
theorem d_H_run_66 : decode m_H_run.2.1 66 = .ok (.ireturn, 1) := by decide +kernel
theorem d_H_clear_0 : decode m_H_clear.2.1 0 = .ok (.aload_n 0, 1) := by decide +kernel
theorem d_H_clear_1 : decode m_H_clear.2.1 1 = .ok (.getfield 29, 3) := by decide +kernel
theorem d_H_clear_4 : decode m_H_clear.2.1 4 = .ok (.getfield 83, 3) := by decide +kernel
theorem d_H_clear_7 : decode m_H_clear.2.1 7 = .ok (.istore_n 2, 1) := by decide +kernel
theorem d_H_clear_8 : decode m_H_clear.2.1 8 = .ok (.aload_n 0, 1) := by decide +kernel
theorem d_H_clear_9 : decode m_H_clear.2.1 9 = .ok (.getfield 29, 3) := by decide +kernel
theorem d_H_clear_12 : decode m_H_clear.2.1 12 = .ok (.invokevirtual 86, 3) := by decide +kernel
theorem d_H_clear_15 : decode m_H_clear.2.1 15 = .ok (.aload_n 0, 1) := by decide +kernel
theorem d_H_clear_16 : decode m_H_clear.2.1 16 = .ok (.iconst 0, 1) := by decide +kernel
theorem d_H_clear_17 : decode m_H_clear.2.1 17 = .ok (.putfield 30, 3) := by decide +kernel
theorem d_H_clear_20 : decode m_H_clear.2.1 20 = .ok (.iload_n 1, 1) := by decide +kernel
theorem d_H_clear_21 : decode m_H_clear.2.1 21 = .ok (.ifCond .eq 10, 3) := by decide +kernel
theorem d_H_clear_24 : decode m_H_clear.2.1 24 = .ok (.aload_n 0, 1) := by decide +kernel
theorem d_H_clear_25 : decode m_H_clear.2.1 25 = .ok (.getfield 24, 3) := by decide +kernel
theorem d_H_clear_28 : decode m_H_clear.2.1 28 = .ok (.invokevirtual 89, 3) := by decide +kernel
theorem d_H_clear_31 : decode m_H_clear.2.1 31 = .ok (.iload_n 2, 1) := by decide +kernel
theorem d_H_clear_32 : decode m_H_clear.2.1 32 = .ok (.ireturn, 1) := by decide +kernel
theorem d_H_process_0 : decode m_H_process.2.1 0 = .ok (.aload_n 0, 1) := by decide +kernel
theorem d_H_process_1 : decode m_H_process.2.1 1 = .ok (.getfield 29, 3) := by decide +kernel
theorem d_H_process_4 : decode m_H_process.2.1 4 = .ok (.iload_n 1, 1) := by decide +kernel
theorem d_H_process_5 : decode m_H_process.2.1 5 = .ok (.invokevirtual 55, 3) := by decide +kernel
theorem d_H_process_8 : decode m_H_process.2.1 8 = .ok (.astore_n 3, 1) := by decide +kernel
theorem d_H_process_9 : decode m_H_process.2.1 9 = .ok (.aload_n 3, 1) := by decide +kernel
theorem d_H_process_10 : decode m_H_process.2.1 10 = .ok (.ifnonnull 7, 3) := by decide +kernel
theorem d_H_process_13 : decode m_H_process.2.1 13 = .ok (.iconst (-1), 1) := by decide +kernel
theorem d_H_process_14 : decode m_H_process.2.1 14 = .ok (.goto 8, 3) := by decide +kernel
theorem d_H_process_17 : decode m_H_process.2.1 17 = .ok (.aload_n 3, 1) := by decide +kernel
theorem d_H_process_18 : decode m_H_process.2.1 18 = .ok (.iload_n 2, 1) := by decide +kernel
theorem d_H_process_19 : decode m_H_process.2.1 19 = .ok (.invokevirtual 92, 3) := by decide +kernel
theorem d_H_process_22 : decode m_H_process.2.1 22 = .ok (.ireturn, 1) := by decide +kernel
theorem d_H_queue_0 : decode m_H_queue.2.1 0 = .ok (.aload_n 0, 1) := by decide +kernel
theorem d_H_queue_1 : decode m_H_queue.2.1 1 = .ok (.getfield 29, 3) := by decide +kernel
theorem d_H_queue_4 : decode m_H_queue.2.1 4 = .ok (.getfield 66, 3) := by decide +kernel
theorem d_H_queue_7 : decode m_H_queue.2.1 7 = .ok (.iload_n 1, 1) := by decide +kernel
theorem d_H_queue_8 : decode m_H_queue.2.1 8 = .ok (.invokevirtual 70, 3) := by decide +kernel
theorem d_H_queue_11 : decode m_H_queue.2.1 11 = .ok (.ireturn, 1) := by decide +kernel
theorem d_H_processes_0 : decode m_H_processes.2.1 0 = .ok (.aload_n 0, 1) := by decide +kernel
theorem d_H_processes_1 : decode m_H_processes.2.1 1 = .ok (.getfield 29, 3) := by decide +kernel
theorem d_H_processes_4 : decode m_H_processes.2.1 4 = .ok (.getfield 83, 3) := by decide +kernel
theorem d_H_processes_7 : decode m_H_processes.2.1 7 = .ok (.ireturn, 1) := by decide +kernel
theorem d_H_term_0 : decode m_H_term.2.1 0 = .ok (.aload_n 0, 1) := by decide +kernel
theorem d_H_term_1 : decode m_H_term.2.1 1 = .ok (.iload_n 1, 1) := by decide +kernel
theorem d_H_term_2 : decode m_H_term.2.1 2 = .ok (.iload_n 2, 1) := by decide +kernel
theorem d_H_term_3 : decode m_H_term.2.1 3 = .ok (.invokevirtual 95, 3) := by decide +kernel
theorem d_H_term_6 : decode m_H_term.2.1 6 = .ok (.astore_n 3, 1) := by decide +kernel
theorem d_H_term_7 : decode m_H_term.2.1 7 = .ok (.aload_n 3, 1) := by decide +kernel
theorem d_H_term_8 : decode m_H_term.2.1 8 = .ok (.ifnonnull 7, 3) := by decide +kernel
theorem d_H_term_11 : decode m_H_term.2.1 11 = .ok (.iconst (-1), 1) := by decide +kernel
theorem d_H_term_12 : decode m_H_term.2.1 12 = .ok (.goto 7, 3) := by decide +kernel
theorem d_H_term_15 : decode m_H_term.2.1 15 = .ok (.aload_n 3, 1) := by decide +kernel
theorem d_H_term_16 : decode m_H_term.2.1 16 = .ok (.invokevirtual 99, 3) := by decide +kernel
theorem d_H_term_19 : decode m_H_term.2.1 19 = .ok (.ireturn, 1) := by decide +kernel
theorem d_H_digest_0 : decode m_H_digest.2.1 0 = .ok (.aload_n 0, 1) := by decide +kernel
theorem d_H_digest_1 : decode m_H_digest.2.1 1 = .ok (.iload_n 1, 1) := by decide +kernel
theorem d_H_digest_2 : decode m_H_digest.2.1 2 = .ok (.iload_n 2, 1) := by decide +kernel
theorem d_H_digest_3 : decode m_H_digest.2.1 3 = .ok (.invokevirtual 95, 3) := by decide +kernel
theorem d_H_digest_6 : decode m_H_digest.2.1 6 = .ok (.astore_n 3, 1) := by decide +kernel
theorem d_H_digest_7 : decode m_H_digest.2.1 7 = .ok (.aload_n 3, 1) := by decide +kernel
theorem d_H_digest_8 : decode m_H_digest.2.1 8 = .ok (.ifnonnull 7, 3) := by decide +kernel
theorem d_H_digest_11 : decode m_H_digest.2.1 11 = .ok (.iconst 0, 1) := by decide +kernel
theorem d_H_digest_12 : decode m_H_digest.2.1 12 = .ok (.goto 9, 3) := by decide +kernel
theorem d_H_digest_15 : decode m_H_digest.2.1 15 = .ok (.bipush 7, 2) := by decide +kernel
theorem d_H_digest_17 : decode m_H_digest.2.1 17 = .ok (.aload_n 3, 1) := by decide +kernel
theorem d_H_digest_18 : decode m_H_digest.2.1 18 = .ok (.invokestatic 103, 3) := by decide +kernel
theorem d_H_digest_21 : decode m_H_digest.2.1 21 = .ok (.ireturn, 1) := by decide +kernel
theorem d_H_termOf_0 : decode m_H_termOf.2.1 0 = .ok (.aload_n 0, 1) := by decide +kernel
theorem d_H_termOf_1 : decode m_H_termOf.2.1 1 = .ok (.getfield 29, 3) := by decide +kernel
theorem d_H_termOf_4 : decode m_H_termOf.2.1 4 = .ok (.iload_n 1, 1) := by decide +kernel
theorem d_H_termOf_5 : decode m_H_termOf.2.1 5 = .ok (.invokevirtual 55, 3) := by decide +kernel
theorem d_H_termOf_8 : decode m_H_termOf.2.1 8 = .ok (.astore_n 3, 1) := by decide +kernel
theorem d_H_termOf_9 : decode m_H_termOf.2.1 9 = .ok (.aload_n 3, 1) := by decide +kernel
theorem d_H_termOf_10 : decode m_H_termOf.2.1 10 = .ok (.ifnonnull 7, 3) := by decide +kernel
theorem d_H_termOf_13 : decode m_H_termOf.2.1 13 = .ok (.aconst_null, 1) := by decide +kernel
theorem d_H_termOf_14 : decode m_H_termOf.2.1 14 = .ok (.goto 8, 3) := by decide +kernel
theorem d_H_termOf_17 : decode m_H_termOf.2.1 17 = .ok (.aload_n 3, 1) := by decide +kernel
theorem d_H_termOf_18 : decode m_H_termOf.2.1 18 = .ok (.iload_n 2, 1) := by decide +kernel
theorem d_H_termOf_19 : decode m_H_termOf.2.1 19 = .ok (.invokevirtual 107, 3) := by decide +kernel
theorem d_H_termOf_22 : decode m_H_termOf.2.1 22 = .ok (.areturn, 1) := by decide +kernel
theorem d_H_countInTurn_0 : decode m_H_countInTurn.2.1 0 = .ok (.aload_n 0, 1) := by decide +kernel
theorem d_H_countInTurn_1 : decode m_H_countInTurn.2.1 1 = .ok (.dup, 1) := by decide +kernel
theorem d_H_countInTurn_2 : decode m_H_countInTurn.2.1 2 = .ok (.getfield 30, 3) := by decide +kernel
theorem d_H_countInTurn_5 : decode m_H_countInTurn.2.1 5 = .ok (.iconst 1, 1) := by decide +kernel
theorem d_H_countInTurn_6 : decode m_H_countInTurn.2.1 6 = .ok (.iadd, 1) := by decide +kernel
theorem d_H_countInTurn_7 : decode m_H_countInTurn.2.1 7 = .ok (.putfield 30, 3) := by decide +kernel
theorem d_H_countInTurn_10 : decode m_H_countInTurn.2.1 10 = .ok (.aload_n 1, 1) := by decide +kernel
theorem d_H_countInTurn_11 : decode m_H_countInTurn.2.1 11 = .ok (.getfield 59, 3) := by decide +kernel
theorem d_H_countInTurn_14 : decode m_H_countInTurn.2.1 14 = .ok (.iconst 1, 1) := by decide +kernel
theorem d_H_countInTurn_15 : decode m_H_countInTurn.2.1 15 = .ok (.if_icmp .eq 11, 3) := by decide +kernel
theorem d_H_countInTurn_18 : decode m_H_countInTurn.2.1 18 = .ok (.aload_n 0, 1) := by decide +kernel
theorem d_H_countInTurn_19 : decode m_H_countInTurn.2.1 19 = .ok (.iconst 0, 1) := by decide +kernel
theorem d_H_countInTurn_20 : decode m_H_countInTurn.2.1 20 = .ok (.putfield 30, 3) := by decide +kernel
theorem d_H_countInTurn_23 : decode m_H_countInTurn.2.1 23 = .ok (.goto 47, 3) := by decide +kernel
theorem d_H_countInTurn_26 : decode m_H_countInTurn.2.1 26 = .ok (.aload_n 0, 1) := by decide +kernel
theorem d_H_countInTurn_27 : decode m_H_countInTurn.2.1 27 = .ok (.getfield 30, 3) := by decide +kernel
theorem d_H_countInTurn_30 : decode m_H_countInTurn.2.1 30 = .ok (.aload_n 0, 1) := by decide +kernel
theorem d_H_countInTurn_31 : decode m_H_countInTurn.2.1 31 = .ok (.getfield 9, 3) := by decide +kernel
theorem d_H_countInTurn_34 : decode m_H_countInTurn.2.1 34 = .ok (.if_icmp .lt 36, 3) := by decide +kernel
theorem d_H_countInTurn_37 : decode m_H_countInTurn.2.1 37 = .ok (.aload_n 0, 1) := by decide +kernel
theorem d_H_countInTurn_38 : decode m_H_countInTurn.2.1 38 = .ok (.getfield 29, 3) := by decide +kernel
theorem d_H_countInTurn_41 : decode m_H_countInTurn.2.1 41 = .ok (.getfield 66, 3) := by decide +kernel
theorem d_H_countInTurn_44 : decode m_H_countInTurn.2.1 44 = .ok (.aload_n 1, 1) := by decide +kernel
theorem d_H_countInTurn_45 : decode m_H_countInTurn.2.1 45 = .ok (.getfield 50, 3) := by decide +kernel
theorem d_H_countInTurn_48 : decode m_H_countInTurn.2.1 48 = .ok (.invokevirtual 111, 3) := by decide +kernel
theorem d_H_countInTurn_51 : decode m_H_countInTurn.2.1 51 = .ok (.aload_n 0, 1) := by decide +kernel
theorem d_H_countInTurn_52 : decode m_H_countInTurn.2.1 52 = .ok (.getfield 29, 3) := by decide +kernel
theorem d_H_countInTurn_55 : decode m_H_countInTurn.2.1 55 = .ok (.getfield 66, 3) := by decide +kernel
theorem d_H_countInTurn_58 : decode m_H_countInTurn.2.1 58 = .ok (.aload_n 1, 1) := by decide +kernel
theorem d_H_countInTurn_59 : decode m_H_countInTurn.2.1 59 = .ok (.getfield 50, 3) := by decide +kernel
theorem d_H_countInTurn_62 : decode m_H_countInTurn.2.1 62 = .ok (.invokevirtual 115, 3) := by decide +kernel
theorem d_H_countInTurn_65 : decode m_H_countInTurn.2.1 65 = .ok (.aload_n 0, 1) := by decide +kernel
theorem d_H_countInTurn_66 : decode m_H_countInTurn.2.1 66 = .ok (.iconst 0, 1) := by decide +kernel
theorem d_H_countInTurn_67 : decode m_H_countInTurn.2.1 67 = .ok (.putfield 30, 3) := by decide +kernel
theorem d_H_countInTurn_70 : decode m_H_countInTurn.2.1 70 = .ok (.return_, 1) := by decide +kernel
theorem d_N_init_0 : decode m_N_init.2.1 0 = .ok (.aload_n 0, 1) := by decide +kernel
theorem d_N_init_1 : decode m_N_init.2.1 1 = .ok (.invokespecial 1, 3) := by decide +kernel
theorem d_N_init_4 : decode m_N_init.2.1 4 = .ok (.aload_n 0, 1) := by decide +kernel
theorem d_N_init_5 : decode m_N_init.2.1 5 = .ok (.bipush 48, 2) := by decide +kernel
theorem d_N_init_7 : decode m_N_init.2.1 7 = .ok (.newarray .int, 2) := by decide +kernel
theorem d_N_init_9 : decode m_N_init.2.1 9 = .ok (.putfield 7, 3) := by decide +kernel
theorem d_N_init_12 : decode m_N_init.2.1 12 = .ok (.aload_n 0, 1) := by decide +kernel
theorem d_N_init_13 : decode m_N_init.2.1 13 = .ok (.bipush 48, 2) := by decide +kernel
theorem d_N_init_15 : decode m_N_init.2.1 15 = .ok (.newarray .int, 2) := by decide +kernel
theorem d_N_init_17 : decode m_N_init.2.1 17 = .ok (.putfield 13, 3) := by decide +kernel
theorem d_N_init_20 : decode m_N_init.2.1 20 = .ok (.aload_n 0, 1) := by decide +kernel
theorem d_N_init_21 : decode m_N_init.2.1 21 = .ok (.bipush 48, 2) := by decide +kernel
theorem d_N_init_23 : decode m_N_init.2.1 23 = .ok (.newarray .int, 2) := by decide +kernel
theorem d_N_init_25 : decode m_N_init.2.1 25 = .ok (.putfield 16, 3) := by decide +kernel
theorem d_N_init_28 : decode m_N_init.2.1 28 = .ok (.aload_n 0, 1) := by decide +kernel
theorem d_N_init_29 : decode m_N_init.2.1 29 = .ok (.bipush 48, 2) := by decide +kernel
theorem d_N_init_31 : decode m_N_init.2.1 31 = .ok (.newarray .int, 2) := by decide +kernel
theorem d_N_init_33 : decode m_N_init.2.1 33 = .ok (.putfield 19, 3) := by decide +kernel
theorem d_N_init_36 : decode m_N_init.2.1 36 = .ok (.aload_n 0, 1) := by decide +kernel
theorem d_N_init_37 : decode m_N_init.2.1 37 = .ok (.sipush 8128, 3) := by decide +kernel
theorem d_N_init_40 : decode m_N_init.2.1 40 = .ok (.newarray .int, 2) := by decide +kernel
theorem d_N_init_42 : decode m_N_init.2.1 42 = .ok (.putfield 22, 3) := by decide +kernel
theorem d_N_init_45 : decode m_N_init.2.1 45 = .ok (.aload_n 0, 1) := by decide +kernel
theorem d_N_init_46 : decode m_N_init.2.1 46 = .ok (.bipush 12, 2) := by decide +kernel
theorem d_N_init_48 : decode m_N_init.2.1 48 = .ok (.newarray .int, 2) := by decide +kernel
theorem d_N_init_50 : decode m_N_init.2.1 50 = .ok (.putfield 25, 3) := by decide +kernel
theorem d_N_init_53 : decode m_N_init.2.1 53 = .ok (.aload_n 0, 1) := by decide +kernel
theorem d_N_init_54 : decode m_N_init.2.1 54 = .ok (.bipush 12, 2) := by decide +kernel
theorem d_N_init_56 : decode m_N_init.2.1 56 = .ok (.newarray .int, 2) := by decide +kernel
theorem d_N_init_58 : decode m_N_init.2.1 58 = .ok (.putfield 28, 3) := by decide +kernel
theorem d_N_init_61 : decode m_N_init.2.1 61 = .ok (.aload_n 0, 1) := by decide +kernel
theorem d_N_init_62 : decode m_N_init.2.1 62 = .ok (.bipush 12, 2) := by decide +kernel
theorem d_N_init_64 : decode m_N_init.2.1 64 = .ok (.newarray .int, 2) := by decide +kernel
theorem d_N_init_66 : decode m_N_init.2.1 66 = .ok (.putfield 31, 3) := by decide +kernel
theorem d_N_init_69 : decode m_N_init.2.1 69 = .ok (.aload_n 0, 1) := by decide +kernel
theorem d_N_init_70 : decode m_N_init.2.1 70 = .ok (.bipush 12, 2) := by decide +kernel
theorem d_N_init_72 : decode m_N_init.2.1 72 = .ok (.newarray .int, 2) := by decide +kernel
theorem d_N_init_74 : decode m_N_init.2.1 74 = .ok (.putfield 34, 3) := by decide +kernel
theorem d_N_init_77 : decode m_N_init.2.1 77 = .ok (.aload_n 0, 1) := by decide +kernel
theorem d_N_init_78 : decode m_N_init.2.1 78 = .ok (.bipush 12, 2) := by decide +kernel
theorem d_N_init_80 : decode m_N_init.2.1 80 = .ok (.newarray .int, 2) := by decide +kernel
theorem d_N_init_82 : decode m_N_init.2.1 82 = .ok (.putfield 37, 3) := by decide +kernel
theorem d_N_init_85 : decode m_N_init.2.1 85 = .ok (.aload_n 0, 1) := by decide +kernel
theorem d_N_init_86 : decode m_N_init.2.1 86 = .ok (.bipush 72, 2) := by decide +kernel
theorem d_N_init_88 : decode m_N_init.2.1 88 = .ok (.newarray .int, 2) := by decide +kernel
theorem d_N_init_90 : decode m_N_init.2.1 90 = .ok (.putfield 40, 3) := by decide +kernel
theorem d_N_init_93 : decode m_N_init.2.1 93 = .ok (.aload_n 0, 1) := by decide +kernel
theorem d_N_init_94 : decode m_N_init.2.1 94 = .ok (.bipush 12, 2) := by decide +kernel
theorem d_N_init_96 : decode m_N_init.2.1 96 = .ok (.newarray .int, 2) := by decide +kernel
theorem d_N_init_98 : decode m_N_init.2.1 98 = .ok (.putfield 43, 3) := by decide +kernel
theorem d_N_init_101 : decode m_N_init.2.1 101 = .ok (.aload_n 0, 1) := by decide +kernel
theorem d_N_init_102 : decode m_N_init.2.1 102 = .ok (.bipush 12, 2) := by decide +kernel
theorem d_N_init_104 : decode m_N_init.2.1 104 = .ok (.newarray .boolean, 2) := by decide +kernel
theorem d_N_init_106 : decode m_N_init.2.1 106 = .ok (.putfield 46, 3) := by decide +kernel
theorem d_N_init_109 : decode m_N_init.2.1 109 = .ok (.aload_n 0, 1) := by decide +kernel
theorem d_N_init_110 : decode m_N_init.2.1 110 = .ok (.bipush 12, 2) := by decide +kernel
theorem d_N_init_112 : decode m_N_init.2.1 112 = .ok (.newarray .int, 2) := by decide +kernel
theorem d_N_init_114 : decode m_N_init.2.1 114 = .ok (.putfield 50, 3) := by decide +kernel
theorem d_N_init_117 : decode m_N_init.2.1 117 = .ok (.aload_n 0, 1) := by decide +kernel
theorem d_N_init_118 : decode m_N_init.2.1 118 = .ok (.bipush 12, 2) := by decide +kernel
theorem d_N_init_120 : decode m_N_init.2.1 120 = .ok (.newarray .int, 2) := by decide +kernel
theorem d_N_init_122 : decode m_N_init.2.1 122 = .ok (.putfield 53, 3) := by decide +kernel
theorem d_N_init_125 : decode m_N_init.2.1 125 = .ok (.aload_n 0, 1) := by decide +kernel
theorem d_N_init_126 : decode m_N_init.2.1 126 = .ok (.bipush 13, 2) := by decide +kernel
theorem d_N_init_128 : decode m_N_init.2.1 128 = .ok (.newarray .int, 2) := by decide +kernel
theorem d_N_init_130 : decode m_N_init.2.1 130 = .ok (.putfield 56, 3) := by decide +kernel
theorem d_N_init_133 : decode m_N_init.2.1 133 = .ok (.aload_n 0, 1) := by decide +kernel
theorem d_N_init_134 : decode m_N_init.2.1 134 = .ok (.bipush 13, 2) := by decide +kernel
theorem d_N_init_136 : decode m_N_init.2.1 136 = .ok (.newarray .int, 2) := by decide +kernel
theorem d_N_init_138 : decode m_N_init.2.1 138 = .ok (.putfield 59, 3) := by decide +kernel
theorem d_N_init_141 : decode m_N_init.2.1 141 = .ok (.aload_n 0, 1) := by decide +kernel
theorem d_N_init_142 : decode m_N_init.2.1 142 = .ok (.iload_n 1, 1) := by decide +kernel
theorem d_N_init_143 : decode m_N_init.2.1 143 = .ok (.iconst 1, 1) := by decide +kernel
theorem d_N_init_144 : decode m_N_init.2.1 144 = .ok (.if_icmp .lt 13, 3) := by decide +kernel
theorem d_N_init_147 : decode m_N_init.2.1 147 = .ok (.iload_n 1, 1) := by decide +kernel
theorem d_N_init_148 : decode m_N_init.2.1 148 = .ok (.bipush 50, 2) := by decide +kernel
theorem d_N_init_150 : decode m_N_init.2.1 150 = .ok (.if_icmp .gt 7, 3) := by decide +kernel
theorem d_N_init_153 : decode m_N_init.2.1 153 = .ok (.iload_n 1, 1) := by decide +kernel
theorem d_N_init_154 : decode m_N_init.2.1 154 = .ok (.goto 5, 3) := by decide +kernel
theorem d_N_init_157 : decode m_N_init.2.1 157 = .ok (.bipush 8, 2) := by decide +kernel
theorem d_N_init_159 : decode m_N_init.2.1 159 = .ok (.putfield 62, 3) := by decide +kernel
theorem d_N_init_162 : decode m_N_init.2.1 162 = .ok (.return_, 1) := by decide +kernel
theorem d_N_in_0 : decode m_N_in.2.1 0 = .ok (.iload_n 0, 1) := by decide +kernel
theorem d_N_in_1 : decode m_N_in.2.1 1 = .ok (.iload_n 1, 1) := by decide +kernel
theorem d_N_in_2 : decode m_N_in.2.1 2 = .ok (.if_icmp .lt 12, 3) := by decide +kernel
theorem d_N_in_5 : decode m_N_in.2.1 5 = .ok (.iload_n 0, 1) := by decide +kernel
theorem d_N_in_6 : decode m_N_in.2.1 6 = .ok (.iload_n 2, 1) := by decide +kernel
theorem d_N_in_7 : decode m_N_in.2.1 7 = .ok (.if_icmp .gt 7, 3) := by decide +kernel
theorem d_N_in_10 : decode m_N_in.2.1 10 = .ok (.iconst 1, 1) := by decide +kernel
theorem d_N_in_11 : decode m_N_in.2.1 11 = .ok (.goto 4, 3) := by decide +kernel
theorem d_N_in_14 : decode m_N_in.2.1 14 = .ok (.iconst 0, 1) := by decide +kernel
theorem d_N_in_15 : decode m_N_in.2.1 15 = .ok (.ireturn, 1) := by decide +kernel
theorem d_N_copy_0 : decode m_N_copy.2.1 0 = .ok (.iconst 0, 1) := by decide +kernel
theorem d_N_copy_1 : decode m_N_copy.2.1 1 = .ok (.istore_n 3, 1) := by decide +kernel
theorem d_N_copy_2 : decode m_N_copy.2.1 2 = .ok (.iload_n 3, 1) := by decide +kernel
theorem d_N_copy_3 : decode m_N_copy.2.1 3 = .ok (.iconst 2, 1) := by decide +kernel
theorem d_N_copy_4 : decode m_N_copy.2.1 4 = .ok (.aload_n 0, 1) := by decide +kernel
theorem d_N_copy_5 : decode m_N_copy.2.1 5 = .ok (.getfield 22, 3) := by decide +kernel
theorem d_N_copy_8 : decode m_N_copy.2.1 8 = .ok (.bipush 32, 2) := by decide +kernel
theorem d_N_copy_10 : decode m_N_copy.2.1 10 = .ok (.iload_n 1, 1) := by decide +kernel
theorem d_N_copy_11 : decode m_N_copy.2.1 11 = .ok (.imul, 1) := by decide +kernel
theorem d_N_copy_12 : decode m_N_copy.2.1 12 = .ok (.iaload, 1) := by decide +kernel
theorem d_N_copy_13 : decode m_N_copy.2.1 13 = .ok (.imul, 1) := by decide +kernel
theorem d_N_copy_14 : decode m_N_copy.2.1 14 = .ok (.if_icmp .gt 31, 3) := by decide +kernel
theorem d_N_copy_17 : decode m_N_copy.2.1 17 = .ok (.aload_n 0, 1) := by decide +kernel
theorem d_N_copy_18 : decode m_N_copy.2.1 18 = .ok (.getfield 22, 3) := by decide +kernel
theorem d_N_copy_21 : decode m_N_copy.2.1 21 = .ok (.bipush 32, 2) := by decide +kernel
theorem d_N_copy_23 : decode m_N_copy.2.1 23 = .ok (.iload_n 2, 1) := by decide +kernel
theorem d_N_copy_24 : decode m_N_copy.2.1 24 = .ok (.imul, 1) := by decide +kernel
theorem d_N_copy_25 : decode m_N_copy.2.1 25 = .ok (.iload_n 3, 1) := by decide +kernel
theorem d_N_copy_26 : decode m_N_copy.2.1 26 = .ok (.iadd, 1) := by decide +kernel
theorem d_N_copy_27 : decode m_N_copy.2.1 27 = .ok (.aload_n 0, 1) := by decide +kernel
theorem d_N_copy_28 : decode m_N_copy.2.1 28 = .ok (.getfield 22, 3) := by decide +kernel
theorem d_N_copy_31 : decode m_N_copy.2.1 31 = .ok (.bipush 32, 2) := by decide +kernel
theorem d_N_copy_33 : decode m_N_copy.2.1 33 = .ok (.iload_n 1, 1) := by decide +kernel
theorem d_N_copy_34 : decode m_N_copy.2.1 34 = .ok (.imul, 1) := by decide +kernel
theorem d_N_copy_35 : decode m_N_copy.2.1 35 = .ok (.iload_n 3, 1) := by decide +kernel
theorem d_N_copy_36 : decode m_N_copy.2.1 36 = .ok (.iadd, 1) := by decide +kernel
theorem d_N_copy_37 : decode m_N_copy.2.1 37 = .ok (.iaload, 1) := by decide +kernel
theorem d_N_copy_38 : decode m_N_copy.2.1 38 = .ok (.iastore, 1) := by decide +kernel
theorem d_N_copy_39 : decode m_N_copy.2.1 39 = .ok (.iinc 3 1, 3) := by decide +kernel
theorem d_N_copy_42 : decode m_N_copy.2.1 42 = .ok (.goto (-40), 3) := by decide +kernel
theorem d_N_copy_45 : decode m_N_copy.2.1 45 = .ok (.return_, 1) := by decide +kernel
theorem d_N_put_0 : decode m_N_put.2.1 0 = .ok (.aload_n 0, 1) := by decide +kernel
theorem d_N_put_1 : decode m_N_put.2.1 1 = .ok (.getfield 22, 3) := by decide +kernel
theorem d_N_put_4 : decode m_N_put.2.1 4 = .ok (.bipush 32, 2) := by decide +kernel
theorem d_N_put_6 : decode m_N_put.2.1 6 = .ok (.iload_n 1, 1) := by decide +kernel
theorem d_N_put_7 : decode m_N_put.2.1 7 = .ok (.imul, 1) := by decide +kernel
theorem d_N_put_8 : decode m_N_put.2.1 8 = .ok (.iconst 1, 1) := by decide +kernel
theorem d_N_put_9 : decode m_N_put.2.1 9 = .ok (.iastore, 1) := by decide +kernel
theorem d_N_put_10 : decode m_N_put.2.1 10 = .ok (.aload_n 0, 1) := by decide +kernel
theorem d_N_put_11 : decode m_N_put.2.1 11 = .ok (.getfield 22, 3) := by decide +kernel
theorem d_N_put_14 : decode m_N_put.2.1 14 = .ok (.bipush 32, 2) := by decide +kernel
theorem d_N_put_16 : decode m_N_put.2.1 16 = .ok (.iload_n 1, 1) := by decide +kernel
theorem d_N_put_17 : decode m_N_put.2.1 17 = .ok (.imul, 1) := by decide +kernel
theorem d_N_put_18 : decode m_N_put.2.1 18 = .ok (.iconst 1, 1) := by decide +kernel
theorem d_N_put_19 : decode m_N_put.2.1 19 = .ok (.iadd, 1) := by decide +kernel
theorem d_N_put_20 : decode m_N_put.2.1 20 = .ok (.iload_n 2, 1) := by decide +kernel
theorem d_N_put_21 : decode m_N_put.2.1 21 = .ok (.iastore, 1) := by decide +kernel
theorem d_N_put_22 : decode m_N_put.2.1 22 = .ok (.aload_n 0, 1) := by decide +kernel
theorem d_N_put_23 : decode m_N_put.2.1 23 = .ok (.getfield 22, 3) := by decide +kernel
theorem d_N_put_26 : decode m_N_put.2.1 26 = .ok (.bipush 32, 2) := by decide +kernel
theorem d_N_put_28 : decode m_N_put.2.1 28 = .ok (.iload_n 1, 1) := by decide +kernel
theorem d_N_put_29 : decode m_N_put.2.1 29 = .ok (.imul, 1) := by decide +kernel
theorem d_N_put_30 : decode m_N_put.2.1 30 = .ok (.iconst 2, 1) := by decide +kernel
theorem d_N_put_31 : decode m_N_put.2.1 31 = .ok (.iadd, 1) := by decide +kernel
theorem d_N_put_32 : decode m_N_put.2.1 32 = .ok (.iload_n 3, 1) := by decide +kernel
theorem d_N_put_33 : decode m_N_put.2.1 33 = .ok (.iastore, 1) := by decide +kernel
theorem d_N_put_34 : decode m_N_put.2.1 34 = .ok (.return_, 1) := by decide +kernel
theorem d_N_append_0 : decode m_N_append.2.1 0 = .ok (.aload_n 0, 1) := by decide +kernel
theorem d_N_append_1 : decode m_N_append.2.1 1 = .ok (.getfield 22, 3) := by decide +kernel
theorem d_N_append_4 : decode m_N_append.2.1 4 = .ok (.bipush 32, 2) := by decide +kernel
theorem d_N_append_6 : decode m_N_append.2.1 6 = .ok (.iload_n 1, 1) := by decide +kernel
theorem d_N_append_7 : decode m_N_append.2.1 7 = .ok (.imul, 1) := by decide +kernel
theorem d_N_append_8 : decode m_N_append.2.1 8 = .ok (.iaload, 1) := by decide +kernel
theorem d_N_append_9 : decode m_N_append.2.1 9 = .ok (.istore 4, 2) := by decide +kernel
theorem d_N_append_11 : decode m_N_append.2.1 11 = .ok (.aload_n 0, 1) := by decide +kernel
theorem d_N_append_12 : decode m_N_append.2.1 12 = .ok (.getfield 22, 3) := by decide +kernel
theorem d_N_append_15 : decode m_N_append.2.1 15 = .ok (.bipush 32, 2) := by decide +kernel
theorem d_N_append_17 : decode m_N_append.2.1 17 = .ok (.iload_n 1, 1) := by decide +kernel
theorem d_N_append_18 : decode m_N_append.2.1 18 = .ok (.imul, 1) := by decide +kernel
theorem d_N_append_19 : decode m_N_append.2.1 19 = .ok (.iconst 1, 1) := by decide +kernel
theorem d_N_append_20 : decode m_N_append.2.1 20 = .ok (.iadd, 1) := by decide +kernel
theorem d_N_append_21 : decode m_N_append.2.1 21 = .ok (.iconst 2, 1) := by decide +kernel
theorem d_N_append_22 : decode m_N_append.2.1 22 = .ok (.iload 4, 2) := by decide +kernel
theorem d_N_append_24 : decode m_N_append.2.1 24 = .ok (.imul, 1) := by decide +kernel
theorem d_N_append_25 : decode m_N_append.2.1 25 = .ok (.iadd, 1) := by decide +kernel
theorem d_N_append_26 : decode m_N_append.2.1 26 = .ok (.iload_n 2, 1) := by decide +kernel
theorem d_N_append_27 : decode m_N_append.2.1 27 = .ok (.iastore, 1) := by decide +kernel
theorem d_N_append_28 : decode m_N_append.2.1 28 = .ok (.aload_n 0, 1) := by decide +kernel
theorem d_N_append_29 : decode m_N_append.2.1 29 = .ok (.getfield 22, 3) := by decide +kernel
theorem d_N_append_32 : decode m_N_append.2.1 32 = .ok (.bipush 32, 2) := by decide +kernel
theorem d_N_append_34 : decode m_N_append.2.1 34 = .ok (.iload_n 1, 1) := by decide +kernel
theorem d_N_append_35 : decode m_N_append.2.1 35 = .ok (.imul, 1) := by decide +kernel
theorem d_N_append_36 : decode m_N_append.2.1 36 = .ok (.iconst 2, 1) := by decide +kernel
theorem d_N_append_37 : decode m_N_append.2.1 37 = .ok (.iadd, 1) := by decide +kernel
theorem d_N_append_38 : decode m_N_append.2.1 38 = .ok (.iconst 2, 1) := by decide +kernel
theorem d_N_append_39 : decode m_N_append.2.1 39 = .ok (.iload 4, 2) := by decide +kernel
theorem d_N_append_41 : decode m_N_append.2.1 41 = .ok (.imul, 1) := by decide +kernel
theorem d_N_append_42 : decode m_N_append.2.1 42 = .ok (.iadd, 1) := by decide +kernel
theorem d_N_append_43 : decode m_N_append.2.1 43 = .ok (.iload_n 3, 1) := by decide +kernel
theorem d_N_append_44 : decode m_N_append.2.1 44 = .ok (.iastore, 1) := by decide +kernel
theorem d_N_append_45 : decode m_N_append.2.1 45 = .ok (.aload_n 0, 1) := by decide +kernel
theorem d_N_append_46 : decode m_N_append.2.1 46 = .ok (.getfield 22, 3) := by decide +kernel
theorem d_N_append_49 : decode m_N_append.2.1 49 = .ok (.bipush 32, 2) := by decide +kernel
theorem d_N_append_51 : decode m_N_append.2.1 51 = .ok (.iload_n 1, 1) := by decide +kernel
theorem d_N_append_52 : decode m_N_append.2.1 52 = .ok (.imul, 1) := by decide +kernel
theorem d_N_append_53 : decode m_N_append.2.1 53 = .ok (.iload 4, 2) := by decide +kernel
theorem d_N_append_55 : decode m_N_append.2.1 55 = .ok (.iconst 1, 1) := by decide +kernel
theorem d_N_append_56 : decode m_N_append.2.1 56 = .ok (.iadd, 1) := by decide +kernel
theorem d_N_append_57 : decode m_N_append.2.1 57 = .ok (.iastore, 1) := by decide +kernel
theorem d_N_append_58 : decode m_N_append.2.1 58 = .ok (.return_, 1) := by decide +kernel
theorem d_N_addParts_0 : decode m_N_addParts.2.1 0 = .ok (.iload_n 3, 1) := by decide +kernel
theorem d_N_addParts_1 : decode m_N_addParts.2.1 1 = .ok (.istore 5, 2) := by decide +kernel
theorem d_N_addParts_3 : decode m_N_addParts.2.1 3 = .ok (.iload 5, 2) := by decide +kernel
theorem d_N_addParts_5 : decode m_N_addParts.2.1 5 = .ok (.iload 4, 2) := by decide +kernel
theorem d_N_addParts_7 : decode m_N_addParts.2.1 7 = .ok (.if_icmp .ge 28, 3) := by decide +kernel
theorem d_N_addParts_10 : decode m_N_addParts.2.1 10 = .ok (.aload_n 0, 1) := by decide +kernel
theorem d_N_addParts_11 : decode m_N_addParts.2.1 11 = .ok (.iload_n 1, 1) := by decide +kernel
theorem d_N_addParts_12 : decode m_N_addParts.2.1 12 = .ok (.aload_n 0, 1) := by decide +kernel
theorem d_N_addParts_13 : decode m_N_addParts.2.1 13 = .ok (.iload_n 2, 1) := by decide +kernel
theorem d_N_addParts_14 : decode m_N_addParts.2.1 14 = .ok (.iload 5, 2) := by decide +kernel
theorem d_N_addParts_16 : decode m_N_addParts.2.1 16 = .ok (.invokevirtual 66, 3) := by decide +kernel
theorem d_N_addParts_19 : decode m_N_addParts.2.1 19 = .ok (.aload_n 0, 1) := by decide +kernel
theorem d_N_addParts_20 : decode m_N_addParts.2.1 20 = .ok (.iload_n 2, 1) := by decide +kernel
theorem d_N_addParts_21 : decode m_N_addParts.2.1 21 = .ok (.iload 5, 2) := by decide +kernel
theorem d_N_addParts_23 : decode m_N_addParts.2.1 23 = .ok (.invokevirtual 70, 3) := by decide +kernel
theorem d_N_addParts_26 : decode m_N_addParts.2.1 26 = .ok (.invokevirtual 73, 3) := by decide +kernel
theorem d_N_addParts_29 : decode m_N_addParts.2.1 29 = .ok (.iinc 5 1, 3) := by decide +kernel
theorem d_N_addParts_32 : decode m_N_addParts.2.1 32 = .ok (.goto (-29), 3) := by decide +kernel
theorem d_N_addParts_35 : decode m_N_addParts.2.1 35 = .ok (.return_, 1) := by decide +kernel
theorem d_N_weight_0 : decode m_N_weight.2.1 0 = .ok (.aload_n 0, 1) := by decide +kernel
theorem d_N_weight_1 : decode m_N_weight.2.1 1 = .ok (.getfield 22, 3) := by decide +kernel
theorem d_N_weight_4 : decode m_N_weight.2.1 4 = .ok (.bipush 32, 2) := by decide +kernel
theorem d_N_weight_6 : decode m_N_weight.2.1 6 = .ok (.iload_n 1, 1) := by decide +kernel
theorem d_N_weight_7 : decode m_N_weight.2.1 7 = .ok (.imul, 1) := by decide +kernel
theorem d_N_weight_8 : decode m_N_weight.2.1 8 = .ok (.iaload, 1) := by decide +kernel
theorem d_N_weight_9 : decode m_N_weight.2.1 9 = .ok (.ireturn, 1) := by decide +kernel
theorem d_N_sortOf_0 : decode m_N_sortOf.2.1 0 = .ok (.aload_n 0, 1) := by decide +kernel
theorem d_N_sortOf_1 : decode m_N_sortOf.2.1 1 = .ok (.getfield 22, 3) := by decide +kernel
theorem d_N_sortOf_4 : decode m_N_sortOf.2.1 4 = .ok (.bipush 32, 2) := by decide +kernel
theorem d_N_sortOf_6 : decode m_N_sortOf.2.1 6 = .ok (.iload_n 1, 1) := by decide +kernel
theorem d_N_sortOf_7 : decode m_N_sortOf.2.1 7 = .ok (.imul, 1) := by decide +kernel
theorem d_N_sortOf_8 : decode m_N_sortOf.2.1 8 = .ok (.iconst 1, 1) := by decide +kernel
theorem d_N_sortOf_9 : decode m_N_sortOf.2.1 9 = .ok (.iadd, 1) := by decide +kernel
theorem d_N_sortOf_10 : decode m_N_sortOf.2.1 10 = .ok (.iconst 2, 1) := by decide +kernel
theorem d_N_sortOf_11 : decode m_N_sortOf.2.1 11 = .ok (.iload_n 2, 1) := by decide +kernel
theorem d_N_sortOf_12 : decode m_N_sortOf.2.1 12 = .ok (.imul, 1) := by decide +kernel
theorem d_N_sortOf_13 : decode m_N_sortOf.2.1 13 = .ok (.iadd, 1) := by decide +kernel
theorem d_N_sortOf_14 : decode m_N_sortOf.2.1 14 = .ok (.iaload, 1) := by decide +kernel
theorem d_N_sortOf_15 : decode m_N_sortOf.2.1 15 = .ok (.ireturn, 1) := by decide +kernel
theorem d_N_numberOf_0 : decode m_N_numberOf.2.1 0 = .ok (.aload_n 0, 1) := by decide +kernel
theorem d_N_numberOf_1 : decode m_N_numberOf.2.1 1 = .ok (.getfield 22, 3) := by decide +kernel
theorem d_N_numberOf_4 : decode m_N_numberOf.2.1 4 = .ok (.bipush 32, 2) := by decide +kernel
theorem d_N_numberOf_6 : decode m_N_numberOf.2.1 6 = .ok (.iload_n 1, 1) := by decide +kernel
theorem d_N_numberOf_7 : decode m_N_numberOf.2.1 7 = .ok (.imul, 1) := by decide +kernel
theorem d_N_numberOf_8 : decode m_N_numberOf.2.1 8 = .ok (.iconst 2, 1) := by decide +kernel
theorem d_N_numberOf_9 : decode m_N_numberOf.2.1 9 = .ok (.iadd, 1) := by decide +kernel
theorem d_N_numberOf_10 : decode m_N_numberOf.2.1 10 = .ok (.iconst 2, 1) := by decide +kernel
theorem d_N_numberOf_11 : decode m_N_numberOf.2.1 11 = .ok (.iload_n 2, 1) := by decide +kernel
theorem d_N_numberOf_12 : decode m_N_numberOf.2.1 12 = .ok (.imul, 1) := by decide +kernel
theorem d_N_numberOf_13 : decode m_N_numberOf.2.1 13 = .ok (.iadd, 1) := by decide +kernel
theorem d_N_numberOf_14 : decode m_N_numberOf.2.1 14 = .ok (.iaload, 1) := by decide +kernel
theorem d_N_numberOf_15 : decode m_N_numberOf.2.1 15 = .ok (.ireturn, 1) := by decide +kernel
theorem d_N_behind_0 : decode m_N_behind.2.1 0 = .ok (.iconst 1, 1) := by decide +kernel
theorem d_N_behind_1 : decode m_N_behind.2.1 1 = .ok (.istore_n 3, 1) := by decide +kernel
theorem d_N_behind_2 : decode m_N_behind.2.1 2 = .ok (.iload_n 2, 1) := by decide +kernel
theorem d_N_behind_3 : decode m_N_behind.2.1 3 = .ok (.istore 4, 2) := by decide +kernel
theorem d_N_behind_5 : decode m_N_behind.2.1 5 = .ok (.iload_n 3, 1) := by decide +kernel
theorem d_N_behind_6 : decode m_N_behind.2.1 6 = .ok (.ifCond .le 33, 3) := by decide +kernel
theorem d_N_behind_9 : decode m_N_behind.2.1 9 = .ok (.aload_n 0, 1) := by decide +kernel
theorem d_N_behind_10 : decode m_N_behind.2.1 10 = .ok (.iload_n 1, 1) := by decide +kernel
theorem d_N_behind_11 : decode m_N_behind.2.1 11 = .ok (.iload 4, 2) := by decide +kernel
theorem d_N_behind_13 : decode m_N_behind.2.1 13 = .ok (.invokevirtual 66, 3) := by decide +kernel
theorem d_N_behind_16 : decode m_N_behind.2.1 16 = .ok (.iconst 4, 1) := by decide +kernel
theorem d_N_behind_17 : decode m_N_behind.2.1 17 = .ok (.if_icmp .lt 9, 3) := by decide +kernel
theorem d_N_behind_20 : decode m_N_behind.2.1 20 = .ok (.iload_n 3, 1) := by decide +kernel
theorem d_N_behind_21 : decode m_N_behind.2.1 21 = .ok (.iconst 1, 1) := by decide +kernel
theorem d_N_behind_22 : decode m_N_behind.2.1 22 = .ok (.iadd, 1) := by decide +kernel
theorem d_N_behind_23 : decode m_N_behind.2.1 23 = .ok (.goto 6, 3) := by decide +kernel
theorem d_N_behind_26 : decode m_N_behind.2.1 26 = .ok (.iload_n 3, 1) := by decide +kernel
theorem d_N_behind_27 : decode m_N_behind.2.1 27 = .ok (.iconst 1, 1) := by decide +kernel
theorem d_N_behind_28 : decode m_N_behind.2.1 28 = .ok (.isub, 1) := by decide +kernel
theorem d_N_behind_29 : decode m_N_behind.2.1 29 = .ok (.istore_n 3, 1) := by decide +kernel
theorem d_N_behind_30 : decode m_N_behind.2.1 30 = .ok (.iload 4, 2) := by decide +kernel
theorem d_N_behind_32 : decode m_N_behind.2.1 32 = .ok (.iconst 1, 1) := by decide +kernel
theorem d_N_behind_33 : decode m_N_behind.2.1 33 = .ok (.iadd, 1) := by decide +kernel
theorem d_N_behind_34 : decode m_N_behind.2.1 34 = .ok (.istore 4, 2) := by decide +kernel
theorem d_N_behind_36 : decode m_N_behind.2.1 36 = .ok (.goto (-31), 3) := by decide +kernel
theorem d_N_behind_39 : decode m_N_behind.2.1 39 = .ok (.iload 4, 2) := by decide +kernel
theorem d_N_behind_41 : decode m_N_behind.2.1 41 = .ok (.ireturn, 1) := by decide +kernel
theorem d_N_isSame_0 : decode m_N_isSame.2.1 0 = .ok (.aload_n 0, 1) := by decide +kernel
theorem d_N_isSame_1 : decode m_N_isSame.2.1 1 = .ok (.iload_n 1, 1) := by decide +kernel
theorem d_N_isSame_2 : decode m_N_isSame.2.1 2 = .ok (.invokevirtual 77, 3) := by decide +kernel
theorem d_N_isSame_5 : decode m_N_isSame.2.1 5 = .ok (.aload_n 0, 1) := by decide +kernel
theorem d_N_isSame_6 : decode m_N_isSame.2.1 6 = .ok (.iload_n 2, 1) := by decide +kernel
theorem d_N_isSame_7 : decode m_N_isSame.2.1 7 = .ok (.invokevirtual 77, 3) := by decide +kernel
theorem d_N_isSame_10 : decode m_N_isSame.2.1 10 = .ok (.if_icmp .ne 7, 3) := by decide +kernel
theorem d_N_isSame_13 : decode m_N_isSame.2.1 13 = .ok (.iconst 1, 1) := by decide +kernel
theorem d_N_isSame_14 : decode m_N_isSame.2.1 14 = .ok (.goto 4, 3) := by decide +kernel
theorem d_N_isSame_17 : decode m_N_isSame.2.1 17 = .ok (.iconst 0, 1) := by decide +kernel
theorem d_N_isSame_18 : decode m_N_isSame.2.1 18 = .ok (.istore_n 3, 1) := by decide +kernel
theorem d_N_isSame_19 : decode m_N_isSame.2.1 19 = .ok (.iconst 0, 1) := by decide +kernel
theorem d_N_isSame_20 : decode m_N_isSame.2.1 20 = .ok (.istore 4, 2) := by decide +kernel
theorem d_N_isSame_22 : decode m_N_isSame.2.1 22 = .ok (.iload 4, 2) := by decide +kernel
theorem d_N_isSame_24 : decode m_N_isSame.2.1 24 = .ok (.aload_n 0, 1) := by decide +kernel
theorem d_N_isSame_25 : decode m_N_isSame.2.1 25 = .ok (.iload_n 1, 1) := by decide +kernel
theorem d_N_isSame_26 : decode m_N_isSame.2.1 26 = .ok (.invokevirtual 77, 3) := by decide +kernel
theorem d_N_isSame_29 : decode m_N_isSame.2.1 29 = .ok (.if_icmp .ge 53, 3) := by decide +kernel
theorem d_N_isSame_32 : decode m_N_isSame.2.1 32 = .ok (.iload_n 3, 1) := by decide +kernel
theorem d_N_isSame_33 : decode m_N_isSame.2.1 33 = .ok (.ifCond .eq 49, 3) := by decide +kernel
theorem d_N_isSame_36 : decode m_N_isSame.2.1 36 = .ok (.aload_n 0, 1) := by decide +kernel
theorem d_N_isSame_37 : decode m_N_isSame.2.1 37 = .ok (.iload_n 1, 1) := by decide +kernel
theorem d_N_isSame_38 : decode m_N_isSame.2.1 38 = .ok (.iload 4, 2) := by decide +kernel
theorem d_N_isSame_40 : decode m_N_isSame.2.1 40 = .ok (.invokevirtual 66, 3) := by decide +kernel
theorem d_N_isSame_43 : decode m_N_isSame.2.1 43 = .ok (.aload_n 0, 1) := by decide +kernel
theorem d_N_isSame_44 : decode m_N_isSame.2.1 44 = .ok (.iload_n 2, 1) := by decide +kernel
theorem d_N_isSame_45 : decode m_N_isSame.2.1 45 = .ok (.iload 4, 2) := by decide +kernel
theorem d_N_isSame_47 : decode m_N_isSame.2.1 47 = .ok (.invokevirtual 66, 3) := by decide +kernel
theorem d_N_isSame_50 : decode m_N_isSame.2.1 50 = .ok (.if_icmp .ne 24, 3) := by decide +kernel
theorem d_N_isSame_53 : decode m_N_isSame.2.1 53 = .ok (.aload_n 0, 1) := by decide +kernel
theorem d_N_isSame_54 : decode m_N_isSame.2.1 54 = .ok (.iload_n 1, 1) := by decide +kernel
theorem d_N_isSame_55 : decode m_N_isSame.2.1 55 = .ok (.iload 4, 2) := by decide +kernel
theorem d_N_isSame_57 : decode m_N_isSame.2.1 57 = .ok (.invokevirtual 70, 3) := by decide +kernel
theorem d_N_isSame_60 : decode m_N_isSame.2.1 60 = .ok (.aload_n 0, 1) := by decide +kernel
theorem d_N_isSame_61 : decode m_N_isSame.2.1 61 = .ok (.iload_n 2, 1) := by decide +kernel
theorem d_N_isSame_62 : decode m_N_isSame.2.1 62 = .ok (.iload 4, 2) := by decide +kernel
theorem d_N_isSame_64 : decode m_N_isSame.2.1 64 = .ok (.invokevirtual 70, 3) := by decide +kernel
theorem d_N_isSame_67 : decode m_N_isSame.2.1 67 = .ok (.if_icmp .ne 7, 3) := by decide +kernel
theorem d_N_isSame_70 : decode m_N_isSame.2.1 70 = .ok (.iconst 1, 1) := by decide +kernel
theorem d_N_isSame_71 : decode m_N_isSame.2.1 71 = .ok (.goto 4, 3) := by decide +kernel
theorem d_N_isSame_74 : decode m_N_isSame.2.1 74 = .ok (.iconst 0, 1) := by decide +kernel
theorem d_N_isSame_75 : decode m_N_isSame.2.1 75 = .ok (.istore_n 3, 1) := by decide +kernel
theorem d_N_isSame_76 : decode m_N_isSame.2.1 76 = .ok (.iinc 4 1, 3) := by decide +kernel
theorem d_N_isSame_79 : decode m_N_isSame.2.1 79 = .ok (.goto (-57), 3) := by decide +kernel
theorem d_N_isSame_82 : decode m_N_isSame.2.1 82 = .ok (.iload_n 3, 1) := by decide +kernel
theorem d_N_isSame_83 : decode m_N_isSame.2.1 83 = .ok (.ireturn, 1) := by decide +kernel
theorem d_N_isRight_0 : decode m_N_isRight.2.1 0 = .ok (.iload_n 0, 1) := by decide +kernel
theorem d_N_isRight_1 : decode m_N_isRight.2.1 1 = .ok (.ifCond .eq 42, 3) := by decide +kernel
theorem d_N_isRight_4 : decode m_N_isRight.2.1 4 = .ok (.iload_n 1, 1) := by decide +kernel
theorem d_N_isRight_5 : decode m_N_isRight.2.1 5 = .ok (.iconst 0, 1) := by decide +kernel
theorem d_N_isRight_6 : decode m_N_isRight.2.1 6 = .ok (.iload_n 0, 1) := by decide +kernel
theorem d_N_isRight_7 : decode m_N_isRight.2.1 7 = .ok (.iconst 1, 1) := by decide +kernel
theorem d_N_isRight_8 : decode m_N_isRight.2.1 8 = .ok (.if_icmp .ne 8, 3) := by decide +kernel
theorem d_N_isRight_11 : decode m_N_isRight.2.1 11 = .ok (.bipush 7, 2) := by decide +kernel
theorem d_N_isRight_13 : decode m_N_isRight.2.1 13 = .ok (.goto 24, 3) := by decide +kernel
theorem d_N_isRight_16 : decode m_N_isRight.2.1 16 = .ok (.iload_n 0, 1) := by decide +kernel
theorem d_N_isRight_17 : decode m_N_isRight.2.1 17 = .ok (.iconst 2, 1) := by decide +kernel
theorem d_N_isRight_18 : decode m_N_isRight.2.1 18 = .ok (.if_icmp .ne 8, 3) := by decide +kernel
theorem d_N_isRight_21 : decode m_N_isRight.2.1 21 = .ok (.bipush 47, 2) := by decide +kernel
theorem d_N_isRight_23 : decode m_N_isRight.2.1 23 = .ok (.goto 14, 3) := by decide +kernel
theorem d_N_isRight_26 : decode m_N_isRight.2.1 26 = .ok (.iload_n 0, 1) := by decide +kernel
theorem d_N_isRight_27 : decode m_N_isRight.2.1 27 = .ok (.iconst 3, 1) := by decide +kernel
theorem d_N_isRight_28 : decode m_N_isRight.2.1 28 = .ok (.if_icmp .ne 8, 3) := by decide +kernel
theorem d_N_isRight_31 : decode m_N_isRight.2.1 31 = .ok (.bipush 15, 2) := by decide +kernel
theorem d_N_isRight_33 : decode m_N_isRight.2.1 33 = .ok (.goto 4, 3) := by decide +kernel
theorem d_N_isRight_36 : decode m_N_isRight.2.1 36 = .ok (.iconst 5, 1) := by decide +kernel
theorem d_N_isRight_37 : decode m_N_isRight.2.1 37 = .ok (.invokestatic 81, 3) := by decide +kernel
theorem d_N_isRight_40 : decode m_N_isRight.2.1 40 = .ok (.ifCond .eq 7, 3) := by decide +kernel
theorem d_N_isRight_43 : decode m_N_isRight.2.1 43 = .ok (.iconst 1, 1) := by decide +kernel
theorem d_N_isRight_44 : decode m_N_isRight.2.1 44 = .ok (.goto 4, 3) := by decide +kernel
theorem d_N_isRight_47 : decode m_N_isRight.2.1 47 = .ok (.iconst 0, 1) := by decide +kernel
theorem d_N_isRight_48 : decode m_N_isRight.2.1 48 = .ok (.ireturn, 1) := by decide +kernel
theorem d_N_firstNeeds_0 : decode m_N_firstNeeds.2.1 0 = .ok (.iload_n 0, 1) := by decide +kernel
theorem d_N_firstNeeds_1 : decode m_N_firstNeeds.2.1 1 = .ok (.bipush 16, 2) := by decide +kernel
theorem d_N_firstNeeds_3 : decode m_N_firstNeeds.2.1 3 = .ok (.if_icmp .eq 15, 3) := by decide +kernel
theorem d_N_firstNeeds_6 : decode m_N_firstNeeds.2.1 6 = .ok (.iload_n 0, 1) := by decide +kernel
theorem d_N_firstNeeds_7 : decode m_N_firstNeeds.2.1 7 = .ok (.bipush 19, 2) := by decide +kernel
theorem d_N_firstNeeds_9 : decode m_N_firstNeeds.2.1 9 = .ok (.if_icmp .eq 9, 3) := by decide +kernel
theorem d_N_firstNeeds_12 : decode m_N_firstNeeds.2.1 12 = .ok (.iload_n 0, 1) := by decide +kernel
theorem d_N_firstNeeds_13 : decode m_N_firstNeeds.2.1 13 = .ok (.bipush 24, 2) := by decide +kernel
theorem d_N_firstNeeds_15 : decode m_N_firstNeeds.2.1 15 = .ok (.if_icmp .ne 7, 3) := by decide +kernel
theorem d_N_firstNeeds_18 : decode m_N_firstNeeds.2.1 18 = .ok (.iconst 0, 1) := by decide +kernel
theorem d_N_firstNeeds_19 : decode m_N_firstNeeds.2.1 19 = .ok (.goto 32, 3) := by decide +kernel
theorem d_N_firstNeeds_22 : decode m_N_firstNeeds.2.1 22 = .ok (.iload_n 0, 1) := by decide +kernel
theorem d_N_firstNeeds_23 : decode m_N_firstNeeds.2.1 23 = .ok (.bipush 14, 2) := by decide +kernel
theorem d_N_firstNeeds_25 : decode m_N_firstNeeds.2.1 25 = .ok (.if_icmp .eq 21, 3) := by decide +kernel
theorem d_N_firstNeeds_28 : decode m_N_firstNeeds.2.1 28 = .ok (.iload_n 0, 1) := by decide +kernel
theorem d_N_firstNeeds_29 : decode m_N_firstNeeds.2.1 29 = .ok (.bipush 15, 2) := by decide +kernel
theorem d_N_firstNeeds_31 : decode m_N_firstNeeds.2.1 31 = .ok (.if_icmp .eq 15, 3) := by decide +kernel
theorem d_N_firstNeeds_34 : decode m_N_firstNeeds.2.1 34 = .ok (.iload_n 0, 1) := by decide +kernel
theorem d_N_firstNeeds_35 : decode m_N_firstNeeds.2.1 35 = .ok (.bipush 20, 2) := by decide +kernel
theorem d_N_firstNeeds_37 : decode m_N_firstNeeds.2.1 37 = .ok (.if_icmp .eq 9, 3) := by decide +kernel
theorem d_N_firstNeeds_40 : decode m_N_firstNeeds.2.1 40 = .ok (.iload_n 0, 1) := by decide +kernel
theorem d_N_firstNeeds_41 : decode m_N_firstNeeds.2.1 41 = .ok (.bipush 21, 2) := by decide +kernel
theorem d_N_firstNeeds_43 : decode m_N_firstNeeds.2.1 43 = .ok (.if_icmp .ne 7, 3) := by decide +kernel
theorem d_N_firstNeeds_46 : decode m_N_firstNeeds.2.1 46 = .ok (.iconst 2, 1) := by decide +kernel
theorem d_N_firstNeeds_47 : decode m_N_firstNeeds.2.1 47 = .ok (.goto 4, 3) := by decide +kernel
theorem d_N_firstNeeds_50 : decode m_N_firstNeeds.2.1 50 = .ok (.iconst 1, 1) := by decide +kernel
theorem d_N_firstNeeds_51 : decode m_N_firstNeeds.2.1 51 = .ok (.ireturn, 1) := by decide +kernel
theorem d_N_secondNeeds_0 : decode m_N_secondNeeds.2.1 0 = .ok (.iload_n 0, 1) := by decide +kernel
theorem d_N_secondNeeds_1 : decode m_N_secondNeeds.2.1 1 = .ok (.iconst 1, 1) := by decide +kernel
theorem d_N_secondNeeds_2 : decode m_N_secondNeeds.2.1 2 = .ok (.if_icmp .ne 7, 3) := by decide +kernel
theorem d_N_secondNeeds_5 : decode m_N_secondNeeds.2.1 5 = .ok (.iconst 3, 1) := by decide +kernel
theorem d_N_secondNeeds_6 : decode m_N_secondNeeds.2.1 6 = .ok (.goto 55, 3) := by decide +kernel
theorem d_N_secondNeeds_9 : decode m_N_secondNeeds.2.1 9 = .ok (.iload_n 0, 1) := by decide +kernel
theorem d_N_secondNeeds_10 : decode m_N_secondNeeds.2.1 10 = .ok (.bipush 13, 2) := by decide +kernel
theorem d_N_secondNeeds_12 : decode m_N_secondNeeds.2.1 12 = .ok (.if_icmp .ne 7, 3) := by decide +kernel
theorem d_N_secondNeeds_15 : decode m_N_secondNeeds.2.1 15 = .ok (.iconst 4, 1) := by decide +kernel
theorem d_N_secondNeeds_16 : decode m_N_secondNeeds.2.1 16 = .ok (.goto 45, 3) := by decide +kernel
theorem d_N_secondNeeds_19 : decode m_N_secondNeeds.2.1 19 = .ok (.iload_n 0, 1) := by decide +kernel
theorem d_N_secondNeeds_20 : decode m_N_secondNeeds.2.1 20 = .ok (.bipush 18, 2) := by decide +kernel
theorem d_N_secondNeeds_22 : decode m_N_secondNeeds.2.1 22 = .ok (.if_icmp .eq 9, 3) := by decide +kernel
theorem d_N_secondNeeds_25 : decode m_N_secondNeeds.2.1 25 = .ok (.iload_n 0, 1) := by decide +kernel
theorem d_N_secondNeeds_26 : decode m_N_secondNeeds.2.1 26 = .ok (.bipush 22, 2) := by decide +kernel
theorem d_N_secondNeeds_28 : decode m_N_secondNeeds.2.1 28 = .ok (.if_icmp .ne 7, 3) := by decide +kernel
theorem d_N_secondNeeds_31 : decode m_N_secondNeeds.2.1 31 = .ok (.iconst 2, 1) := by decide +kernel
theorem d_N_secondNeeds_32 : decode m_N_secondNeeds.2.1 32 = .ok (.goto 29, 3) := by decide +kernel
theorem d_N_secondNeeds_35 : decode m_N_secondNeeds.2.1 35 = .ok (.iload_n 0, 1) := by decide +kernel
theorem d_N_secondNeeds_36 : decode m_N_secondNeeds.2.1 36 = .ok (.iconst 2, 1) := by decide +kernel
theorem d_N_secondNeeds_37 : decode m_N_secondNeeds.2.1 37 = .ok (.if_icmp .eq 19, 3) := by decide +kernel
theorem d_N_secondNeeds_40 : decode m_N_secondNeeds.2.1 40 = .ok (.iload_n 0, 1) := by decide +kernel
theorem d_N_secondNeeds_41 : decode m_N_secondNeeds.2.1 41 = .ok (.iconst 5, 1) := by decide +kernel
theorem d_N_secondNeeds_42 : decode m_N_secondNeeds.2.1 42 = .ok (.bipush 12, 2) := by decide +kernel
theorem d_N_secondNeeds_44 : decode m_N_secondNeeds.2.1 44 = .ok (.invokestatic 81, 3) := by decide +kernel
theorem d_N_secondNeeds_47 : decode m_N_secondNeeds.2.1 47 = .ok (.ifCond .ne 9, 3) := by decide +kernel
theorem d_N_secondNeeds_50 : decode m_N_secondNeeds.2.1 50 = .ok (.iload_n 0, 1) := by decide +kernel
theorem d_N_secondNeeds_51 : decode m_N_secondNeeds.2.1 51 = .ok (.bipush 17, 2) := by decide +kernel
theorem d_N_secondNeeds_53 : decode m_N_secondNeeds.2.1 53 = .ok (.if_icmp .ne 7, 3) := by decide +kernel
theorem d_N_secondNeeds_56 : decode m_N_secondNeeds.2.1 56 = .ok (.iconst 1, 1) := by decide +kernel
theorem d_N_secondNeeds_57 : decode m_N_secondNeeds.2.1 57 = .ok (.goto 4, 3) := by decide +kernel
theorem d_N_secondNeeds_60 : decode m_N_secondNeeds.2.1 60 = .ok (.iconst 0, 1) := by decide +kernel
theorem d_N_secondNeeds_61 : decode m_N_secondNeeds.2.1 61 = .ok (.ireturn, 1) := by decide +kernel
theorem d_N_thirdNeeds_0 : decode m_N_thirdNeeds.2.1 0 = .ok (.iload_n 0, 1) := by decide +kernel
theorem d_N_thirdNeeds_1 : decode m_N_thirdNeeds.2.1 1 = .ok (.bipush 11, 2) := by decide +kernel
theorem d_N_thirdNeeds_3 : decode m_N_thirdNeeds.2.1 3 = .ok (.bipush 13, 2) := by decide +kernel
theorem d_N_thirdNeeds_5 : decode m_N_thirdNeeds.2.1 5 = .ok (.invokestatic 81, 3) := by decide +kernel
theorem d_N_thirdNeeds_8 : decode m_N_thirdNeeds.2.1 8 = .ok (.ifCond .eq 7, 3) := by decide +kernel
theorem d_N_thirdNeeds_11 : decode m_N_thirdNeeds.2.1 11 = .ok (.iconst 2, 1) := by decide +kernel
theorem d_N_thirdNeeds_12 : decode m_N_thirdNeeds.2.1 12 = .ok (.goto 35, 3) := by decide +kernel
theorem d_N_thirdNeeds_15 : decode m_N_thirdNeeds.2.1 15 = .ok (.iload_n 0, 1) := by decide +kernel
theorem d_N_thirdNeeds_16 : decode m_N_thirdNeeds.2.1 16 = .ok (.iconst 5, 1) := by decide +kernel
theorem d_N_thirdNeeds_17 : decode m_N_thirdNeeds.2.1 17 = .ok (.bipush 6, 2) := by decide +kernel
theorem d_N_thirdNeeds_19 : decode m_N_thirdNeeds.2.1 19 = .ok (.invokestatic 81, 3) := by decide +kernel
theorem d_N_thirdNeeds_22 : decode m_N_thirdNeeds.2.1 22 = .ok (.ifCond .ne 20, 3) := by decide +kernel
theorem d_N_thirdNeeds_25 : decode m_N_thirdNeeds.2.1 25 = .ok (.iload_n 0, 1) := by decide +kernel
theorem d_N_thirdNeeds_26 : decode m_N_thirdNeeds.2.1 26 = .ok (.bipush 9, 2) := by decide +kernel
theorem d_N_thirdNeeds_28 : decode m_N_thirdNeeds.2.1 28 = .ok (.bipush 10, 2) := by decide +kernel
theorem d_N_thirdNeeds_30 : decode m_N_thirdNeeds.2.1 30 = .ok (.invokestatic 81, 3) := by decide +kernel
theorem d_N_thirdNeeds_33 : decode m_N_thirdNeeds.2.1 33 = .ok (.ifCond .ne 9, 3) := by decide +kernel
theorem d_N_thirdNeeds_36 : decode m_N_thirdNeeds.2.1 36 = .ok (.iload_n 0, 1) := by decide +kernel
theorem d_N_thirdNeeds_37 : decode m_N_thirdNeeds.2.1 37 = .ok (.bipush 22, 2) := by decide +kernel
theorem d_N_thirdNeeds_39 : decode m_N_thirdNeeds.2.1 39 = .ok (.if_icmp .ne 7, 3) := by decide +kernel
theorem d_N_thirdNeeds_42 : decode m_N_thirdNeeds.2.1 42 = .ok (.iconst 1, 1) := by decide +kernel
theorem d_N_thirdNeeds_43 : decode m_N_thirdNeeds.2.1 43 = .ok (.goto 4, 3) := by decide +kernel
theorem d_N_thirdNeeds_46 : decode m_N_thirdNeeds.2.1 46 = .ok (.iconst 0, 1) := by decide +kernel
theorem d_N_thirdNeeds_47 : decode m_N_thirdNeeds.2.1 47 = .ok (.ireturn, 1) := by decide +kernel
theorem d_N_add_0 : decode m_N_add.2.1 0 = .ok (.iload_n 1, 1) := by decide +kernel
theorem d_N_add_1 : decode m_N_add.2.1 1 = .ok (.istore 5, 2) := by decide +kernel
theorem d_N_add_3 : decode m_N_add.2.1 3 = .ok (.iload 5, 2) := by decide +kernel
theorem d_N_add_5 : decode m_N_add.2.1 5 = .ok (.iconst 0, 1) := by decide +kernel
theorem d_N_add_6 : decode m_N_add.2.1 6 = .ok (.bipush 26, 2) := by decide +kernel
theorem d_N_add_8 : decode m_N_add.2.1 8 = .ok (.invokestatic 81, 3) := by decide +kernel
theorem d_N_add_11 : decode m_N_add.2.1 11 = .ok (.ifCond .eq 49, 3) := by decide +kernel
theorem d_N_add_14 : decode m_N_add.2.1 14 = .ok (.aload_n 0, 1) := by decide +kernel
theorem d_N_add_15 : decode m_N_add.2.1 15 = .ok (.getfield 85, 3) := by decide +kernel
theorem d_N_add_18 : decode m_N_add.2.1 18 = .ok (.bipush 48, 2) := by decide +kernel
theorem d_N_add_20 : decode m_N_add.2.1 20 = .ok (.if_icmp .ge 40, 3) := by decide +kernel
theorem d_N_add_23 : decode m_N_add.2.1 23 = .ok (.iload 5, 2) := by decide +kernel
theorem d_N_add_25 : decode m_N_add.2.1 25 = .ok (.invokestatic 88, 3) := by decide +kernel
theorem d_N_add_28 : decode m_N_add.2.1 28 = .ok (.iload_n 2, 1) := by decide +kernel
theorem d_N_add_29 : decode m_N_add.2.1 29 = .ok (.invokestatic 91, 3) := by decide +kernel
theorem d_N_add_32 : decode m_N_add.2.1 32 = .ok (.ifCond .eq 28, 3) := by decide +kernel
theorem d_N_add_35 : decode m_N_add.2.1 35 = .ok (.iload 5, 2) := by decide +kernel
theorem d_N_add_37 : decode m_N_add.2.1 37 = .ok (.invokestatic 95, 3) := by decide +kernel
theorem d_N_add_40 : decode m_N_add.2.1 40 = .ok (.iload_n 3, 1) := by decide +kernel
theorem d_N_add_41 : decode m_N_add.2.1 41 = .ok (.invokestatic 91, 3) := by decide +kernel
theorem d_N_add_44 : decode m_N_add.2.1 44 = .ok (.ifCond .eq 16, 3) := by decide +kernel
theorem d_N_add_47 : decode m_N_add.2.1 47 = .ok (.iload 5, 2) := by decide +kernel
theorem d_N_add_49 : decode m_N_add.2.1 49 = .ok (.invokestatic 98, 3) := by decide +kernel
theorem d_N_add_52 : decode m_N_add.2.1 52 = .ok (.iload 4, 2) := by decide +kernel
theorem d_N_add_54 : decode m_N_add.2.1 54 = .ok (.invokestatic 91, 3) := by decide +kernel
theorem d_N_add_57 : decode m_N_add.2.1 57 = .ok (.ifCond .ne 5, 3) := by decide +kernel
theorem d_N_add_60 : decode m_N_add.2.1 60 = .ok (.iconst (-1), 1) := by decide +kernel
theorem d_N_add_61 : decode m_N_add.2.1 61 = .ok (.ireturn, 1) := by decide +kernel
theorem d_N_add_62 : decode m_N_add.2.1 62 = .ok (.aload_n 0, 1) := by decide +kernel
theorem d_N_add_63 : decode m_N_add.2.1 63 = .ok (.getfield 7, 3) := by decide +kernel
theorem d_N_add_66 : decode m_N_add.2.1 66 = .ok (.aload_n 0, 1) := by decide +kernel
theorem d_N_add_67 : decode m_N_add.2.1 67 = .ok (.getfield 85, 3) := by decide +kernel
theorem d_N_add_70 : decode m_N_add.2.1 70 = .ok (.iload 5, 2) := by decide +kernel
theorem d_N_add_72 : decode m_N_add.2.1 72 = .ok (.iastore, 1) := by decide +kernel
theorem d_N_add_73 : decode m_N_add.2.1 73 = .ok (.aload_n 0, 1) := by decide +kernel
theorem d_N_add_74 : decode m_N_add.2.1 74 = .ok (.getfield 13, 3) := by decide +kernel
