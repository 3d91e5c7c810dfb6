/-! Decode rows (printed by wip/gen/dec.py). -/
theorem d_N_process_49 : decode m_N_process.2.1 49 = .ok (.iconst 2, 1) := by decide +kernel
theorem d_N_process_50 : decode m_N_process.2.1 50 = .ok (.if_icmp .ne 12, 3) := by decide +kernel
theorem d_N_process_53 : decode m_N_process.2.1 53 = .ok (.aload_n 0, 1) := by decide +kernel
theorem d_N_process_54 : decode m_N_process.2.1 54 = .ok (.getfield 31, 3) := by decide +kernel
theorem d_N_process_57 : decode m_N_process.2.1 57 = .ok (.iload_n 1, 1) := by decide +kernel
theorem d_N_process_58 : decode m_N_process.2.1 58 = .ok (.iaload, 1) := by decide +kernel
theorem d_N_process_59 : decode m_N_process.2.1 59 = .ok (.goto 18, 3) := by decide +kernel
theorem d_N_process_62 : decode m_N_process.2.1 62 = .ok (.iload_n 2, 1) := by decide +kernel
theorem d_N_process_63 : decode m_N_process.2.1 63 = .ok (.iconst 3, 1) := by decide +kernel
theorem d_N_process_64 : decode m_N_process.2.1 64 = .ok (.if_icmp .ne 12, 3) := by decide +kernel
theorem d_N_process_67 : decode m_N_process.2.1 67 = .ok (.aload_n 0, 1) := by decide +kernel
theorem d_N_process_68 : decode m_N_process.2.1 68 = .ok (.getfield 34, 3) := by decide +kernel
theorem d_N_process_71 : decode m_N_process.2.1 71 = .ok (.iload_n 1, 1) := by decide +kernel
theorem d_N_process_72 : decode m_N_process.2.1 72 = .ok (.iaload, 1) := by decide +kernel
theorem d_N_process_73 : decode m_N_process.2.1 73 = .ok (.goto 4, 3) := by decide +kernel
theorem d_N_process_76 : decode m_N_process.2.1 76 = .ok (.iconst (-1), 1) := by decide +kernel
theorem d_N_process_77 : decode m_N_process.2.1 77 = .ok (.ireturn, 1) := by decide +kernel
theorem d_N_process_78 : decode m_N_process.2.1 78 = .ok (.iload_n 2, 1) := by decide +kernel
theorem d_N_process_79 : decode m_N_process.2.1 79 = .ok (.iconst 4, 1) := by decide +kernel
theorem d_N_process_80 : decode m_N_process.2.1 80 = .ok (.if_icmp .ne 12, 3) := by decide +kernel
theorem d_N_process_83 : decode m_N_process.2.1 83 = .ok (.aload_n 0, 1) := by decide +kernel
theorem d_N_process_84 : decode m_N_process.2.1 84 = .ok (.getfield 37, 3) := by decide +kernel
theorem d_N_process_87 : decode m_N_process.2.1 87 = .ok (.iload_n 1, 1) := by decide +kernel
theorem d_N_process_88 : decode m_N_process.2.1 88 = .ok (.iaload, 1) := by decide +kernel
theorem d_N_process_89 : decode m_N_process.2.1 89 = .ok (.goto 56, 3) := by decide +kernel
theorem d_N_process_92 : decode m_N_process.2.1 92 = .ok (.iload_n 2, 1) := by decide +kernel
theorem d_N_process_93 : decode m_N_process.2.1 93 = .ok (.iconst 5, 1) := by decide +kernel
theorem d_N_process_94 : decode m_N_process.2.1 94 = .ok (.if_icmp .ne 12, 3) := by decide +kernel
theorem d_N_process_97 : decode m_N_process.2.1 97 = .ok (.aload_n 0, 1) := by decide +kernel
theorem d_N_process_98 : decode m_N_process.2.1 98 = .ok (.getfield 43, 3) := by decide +kernel
theorem d_N_process_101 : decode m_N_process.2.1 101 = .ok (.iload_n 1, 1) := by decide +kernel
theorem d_N_process_102 : decode m_N_process.2.1 102 = .ok (.iaload, 1) := by decide +kernel
theorem d_N_process_103 : decode m_N_process.2.1 103 = .ok (.goto 42, 3) := by decide +kernel
theorem d_N_process_106 : decode m_N_process.2.1 106 = .ok (.iload_n 2, 1) := by decide +kernel
theorem d_N_process_107 : decode m_N_process.2.1 107 = .ok (.bipush 6, 2) := by decide +kernel
theorem d_N_process_109 : decode m_N_process.2.1 109 = .ok (.if_icmp .ne 20, 3) := by decide +kernel
theorem d_N_process_112 : decode m_N_process.2.1 112 = .ok (.aload_n 0, 1) := by decide +kernel
theorem d_N_process_113 : decode m_N_process.2.1 113 = .ok (.getfield 46, 3) := by decide +kernel
theorem d_N_process_116 : decode m_N_process.2.1 116 = .ok (.iload_n 1, 1) := by decide +kernel
theorem d_N_process_117 : decode m_N_process.2.1 117 = .ok (.baload, 1) := by decide +kernel
theorem d_N_process_118 : decode m_N_process.2.1 118 = .ok (.ifCond .eq 7, 3) := by decide +kernel
theorem d_N_process_121 : decode m_N_process.2.1 121 = .ok (.iconst 1, 1) := by decide +kernel
theorem d_N_process_122 : decode m_N_process.2.1 122 = .ok (.goto 23, 3) := by decide +kernel
theorem d_N_process_125 : decode m_N_process.2.1 125 = .ok (.iconst 0, 1) := by decide +kernel
theorem d_N_process_126 : decode m_N_process.2.1 126 = .ok (.goto 19, 3) := by decide +kernel
theorem d_N_process_129 : decode m_N_process.2.1 129 = .ok (.iload_n 2, 1) := by decide +kernel
theorem d_N_process_130 : decode m_N_process.2.1 130 = .ok (.bipush 7, 2) := by decide +kernel
theorem d_N_process_132 : decode m_N_process.2.1 132 = .ok (.if_icmp .ne 12, 3) := by decide +kernel
theorem d_N_process_135 : decode m_N_process.2.1 135 = .ok (.aload_n 0, 1) := by decide +kernel
theorem d_N_process_136 : decode m_N_process.2.1 136 = .ok (.getfield 50, 3) := by decide +kernel
theorem d_N_process_139 : decode m_N_process.2.1 139 = .ok (.iload_n 1, 1) := by decide +kernel
theorem d_N_process_140 : decode m_N_process.2.1 140 = .ok (.iaload, 1) := by decide +kernel
theorem d_N_process_141 : decode m_N_process.2.1 141 = .ok (.goto 4, 3) := by decide +kernel
theorem d_N_process_144 : decode m_N_process.2.1 144 = .ok (.iconst (-1), 1) := by decide +kernel
theorem d_N_process_145 : decode m_N_process.2.1 145 = .ok (.ireturn, 1) := by decide +kernel
theorem d_N_queue_0 : decode m_N_queue.2.1 0 = .ok (.iload_n 1, 1) := by decide +kernel
theorem d_N_queue_1 : decode m_N_queue.2.1 1 = .ok (.iconst 0, 1) := by decide +kernel
theorem d_N_queue_2 : decode m_N_queue.2.1 2 = .ok (.aload_n 0, 1) := by decide +kernel
theorem d_N_queue_3 : decode m_N_queue.2.1 3 = .ok (.getfield 101, 3) := by decide +kernel
theorem d_N_queue_6 : decode m_N_queue.2.1 6 = .ok (.iconst 1, 1) := by decide +kernel
theorem d_N_queue_7 : decode m_N_queue.2.1 7 = .ok (.isub, 1) := by decide +kernel
theorem d_N_queue_8 : decode m_N_queue.2.1 8 = .ok (.invokestatic 81, 3) := by decide +kernel
theorem d_N_queue_11 : decode m_N_queue.2.1 11 = .ok (.ifCond .eq 12, 3) := by decide +kernel
theorem d_N_queue_14 : decode m_N_queue.2.1 14 = .ok (.aload_n 0, 1) := by decide +kernel
theorem d_N_queue_15 : decode m_N_queue.2.1 15 = .ok (.getfield 53, 3) := by decide +kernel
theorem d_N_queue_18 : decode m_N_queue.2.1 18 = .ok (.iload_n 1, 1) := by decide +kernel
theorem d_N_queue_19 : decode m_N_queue.2.1 19 = .ok (.iaload, 1) := by decide +kernel
theorem d_N_queue_20 : decode m_N_queue.2.1 20 = .ok (.goto 4, 3) := by decide +kernel
theorem d_N_queue_23 : decode m_N_queue.2.1 23 = .ok (.iconst (-1), 1) := by decide +kernel
theorem d_N_queue_24 : decode m_N_queue.2.1 24 = .ok (.ireturn, 1) := by decide +kernel
theorem d_N_processes_0 : decode m_N_processes.2.1 0 = .ok (.aload_n 0, 1) := by decide +kernel
theorem d_N_processes_1 : decode m_N_processes.2.1 1 = .ok (.getfield 131, 3) := by decide +kernel
theorem d_N_processes_4 : decode m_N_processes.2.1 4 = .ok (.ireturn, 1) := by decide +kernel
theorem d_N_isTerm_0 : decode m_N_isTerm.2.1 0 = .ok (.iload_n 1, 1) := by decide +kernel
theorem d_N_isTerm_1 : decode m_N_isTerm.2.1 1 = .ok (.iconst 0, 1) := by decide +kernel
theorem d_N_isTerm_2 : decode m_N_isTerm.2.1 2 = .ok (.aload_n 0, 1) := by decide +kernel
theorem d_N_isTerm_3 : decode m_N_isTerm.2.1 3 = .ok (.getfield 131, 3) := by decide +kernel
theorem d_N_isTerm_6 : decode m_N_isTerm.2.1 6 = .ok (.iconst 1, 1) := by decide +kernel
theorem d_N_isTerm_7 : decode m_N_isTerm.2.1 7 = .ok (.isub, 1) := by decide +kernel
theorem d_N_isTerm_8 : decode m_N_isTerm.2.1 8 = .ok (.invokestatic 81, 3) := by decide +kernel
theorem d_N_isTerm_11 : decode m_N_isTerm.2.1 11 = .ok (.ifCond .eq 52, 3) := by decide +kernel
theorem d_N_isTerm_14 : decode m_N_isTerm.2.1 14 = .ok (.iload_n 2, 1) := by decide +kernel
theorem d_N_isTerm_15 : decode m_N_isTerm.2.1 15 = .ok (.iconst 0, 1) := by decide +kernel
theorem d_N_isTerm_16 : decode m_N_isTerm.2.1 16 = .ok (.bipush 7, 2) := by decide +kernel
theorem d_N_isTerm_18 : decode m_N_isTerm.2.1 18 = .ok (.invokestatic 81, 3) := by decide +kernel
theorem d_N_isTerm_21 : decode m_N_isTerm.2.1 21 = .ok (.ifCond .ne 38, 3) := by decide +kernel
theorem d_N_isTerm_24 : decode m_N_isTerm.2.1 24 = .ok (.iload_n 2, 1) := by decide +kernel
theorem d_N_isTerm_25 : decode m_N_isTerm.2.1 25 = .ok (.bipush 8, 2) := by decide +kernel
theorem d_N_isTerm_27 : decode m_N_isTerm.2.1 27 = .ok (.if_icmp .ne 13, 3) := by decide +kernel
theorem d_N_isTerm_30 : decode m_N_isTerm.2.1 30 = .ok (.aload_n 0, 1) := by decide +kernel
theorem d_N_isTerm_31 : decode m_N_isTerm.2.1 31 = .ok (.getfield 25, 3) := by decide +kernel
theorem d_N_isTerm_34 : decode m_N_isTerm.2.1 34 = .ok (.iload_n 1, 1) := by decide +kernel
theorem d_N_isTerm_35 : decode m_N_isTerm.2.1 35 = .ok (.iaload, 1) := by decide +kernel
theorem d_N_isTerm_36 : decode m_N_isTerm.2.1 36 = .ok (.iconst 3, 1) := by decide +kernel
theorem d_N_isTerm_37 : decode m_N_isTerm.2.1 37 = .ok (.if_icmp .eq 22, 3) := by decide +kernel
theorem d_N_isTerm_40 : decode m_N_isTerm.2.1 40 = .ok (.iload_n 2, 1) := by decide +kernel
theorem d_N_isTerm_41 : decode m_N_isTerm.2.1 41 = .ok (.bipush 8, 2) := by decide +kernel
theorem d_N_isTerm_43 : decode m_N_isTerm.2.1 43 = .ok (.if_icmp .le 20, 3) := by decide +kernel
theorem d_N_isTerm_46 : decode m_N_isTerm.2.1 46 = .ok (.iload_n 2, 1) := by decide +kernel
theorem d_N_isTerm_47 : decode m_N_isTerm.2.1 47 = .ok (.bipush 9, 2) := by decide +kernel
theorem d_N_isTerm_49 : decode m_N_isTerm.2.1 49 = .ok (.isub, 1) := by decide +kernel
theorem d_N_isTerm_50 : decode m_N_isTerm.2.1 50 = .ok (.aload_n 0, 1) := by decide +kernel
theorem d_N_isTerm_51 : decode m_N_isTerm.2.1 51 = .ok (.getfield 34, 3) := by decide +kernel
theorem d_N_isTerm_54 : decode m_N_isTerm.2.1 54 = .ok (.iload_n 1, 1) := by decide +kernel
theorem d_N_isTerm_55 : decode m_N_isTerm.2.1 55 = .ok (.iaload, 1) := by decide +kernel
theorem d_N_isTerm_56 : decode m_N_isTerm.2.1 56 = .ok (.if_icmp .ge 7, 3) := by decide +kernel
theorem d_N_isTerm_59 : decode m_N_isTerm.2.1 59 = .ok (.iconst 1, 1) := by decide +kernel
theorem d_N_isTerm_60 : decode m_N_isTerm.2.1 60 = .ok (.goto 4, 3) := by decide +kernel
theorem d_N_isTerm_63 : decode m_N_isTerm.2.1 63 = .ok (.iconst 0, 1) := by decide +kernel
theorem d_N_isTerm_64 : decode m_N_isTerm.2.1 64 = .ok (.ireturn, 1) := by decide +kernel
theorem d_N_term_0 : decode m_N_term.2.1 0 = .ok (.aload_n 0, 1) := by decide +kernel
theorem d_N_term_1 : decode m_N_term.2.1 1 = .ok (.iload_n 1, 1) := by decide +kernel
theorem d_N_term_2 : decode m_N_term.2.1 2 = .ok (.iload_n 2, 1) := by decide +kernel
theorem d_N_term_3 : decode m_N_term.2.1 3 = .ok (.invokevirtual 172, 3) := by decide +kernel
theorem d_N_term_6 : decode m_N_term.2.1 6 = .ok (.ifCond .ne 5, 3) := by decide +kernel
theorem d_N_term_9 : decode m_N_term.2.1 9 = .ok (.iconst (-1), 1) := by decide +kernel
theorem d_N_term_10 : decode m_N_term.2.1 10 = .ok (.ireturn, 1) := by decide +kernel
theorem d_N_term_11 : decode m_N_term.2.1 11 = .ok (.bipush 21, 2) := by decide +kernel
theorem d_N_term_13 : decode m_N_term.2.1 13 = .ok (.iload_n 1, 1) := by decide +kernel
theorem d_N_term_14 : decode m_N_term.2.1 14 = .ok (.imul, 1) := by decide +kernel
theorem d_N_term_15 : decode m_N_term.2.1 15 = .ok (.iload_n 2, 1) := by decide +kernel
theorem d_N_term_16 : decode m_N_term.2.1 16 = .ok (.iadd, 1) := by decide +kernel
theorem d_N_term_17 : decode m_N_term.2.1 17 = .ok (.istore_n 3, 1) := by decide +kernel
theorem d_N_term_18 : decode m_N_term.2.1 18 = .ok (.aload_n 0, 1) := by decide +kernel
theorem d_N_term_19 : decode m_N_term.2.1 19 = .ok (.iload_n 3, 1) := by decide +kernel
theorem d_N_term_20 : decode m_N_term.2.1 20 = .ok (.iconst 0, 1) := by decide +kernel
theorem d_N_term_21 : decode m_N_term.2.1 21 = .ok (.invokevirtual 66, 3) := by decide +kernel
theorem d_N_term_24 : decode m_N_term.2.1 24 = .ok (.iconst 3, 1) := by decide +kernel
theorem d_N_term_25 : decode m_N_term.2.1 25 = .ok (.if_icmp .ge 15, 3) := by decide +kernel
theorem d_N_term_28 : decode m_N_term.2.1 28 = .ok (.aload_n 0, 1) := by decide +kernel
theorem d_N_term_29 : decode m_N_term.2.1 29 = .ok (.iload_n 3, 1) := by decide +kernel
theorem d_N_term_30 : decode m_N_term.2.1 30 = .ok (.iconst 0, 1) := by decide +kernel
theorem d_N_term_31 : decode m_N_term.2.1 31 = .ok (.invokevirtual 70, 3) := by decide +kernel
theorem d_N_term_34 : decode m_N_term.2.1 34 = .ok (.bipush 100, 2) := by decide +kernel
theorem d_N_term_36 : decode m_N_term.2.1 36 = .ok (.irem, 1) := by decide +kernel
theorem d_N_term_37 : decode m_N_term.2.1 37 = .ok (.goto 4, 3) := by decide +kernel
theorem d_N_term_40 : decode m_N_term.2.1 40 = .ok (.iconst 0, 1) := by decide +kernel
theorem d_N_term_41 : decode m_N_term.2.1 41 = .ok (.istore 4, 2) := by decide +kernel
theorem d_N_term_43 : decode m_N_term.2.1 43 = .ok (.ldc 175, 2) := by decide +kernel
theorem d_N_term_45 : decode m_N_term.2.1 45 = .ok (.aload_n 0, 1) := by decide +kernel
theorem d_N_term_46 : decode m_N_term.2.1 46 = .ok (.iload_n 3, 1) := by decide +kernel
theorem d_N_term_47 : decode m_N_term.2.1 47 = .ok (.iconst 0, 1) := by decide +kernel
theorem d_N_term_48 : decode m_N_term.2.1 48 = .ok (.invokevirtual 66, 3) := by decide +kernel
theorem d_N_term_51 : decode m_N_term.2.1 51 = .ok (.imul, 1) := by decide +kernel
theorem d_N_term_52 : decode m_N_term.2.1 52 = .ok (.bipush 100, 2) := by decide +kernel
theorem d_N_term_54 : decode m_N_term.2.1 54 = .ok (.aload_n 0, 1) := by decide +kernel
theorem d_N_term_55 : decode m_N_term.2.1 55 = .ok (.iload_n 3, 1) := by decide +kernel
theorem d_N_term_56 : decode m_N_term.2.1 56 = .ok (.invokevirtual 77, 3) := by decide +kernel
theorem d_N_term_59 : decode m_N_term.2.1 59 = .ok (.imul, 1) := by decide +kernel
theorem d_N_term_60 : decode m_N_term.2.1 60 = .ok (.iadd, 1) := by decide +kernel
theorem d_N_term_61 : decode m_N_term.2.1 61 = .ok (.iload 4, 2) := by decide +kernel
theorem d_N_term_63 : decode m_N_term.2.1 63 = .ok (.ifCond .ge 11, 3) := by decide +kernel
theorem d_N_term_66 : decode m_N_term.2.1 66 = .ok (.iload 4, 2) := by decide +kernel
theorem d_N_term_68 : decode m_N_term.2.1 68 = .ok (.bipush 100, 2) := by decide +kernel
theorem d_N_term_70 : decode m_N_term.2.1 70 = .ok (.iadd, 1) := by decide +kernel
theorem d_N_term_71 : decode m_N_term.2.1 71 = .ok (.goto 5, 3) := by decide +kernel
theorem d_N_term_74 : decode m_N_term.2.1 74 = .ok (.iload 4, 2) := by decide +kernel
theorem d_N_term_76 : decode m_N_term.2.1 76 = .ok (.iadd, 1) := by decide +kernel
theorem d_N_term_77 : decode m_N_term.2.1 77 = .ok (.ireturn, 1) := by decide +kernel
theorem d_N_digest_0 : decode m_N_digest.2.1 0 = .ok (.aload_n 0, 1) := by decide +kernel
theorem d_N_digest_1 : decode m_N_digest.2.1 1 = .ok (.iload_n 1, 1) := by decide +kernel
theorem d_N_digest_2 : decode m_N_digest.2.1 2 = .ok (.iload_n 2, 1) := by decide +kernel
theorem d_N_digest_3 : decode m_N_digest.2.1 3 = .ok (.invokevirtual 172, 3) := by decide +kernel
theorem d_N_digest_6 : decode m_N_digest.2.1 6 = .ok (.ifCond .ne 5, 3) := by decide +kernel
theorem d_N_digest_9 : decode m_N_digest.2.1 9 = .ok (.iconst 0, 1) := by decide +kernel
theorem d_N_digest_10 : decode m_N_digest.2.1 10 = .ok (.ireturn, 1) := by decide +kernel
theorem d_N_digest_11 : decode m_N_digest.2.1 11 = .ok (.bipush 21, 2) := by decide +kernel
theorem d_N_digest_13 : decode m_N_digest.2.1 13 = .ok (.iload_n 1, 1) := by decide +kernel
theorem d_N_digest_14 : decode m_N_digest.2.1 14 = .ok (.imul, 1) := by decide +kernel
theorem d_N_digest_15 : decode m_N_digest.2.1 15 = .ok (.iload_n 2, 1) := by decide +kernel
theorem d_N_digest_16 : decode m_N_digest.2.1 16 = .ok (.iadd, 1) := by decide +kernel
theorem d_N_digest_17 : decode m_N_digest.2.1 17 = .ok (.istore_n 3, 1) := by decide +kernel
theorem d_N_digest_18 : decode m_N_digest.2.1 18 = .ok (.bipush 7, 2) := by decide +kernel
theorem d_N_digest_20 : decode m_N_digest.2.1 20 = .ok (.istore 4, 2) := by decide +kernel
theorem d_N_digest_22 : decode m_N_digest.2.1 22 = .ok (.iconst 0, 1) := by decide +kernel
theorem d_N_digest_23 : decode m_N_digest.2.1 23 = .ok (.istore 5, 2) := by decide +kernel
theorem d_N_digest_25 : decode m_N_digest.2.1 25 = .ok (.iload 5, 2) := by decide +kernel
theorem d_N_digest_27 : decode m_N_digest.2.1 27 = .ok (.aload_n 0, 1) := by decide +kernel
theorem d_N_digest_28 : decode m_N_digest.2.1 28 = .ok (.iload_n 3, 1) := by decide +kernel
theorem d_N_digest_29 : decode m_N_digest.2.1 29 = .ok (.invokevirtual 77, 3) := by decide +kernel
theorem d_N_digest_32 : decode m_N_digest.2.1 32 = .ok (.if_icmp .ge 57, 3) := by decide +kernel
theorem d_N_digest_35 : decode m_N_digest.2.1 35 = .ok (.iload 4, 2) := by decide +kernel
theorem d_N_digest_37 : decode m_N_digest.2.1 37 = .ok (.bipush 31, 2) := by decide +kernel
theorem d_N_digest_39 : decode m_N_digest.2.1 39 = .ok (.imul, 1) := by decide +kernel
theorem d_N_digest_40 : decode m_N_digest.2.1 40 = .ok (.aload_n 0, 1) := by decide +kernel
theorem d_N_digest_41 : decode m_N_digest.2.1 41 = .ok (.iload_n 3, 1) := by decide +kernel
theorem d_N_digest_42 : decode m_N_digest.2.1 42 = .ok (.iload 5, 2) := by decide +kernel
theorem d_N_digest_44 : decode m_N_digest.2.1 44 = .ok (.invokevirtual 66, 3) := by decide +kernel
theorem d_N_digest_47 : decode m_N_digest.2.1 47 = .ok (.iadd, 1) := by decide +kernel
theorem d_N_digest_48 : decode m_N_digest.2.1 48 = .ok (.iconst 1, 1) := by decide +kernel
theorem d_N_digest_49 : decode m_N_digest.2.1 49 = .ok (.iadd, 1) := by decide +kernel
theorem d_N_digest_50 : decode m_N_digest.2.1 50 = .ok (.istore 4, 2) := by decide +kernel
theorem d_N_digest_52 : decode m_N_digest.2.1 52 = .ok (.aload_n 0, 1) := by decide +kernel
theorem d_N_digest_53 : decode m_N_digest.2.1 53 = .ok (.iload_n 3, 1) := by decide +kernel
theorem d_N_digest_54 : decode m_N_digest.2.1 54 = .ok (.iload 5, 2) := by decide +kernel
theorem d_N_digest_56 : decode m_N_digest.2.1 56 = .ok (.invokevirtual 66, 3) := by decide +kernel
theorem d_N_digest_59 : decode m_N_digest.2.1 59 = .ok (.iconst 3, 1) := by decide +kernel
theorem d_N_digest_60 : decode m_N_digest.2.1 60 = .ok (.if_icmp .ge 19, 3) := by decide +kernel
theorem d_N_digest_63 : decode m_N_digest.2.1 63 = .ok (.iload 4, 2) := by decide +kernel
theorem d_N_digest_65 : decode m_N_digest.2.1 65 = .ok (.bipush 31, 2) := by decide +kernel
theorem d_N_digest_67 : decode m_N_digest.2.1 67 = .ok (.imul, 1) := by decide +kernel
theorem d_N_digest_68 : decode m_N_digest.2.1 68 = .ok (.aload_n 0, 1) := by decide +kernel
theorem d_N_digest_69 : decode m_N_digest.2.1 69 = .ok (.iload_n 3, 1) := by decide +kernel
theorem d_N_digest_70 : decode m_N_digest.2.1 70 = .ok (.iload 5, 2) := by decide +kernel
theorem d_N_digest_72 : decode m_N_digest.2.1 72 = .ok (.invokevirtual 70, 3) := by decide +kernel
theorem d_N_digest_75 : decode m_N_digest.2.1 75 = .ok (.iadd, 1) := by decide +kernel
theorem d_N_digest_76 : decode m_N_digest.2.1 76 = .ok (.goto 5, 3) := by decide +kernel
theorem d_N_digest_79 : decode m_N_digest.2.1 79 = .ok (.iload 4, 2) := by decide +kernel
theorem d_N_digest_81 : decode m_N_digest.2.1 81 = .ok (.istore 4, 2) := by decide +kernel
theorem d_N_digest_83 : decode m_N_digest.2.1 83 = .ok (.iinc 5 1, 3) := by decide +kernel
theorem d_N_digest_86 : decode m_N_digest.2.1 86 = .ok (.goto (-61), 3) := by decide +kernel
theorem d_N_digest_89 : decode m_N_digest.2.1 89 = .ok (.iload 4, 2) := by decide +kernel
theorem d_N_digest_91 : decode m_N_digest.2.1 91 = .ok (.ireturn, 1) := by decide +kernel
theorem d_P_init_0 : decode m_P_init.2.1 0 = .ok (.aload_n 0, 1) := by decide +kernel
theorem d_P_init_1 : decode m_P_init.2.1 1 = .ok (.invokespecial 3, 3) := by decide +kernel
theorem d_P_init_4 : decode m_P_init.2.1 4 = .ok (.aload_n 0, 1) := by decide +kernel
theorem d_P_init_5 : decode m_P_init.2.1 5 = .ok (.iload_n 1, 1) := by decide +kernel
theorem d_P_init_6 : decode m_P_init.2.1 6 = .ok (.putfield 9, 3) := by decide +kernel
theorem d_P_init_9 : decode m_P_init.2.1 9 = .ok (.aload_n 0, 1) := by decide +kernel
theorem d_P_init_10 : decode m_P_init.2.1 10 = .ok (.new 15, 3) := by decide +kernel
theorem d_P_init_13 : decode m_P_init.2.1 13 = .ok (.dup, 1) := by decide +kernel
theorem d_P_init_14 : decode m_P_init.2.1 14 = .ok (.iconst 2, 1) := by decide +kernel
theorem d_P_init_15 : decode m_P_init.2.1 15 = .ok (.iload_n 1, 1) := by decide +kernel
theorem d_P_init_16 : decode m_P_init.2.1 16 = .ok (.invokespecial 17, 3) := by decide +kernel
theorem d_P_init_19 : decode m_P_init.2.1 19 = .ok (.putfield 20, 3) := by decide +kernel
theorem d_P_init_22 : decode m_P_init.2.1 22 = .ok (.aload_n 0, 1) := by decide +kernel
theorem d_P_init_23 : decode m_P_init.2.1 23 = .ok (.bipush 8, 2) := by decide +kernel
theorem d_P_init_25 : decode m_P_init.2.1 25 = .ok (.anewarray 15, 3) := by decide +kernel
theorem d_P_init_28 : decode m_P_init.2.1 28 = .ok (.putfield 24, 3) := by decide +kernel
theorem d_P_init_31 : decode m_P_init.2.1 31 = .ok (.aload_n 0, 1) := by decide +kernel
theorem d_P_init_32 : decode m_P_init.2.1 32 = .ok (.bipush 6, 2) := by decide +kernel
theorem d_P_init_34 : decode m_P_init.2.1 34 = .ok (.newarray .int, 2) := by decide +kernel
theorem d_P_init_36 : decode m_P_init.2.1 36 = .ok (.putfield 28, 3) := by decide +kernel
theorem d_P_init_39 : decode m_P_init.2.1 39 = .ok (.aload_n 0, 1) := by decide +kernel
theorem d_P_init_40 : decode m_P_init.2.1 40 = .ok (.new 32, 3) := by decide +kernel
theorem d_P_init_43 : decode m_P_init.2.1 43 = .ok (.dup, 1) := by decide +kernel
theorem d_P_init_44 : decode m_P_init.2.1 44 = .ok (.invokespecial 34, 3) := by decide +kernel
theorem d_P_init_47 : decode m_P_init.2.1 47 = .ok (.putfield 35, 3) := by decide +kernel
theorem d_P_init_50 : decode m_P_init.2.1 50 = .ok (.return_, 1) := by decide +kernel
theorem d_P_renew_0 : decode m_P_renew.2.1 0 = .ok (.iconst 0, 1) := by decide +kernel
theorem d_P_renew_1 : decode m_P_renew.2.1 1 = .ok (.istore 4, 2) := by decide +kernel
theorem d_P_renew_3 : decode m_P_renew.2.1 3 = .ok (.iload 4, 2) := by decide +kernel
theorem d_P_renew_5 : decode m_P_renew.2.1 5 = .ok (.bipush 8, 2) := by decide +kernel
theorem d_P_renew_7 : decode m_P_renew.2.1 7 = .ok (.if_icmp .ge 17, 3) := by decide +kernel
theorem d_P_renew_10 : decode m_P_renew.2.1 10 = .ok (.aload_n 0, 1) := by decide +kernel
theorem d_P_renew_11 : decode m_P_renew.2.1 11 = .ok (.getfield 24, 3) := by decide +kernel
theorem d_P_renew_14 : decode m_P_renew.2.1 14 = .ok (.iload 4, 2) := by decide +kernel
theorem d_P_renew_16 : decode m_P_renew.2.1 16 = .ok (.aload_n 3, 1) := by decide +kernel
theorem d_P_renew_17 : decode m_P_renew.2.1 17 = .ok (.aastore, 1) := by decide +kernel
theorem d_P_renew_18 : decode m_P_renew.2.1 18 = .ok (.iinc 4 1, 3) := by decide +kernel
theorem d_P_renew_21 : decode m_P_renew.2.1 21 = .ok (.goto (-18), 3) := by decide +kernel
theorem d_P_renew_24 : decode m_P_renew.2.1 24 = .ok (.aload_n 0, 1) := by decide +kernel
theorem d_P_renew_25 : decode m_P_renew.2.1 25 = .ok (.getfield 24, 3) := by decide +kernel
theorem d_P_renew_28 : decode m_P_renew.2.1 28 = .ok (.iconst 0, 1) := by decide +kernel
theorem d_P_renew_29 : decode m_P_renew.2.1 29 = .ok (.aload_n 2, 1) := by decide +kernel
theorem d_P_renew_30 : decode m_P_renew.2.1 30 = .ok (.aastore, 1) := by decide +kernel
theorem d_P_renew_31 : decode m_P_renew.2.1 31 = .ok (.aload_n 0, 1) := by decide +kernel
theorem d_P_renew_32 : decode m_P_renew.2.1 32 = .ok (.getfield 35, 3) := by decide +kernel
theorem d_P_renew_35 : decode m_P_renew.2.1 35 = .ok (.invokevirtual 39, 3) := by decide +kernel
theorem d_P_renew_38 : decode m_P_renew.2.1 38 = .ok (.aload_n 0, 1) := by decide +kernel
theorem d_P_renew_39 : decode m_P_renew.2.1 39 = .ok (.iconst 0, 1) := by decide +kernel
theorem d_P_renew_40 : decode m_P_renew.2.1 40 = .ok (.putfield 42, 3) := by decide +kernel
theorem d_P_renew_43 : decode m_P_renew.2.1 43 = .ok (.aload_n 0, 1) := by decide +kernel
theorem d_P_renew_44 : decode m_P_renew.2.1 44 = .ok (.iload_n 1, 1) := by decide +kernel
theorem d_P_renew_45 : decode m_P_renew.2.1 45 = .ok (.putfield 45, 3) := by decide +kernel
theorem d_P_renew_48 : decode m_P_renew.2.1 48 = .ok (.aload_n 0, 1) := by decide +kernel
theorem d_P_renew_49 : decode m_P_renew.2.1 49 = .ok (.iconst 0, 1) := by decide +kernel
theorem d_P_renew_50 : decode m_P_renew.2.1 50 = .ok (.putfield 48, 3) := by decide +kernel
theorem d_P_renew_53 : decode m_P_renew.2.1 53 = .ok (.aload_n 0, 1) := by decide +kernel
theorem d_P_renew_54 : decode m_P_renew.2.1 54 = .ok (.iconst 0, 1) := by decide +kernel
theorem d_P_renew_55 : decode m_P_renew.2.1 55 = .ok (.putfield 51, 3) := by decide +kernel
theorem d_P_renew_58 : decode m_P_renew.2.1 58 = .ok (.aload_n 0, 1) := by decide +kernel
theorem d_P_renew_59 : decode m_P_renew.2.1 59 = .ok (.iconst 1, 1) := by decide +kernel
theorem d_P_renew_60 : decode m_P_renew.2.1 60 = .ok (.putfield 55, 3) := by decide +kernel
theorem d_P_renew_63 : decode m_P_renew.2.1 63 = .ok (.aload_n 0, 1) := by decide +kernel
theorem d_P_renew_64 : decode m_P_renew.2.1 64 = .ok (.aconst_null, 1) := by decide +kernel
theorem d_P_renew_65 : decode m_P_renew.2.1 65 = .ok (.putfield 58, 3) := by decide +kernel
theorem d_P_renew_68 : decode m_P_renew.2.1 68 = .ok (.aload_n 0, 1) := by decide +kernel
theorem d_P_renew_69 : decode m_P_renew.2.1 69 = .ok (.iconst 0, 1) := by decide +kernel
theorem d_P_renew_70 : decode m_P_renew.2.1 70 = .ok (.putfield 61, 3) := by decide +kernel
theorem d_P_renew_73 : decode m_P_renew.2.1 73 = .ok (.return_, 1) := by decide +kernel
theorem d_P_set_0 : decode m_P_set.2.1 0 = .ok (.aload_n 2, 1) := by decide +kernel
theorem d_P_set_1 : decode m_P_set.2.1 1 = .ok (.ifnonnull 5, 3) := by decide +kernel
theorem d_P_set_4 : decode m_P_set.2.1 4 = .ok (.iconst 0, 1) := by decide +kernel
theorem d_P_set_5 : decode m_P_set.2.1 5 = .ok (.ireturn, 1) := by decide +kernel
theorem d_P_set_6 : decode m_P_set.2.1 6 = .ok (.aload_n 0, 1) := by decide +kernel
theorem d_P_set_7 : decode m_P_set.2.1 7 = .ok (.getfield 24, 3) := by decide +kernel
theorem d_P_set_10 : decode m_P_set.2.1 10 = .ok (.iload_n 1, 1) := by decide +kernel
theorem d_P_set_11 : decode m_P_set.2.1 11 = .ok (.aload_n 2, 1) := by decide +kernel
theorem d_P_set_12 : decode m_P_set.2.1 12 = .ok (.aastore, 1) := by decide +kernel
theorem d_P_set_13 : decode m_P_set.2.1 13 = .ok (.iconst 1, 1) := by decide +kernel
theorem d_P_set_14 : decode m_P_set.2.1 14 = .ok (.ireturn, 1) := by decide +kernel
theorem d_P_goTo_0 : decode m_P_goTo.2.1 0 = .ok (.aload_n 0, 1) := by decide +kernel
theorem d_P_goTo_1 : decode m_P_goTo.2.1 1 = .ok (.iload_n 1, 1) := by decide +kernel
theorem d_P_goTo_2 : decode m_P_goTo.2.1 2 = .ok (.putfield 45, 3) := by decide +kernel
theorem d_P_goTo_5 : decode m_P_goTo.2.1 5 = .ok (.iconst 1, 1) := by decide +kernel
theorem d_P_goTo_6 : decode m_P_goTo.2.1 6 = .ok (.ireturn, 1) := by decide +kernel
theorem d_P_pushReturn_0 : decode m_P_pushReturn.2.1 0 = .ok (.aload_n 0, 1) := by decide +kernel
theorem d_P_pushReturn_1 : decode m_P_pushReturn.2.1 1 = .ok (.getfield 42, 3) := by decide +kernel
theorem d_P_pushReturn_4 : decode m_P_pushReturn.2.1 4 = .ok (.bipush 6, 2) := by decide +kernel
theorem d_P_pushReturn_6 : decode m_P_pushReturn.2.1 6 = .ok (.if_icmp .lt 5, 3) := by decide +kernel
theorem d_P_pushReturn_9 : decode m_P_pushReturn.2.1 9 = .ok (.iconst 0, 1) := by decide +kernel
theorem d_P_pushReturn_10 : decode m_P_pushReturn.2.1 10 = .ok (.ireturn, 1) := by decide +kernel
theorem d_P_pushReturn_11 : decode m_P_pushReturn.2.1 11 = .ok (.aload_n 0, 1) := by decide +kernel
theorem d_P_pushReturn_12 : decode m_P_pushReturn.2.1 12 = .ok (.getfield 28, 3) := by decide +kernel
theorem d_P_pushReturn_15 : decode m_P_pushReturn.2.1 15 = .ok (.aload_n 0, 1) := by decide +kernel
theorem d_P_pushReturn_16 : decode m_P_pushReturn.2.1 16 = .ok (.getfield 42, 3) := by decide +kernel
theorem d_P_pushReturn_19 : decode m_P_pushReturn.2.1 19 = .ok (.aload_n 0, 1) := by decide +kernel
theorem d_P_pushReturn_20 : decode m_P_pushReturn.2.1 20 = .ok (.getfield 45, 3) := by decide +kernel
theorem d_P_pushReturn_23 : decode m_P_pushReturn.2.1 23 = .ok (.iastore, 1) := by decide +kernel
theorem d_P_pushReturn_24 : decode m_P_pushReturn.2.1 24 = .ok (.aload_n 0, 1) := by decide +kernel
theorem d_P_pushReturn_25 : decode m_P_pushReturn.2.1 25 = .ok (.dup, 1) := by decide +kernel
theorem d_P_pushReturn_26 : decode m_P_pushReturn.2.1 26 = .ok (.getfield 42, 3) := by decide +kernel
theorem d_P_pushReturn_29 : decode m_P_pushReturn.2.1 29 = .ok (.iconst 1, 1) := by decide +kernel
theorem d_P_pushReturn_30 : decode m_P_pushReturn.2.1 30 = .ok (.iadd, 1) := by decide +kernel
theorem d_P_pushReturn_31 : decode m_P_pushReturn.2.1 31 = .ok (.putfield 42, 3) := by decide +kernel
theorem d_P_pushReturn_34 : decode m_P_pushReturn.2.1 34 = .ok (.iconst 1, 1) := by decide +kernel
theorem d_P_pushReturn_35 : decode m_P_pushReturn.2.1 35 = .ok (.ireturn, 1) := by decide +kernel
theorem d_P_answer_0 : decode m_P_answer.2.1 0 = .ok (.iload_n 1, 1) := by decide +kernel
theorem d_P_answer_1 : decode m_P_answer.2.1 1 = .ok (.tableswitch 101 0 7 #[47, 52, 57, 65, 73, 78, 83, 96], 47) := by decide +kernel
theorem d_P_answer_48 : decode m_P_answer.2.1 48 = .ok (.aload_n 0, 1) := by decide +kernel
theorem d_P_answer_49 : decode m_P_answer.2.1 49 = .ok (.getfield 55, 3) := by decide +kernel
theorem d_P_answer_52 : decode m_P_answer.2.1 52 = .ok (.ireturn, 1) := by decide +kernel
theorem d_P_answer_53 : decode m_P_answer.2.1 53 = .ok (.aload_n 0, 1) := by decide +kernel
theorem d_P_answer_54 : decode m_P_answer.2.1 54 = .ok (.getfield 45, 3) := by decide +kernel
theorem d_P_answer_57 : decode m_P_answer.2.1 57 = .ok (.ireturn, 1) := by decide +kernel
theorem d_P_answer_58 : decode m_P_answer.2.1 58 = .ok (.aload_n 0, 1) := by decide +kernel
theorem d_P_answer_59 : decode m_P_answer.2.1 59 = .ok (.getfield 35, 3) := by decide +kernel
theorem d_P_answer_62 : decode m_P_answer.2.1 62 = .ok (.getfield 64, 3) := by decide +kernel
theorem d_P_answer_65 : decode m_P_answer.2.1 65 = .ok (.ireturn, 1) := by decide +kernel
theorem d_P_answer_66 : decode m_P_answer.2.1 66 = .ok (.aload_n 0, 1) := by decide +kernel
theorem d_P_answer_67 : decode m_P_answer.2.1 67 = .ok (.getfield 35, 3) := by decide +kernel
theorem d_P_answer_70 : decode m_P_answer.2.1 70 = .ok (.getfield 67, 3) := by decide +kernel
theorem d_P_answer_73 : decode m_P_answer.2.1 73 = .ok (.ireturn, 1) := by decide +kernel
theorem d_P_answer_74 : decode m_P_answer.2.1 74 = .ok (.aload_n 0, 1) := by decide +kernel
theorem d_P_answer_75 : decode m_P_answer.2.1 75 = .ok (.getfield 42, 3) := by decide +kernel
theorem d_P_answer_78 : decode m_P_answer.2.1 78 = .ok (.ireturn, 1) := by decide +kernel
theorem d_P_answer_79 : decode m_P_answer.2.1 79 = .ok (.aload_n 0, 1) := by decide +kernel
theorem d_P_answer_80 : decode m_P_answer.2.1 80 = .ok (.getfield 48, 3) := by decide +kernel
theorem d_P_answer_83 : decode m_P_answer.2.1 83 = .ok (.ireturn, 1) := by decide +kernel
theorem d_P_answer_84 : decode m_P_answer.2.1 84 = .ok (.aload_n 0, 1) := by decide +kernel
theorem d_P_answer_85 : decode m_P_answer.2.1 85 = .ok (.getfield 51, 3) := by decide +kernel
theorem d_P_answer_88 : decode m_P_answer.2.1 88 = .ok (.ifCond .eq 7, 3) := by decide +kernel
theorem d_P_answer_91 : decode m_P_answer.2.1 91 = .ok (.iconst 1, 1) := by decide +kernel
theorem d_P_answer_92 : decode m_P_answer.2.1 92 = .ok (.goto 4, 3) := by decide +kernel
theorem d_P_answer_95 : decode m_P_answer.2.1 95 = .ok (.iconst 0, 1) := by decide +kernel
theorem d_P_answer_96 : decode m_P_answer.2.1 96 = .ok (.ireturn, 1) := by decide +kernel
theorem d_P_answer_97 : decode m_P_answer.2.1 97 = .ok (.aload_n 0, 1) := by decide +kernel
theorem d_P_answer_98 : decode m_P_answer.2.1 98 = .ok (.getfield 61, 3) := by decide +kernel
theorem d_P_answer_101 : decode m_P_answer.2.1 101 = .ok (.ireturn, 1) := by decide +kernel
theorem d_P_answer_102 : decode m_P_answer.2.1 102 = .ok (.iconst (-1), 1) := by decide +kernel
theorem d_P_answer_103 : decode m_P_answer.2.1 103 = .ok (.ireturn, 1) := by decide +kernel
theorem d_P_termAt_0 : decode m_P_termAt.2.1 0 = .ok (.iload_n 1, 1) := by decide +kernel
theorem d_P_termAt_1 : decode m_P_termAt.2.1 1 = .ok (.ifCond .ge 5, 3) := by decide +kernel
theorem d_P_termAt_4 : decode m_P_termAt.2.1 4 = .ok (.aconst_null, 1) := by decide +kernel
theorem d_P_termAt_5 : decode m_P_termAt.2.1 5 = .ok (.areturn, 1) := by decide +kernel
theorem d_P_termAt_6 : decode m_P_termAt.2.1 6 = .ok (.iload_n 1, 1) := by decide +kernel
theorem d_P_termAt_7 : decode m_P_termAt.2.1 7 = .ok (.bipush 8, 2) := by decide +kernel
theorem d_P_termAt_9 : decode m_P_termAt.2.1 9 = .ok (.if_icmp .ge 10, 3) := by decide +kernel
theorem d_P_termAt_12 : decode m_P_termAt.2.1 12 = .ok (.aload_n 0, 1) := by decide +kernel
theorem d_P_termAt_13 : decode m_P_termAt.2.1 13 = .ok (.getfield 24, 3) := by decide +kernel
theorem d_P_termAt_16 : decode m_P_termAt.2.1 16 = .ok (.iload_n 1, 1) := by decide +kernel
theorem d_P_termAt_17 : decode m_P_termAt.2.1 17 = .ok (.aaload, 1) := by decide +kernel
theorem d_P_termAt_18 : decode m_P_termAt.2.1 18 = .ok (.areturn, 1) := by decide +kernel
theorem d_P_termAt_19 : decode m_P_termAt.2.1 19 = .ok (.iload_n 1, 1) := by decide +kernel
theorem d_P_termAt_20 : decode m_P_termAt.2.1 20 = .ok (.bipush 8, 2) := by decide +kernel
theorem d_P_termAt_22 : decode m_P_termAt.2.1 22 = .ok (.if_icmp .ne 10, 3) := by decide +kernel
theorem d_P_termAt_25 : decode m_P_termAt.2.1 25 = .ok (.aload_n 0, 1) := by decide +kernel
theorem d_P_termAt_26 : decode m_P_termAt.2.1 26 = .ok (.getfield 58, 3) := by decide +kernel
theorem d_P_termAt_29 : decode m_P_termAt.2.1 29 = .ok (.goto 14, 3) := by decide +kernel
theorem d_P_termAt_32 : decode m_P_termAt.2.1 32 = .ok (.aload_n 0, 1) := by decide +kernel
theorem d_P_termAt_33 : decode m_P_termAt.2.1 33 = .ok (.getfield 35, 3) := by decide +kernel
theorem d_P_termAt_36 : decode m_P_termAt.2.1 36 = .ok (.iload_n 1, 1) := by decide +kernel
theorem d_P_termAt_37 : decode m_P_termAt.2.1 37 = .ok (.bipush 9, 2) := by decide +kernel
theorem d_P_termAt_39 : decode m_P_termAt.2.1 39 = .ok (.isub, 1) := by decide +kernel
theorem d_P_termAt_40 : decode m_P_termAt.2.1 40 = .ok (.invokevirtual 70, 3) := by decide +kernel
theorem d_P_termAt_43 : decode m_P_termAt.2.1 43 = .ok (.areturn, 1) := by decide +kernel
theorem d_L_init_0 : decode m_L_init.2.1 0 = .ok (.aload_n 0, 1) := by decide +kernel
theorem d_L_init_1 : decode m_L_init.2.1 1 = .ok (.invokespecial 3, 3) := by decide +kernel
theorem d_L_init_4 : decode m_L_init.2.1 4 = .ok (.aload_n 0, 1) := by decide +kernel
theorem d_L_init_5 : decode m_L_init.2.1 5 = .ok (.bipush 12, 2) := by decide +kernel
theorem d_L_init_7 : decode m_L_init.2.1 7 = .ok (.newarray .int, 2) := by decide +kernel
theorem d_L_init_9 : decode m_L_init.2.1 9 = .ok (.putfield 9, 3) := by decide +kernel
theorem d_L_init_12 : decode m_L_init.2.1 12 = .ok (.aload_n 0, 1) := by decide +kernel
theorem d_L_init_13 : decode m_L_init.2.1 13 = .ok (.iconst 0, 1) := by decide +kernel
theorem d_L_init_14 : decode m_L_init.2.1 14 = .ok (.putfield 15, 3) := by decide +kernel
theorem d_L_init_17 : decode m_L_init.2.1 17 = .ok (.return_, 1) := by decide +kernel
theorem d_L_empty_0 : decode m_L_empty.2.1 0 = .ok (.aload_n 0, 1) := by decide +kernel
theorem d_L_empty_1 : decode m_L_empty.2.1 1 = .ok (.iconst 0, 1) := by decide +kernel
theorem d_L_empty_2 : decode m_L_empty.2.1 2 = .ok (.putfield 15, 3) := by decide +kernel
theorem d_L_empty_5 : decode m_L_empty.2.1 5 = .ok (.return_, 1) := by decide +kernel
theorem d_L_at_0 : decode m_L_at.2.1 0 = .ok (.iload_n 1, 1) := by decide +kernel
theorem d_L_at_1 : decode m_L_at.2.1 1 = .ok (.ifCond .lt 20, 3) := by decide +kernel
theorem d_L_at_4 : decode m_L_at.2.1 4 = .ok (.iload_n 1, 1) := by decide +kernel
theorem d_L_at_5 : decode m_L_at.2.1 5 = .ok (.aload_n 0, 1) := by decide +kernel
theorem d_L_at_6 : decode m_L_at.2.1 6 = .ok (.getfield 15, 3) := by decide +kernel
theorem d_L_at_9 : decode m_L_at.2.1 9 = .ok (.if_icmp .ge 12, 3) := by decide +kernel
theorem d_L_at_12 : decode m_L_at.2.1 12 = .ok (.aload_n 0, 1) := by decide +kernel
theorem d_L_at_13 : decode m_L_at.2.1 13 = .ok (.getfield 9, 3) := by decide +kernel
theorem d_L_at_16 : decode m_L_at.2.1 16 = .ok (.iload_n 1, 1) := by decide +kernel
theorem d_L_at_17 : decode m_L_at.2.1 17 = .ok (.iaload, 1) := by decide +kernel
theorem d_L_at_18 : decode m_L_at.2.1 18 = .ok (.goto 4, 3) := by decide +kernel
theorem d_L_at_21 : decode m_L_at.2.1 21 = .ok (.iconst (-1), 1) := by decide +kernel
theorem d_L_at_22 : decode m_L_at.2.1 22 = .ok (.ireturn, 1) := by decide +kernel
theorem d_L_append_0 : decode m_L_append.2.1 0 = .ok (.aload_n 0, 1) := by decide +kernel
theorem d_L_append_1 : decode m_L_append.2.1 1 = .ok (.getfield 15, 3) := by decide +kernel
theorem d_L_append_4 : decode m_L_append.2.1 4 = .ok (.bipush 12, 2) := by decide +kernel
theorem d_L_append_6 : decode m_L_append.2.1 6 = .ok (.if_icmp .ge 23, 3) := by decide +kernel
theorem d_L_append_9 : decode m_L_append.2.1 9 = .ok (.aload_n 0, 1) := by decide +kernel
theorem d_L_append_10 : decode m_L_append.2.1 10 = .ok (.getfield 9, 3) := by decide +kernel
theorem d_L_append_13 : decode m_L_append.2.1 13 = .ok (.aload_n 0, 1) := by decide +kernel
theorem d_L_append_14 : decode m_L_append.2.1 14 = .ok (.getfield 15, 3) := by decide +kernel
theorem d_L_append_17 : decode m_L_append.2.1 17 = .ok (.iload_n 1, 1) := by decide +kernel
theorem d_L_append_18 : decode m_L_append.2.1 18 = .ok (.iastore, 1) := by decide +kernel
theorem d_L_append_19 : decode m_L_append.2.1 19 = .ok (.aload_n 0, 1) := by decide +kernel
theorem d_L_append_20 : decode m_L_append.2.1 20 = .ok (.dup, 1) := by decide +kernel
theorem d_L_append_21 : decode m_L_append.2.1 21 = .ok (.getfield 15, 3) := by decide +kernel
theorem d_L_append_24 : decode m_L_append.2.1 24 = .ok (.iconst 1, 1) := by decide +kernel
theorem d_L_append_25 : decode m_L_append.2.1 25 = .ok (.iadd, 1) := by decide +kernel
theorem d_L_append_26 : decode m_L_append.2.1 26 = .ok (.putfield 15, 3) := by decide +kernel
theorem d_L_append_29 : decode m_L_append.2.1 29 = .ok (.return_, 1) := by decide +kernel
theorem d_L_leave_0 : decode m_L_leave.2.1 0 = .ok (.iconst 0, 1) := by decide +kernel
theorem d_L_leave_1 : decode m_L_leave.2.1 1 = .ok (.istore_n 2, 1) := by decide +kernel
theorem d_L_leave_2 : decode m_L_leave.2.1 2 = .ok (.iconst 0, 1) := by decide +kernel
theorem d_L_leave_3 : decode m_L_leave.2.1 3 = .ok (.istore_n 3, 1) := by decide +kernel
theorem d_L_leave_4 : decode m_L_leave.2.1 4 = .ok (.iload_n 3, 1) := by decide +kernel
theorem d_L_leave_5 : decode m_L_leave.2.1 5 = .ok (.aload_n 0, 1) := by decide +kernel
theorem d_L_leave_6 : decode m_L_leave.2.1 6 = .ok (.getfield 15, 3) := by decide +kernel
theorem d_L_leave_9 : decode m_L_leave.2.1 9 = .ok (.if_icmp .ge 34, 3) := by decide +kernel
theorem d_L_leave_12 : decode m_L_leave.2.1 12 = .ok (.aload_n 0, 1) := by decide +kernel
theorem d_L_leave_13 : decode m_L_leave.2.1 13 = .ok (.getfield 9, 3) := by decide +kernel
theorem d_L_leave_16 : decode m_L_leave.2.1 16 = .ok (.iload_n 3, 1) := by decide +kernel
theorem d_L_leave_17 : decode m_L_leave.2.1 17 = .ok (.iaload, 1) := by decide +kernel
theorem d_L_leave_18 : decode m_L_leave.2.1 18 = .ok (.iload_n 1, 1) := by decide +kernel
theorem d_L_leave_19 : decode m_L_leave.2.1 19 = .ok (.if_icmp .eq 18, 3) := by decide +kernel
theorem d_L_leave_22 : decode m_L_leave.2.1 22 = .ok (.aload_n 0, 1) := by decide +kernel
theorem d_L_leave_23 : decode m_L_leave.2.1 23 = .ok (.getfield 9, 3) := by decide +kernel
theorem d_L_leave_26 : decode m_L_leave.2.1 26 = .ok (.iload_n 2, 1) := by decide +kernel
theorem d_L_leave_27 : decode m_L_leave.2.1 27 = .ok (.aload_n 0, 1) := by decide +kernel
theorem d_L_leave_28 : decode m_L_leave.2.1 28 = .ok (.getfield 9, 3) := by decide +kernel
theorem d_L_leave_31 : decode m_L_leave.2.1 31 = .ok (.iload_n 3, 1) := by decide +kernel
theorem d_L_leave_32 : decode m_L_leave.2.1 32 = .ok (.iaload, 1) := by decide +kernel
theorem d_L_leave_33 : decode m_L_leave.2.1 33 = .ok (.iastore, 1) := by decide +kernel
theorem d_L_leave_34 : decode m_L_leave.2.1 34 = .ok (.iinc 2 1, 3) := by decide +kernel
theorem d_L_leave_37 : decode m_L_leave.2.1 37 = .ok (.iinc 3 1, 3) := by decide +kernel
theorem d_L_leave_40 : decode m_L_leave.2.1 40 = .ok (.goto (-36), 3) := by decide +kernel
theorem d_L_leave_43 : decode m_L_leave.2.1 43 = .ok (.aload_n 0, 1) := by decide +kernel
theorem d_L_leave_44 : decode m_L_leave.2.1 44 = .ok (.iload_n 2, 1) := by decide +kernel
theorem d_L_leave_45 : decode m_L_leave.2.1 45 = .ok (.putfield 15, 3) := by decide +kernel
theorem d_L_leave_48 : decode m_L_leave.2.1 48 = .ok (.return_, 1) := by decide +kernel
theorem d_M_init_0 : decode m_M_init.2.1 0 = .ok (.aload_n 0, 1) := by decide +kernel
theorem d_M_init_1 : decode m_M_init.2.1 1 = .ok (.invokespecial 3, 3) := by decide +kernel
theorem d_M_init_4 : decode m_M_init.2.1 4 = .ok (.aload_n 0, 1) := by decide +kernel
theorem d_M_init_5 : decode m_M_init.2.1 5 = .ok (.new 9, 3) := by decide +kernel
theorem d_M_init_8 : decode m_M_init.2.1 8 = .ok (.dup, 1) := by decide +kernel
theorem d_M_init_9 : decode m_M_init.2.1 9 = .ok (.invokespecial 11, 3) := by decide +kernel
theorem d_M_init_12 : decode m_M_init.2.1 12 = .ok (.putfield 12, 3) := by decide +kernel
theorem d_M_init_15 : decode m_M_init.2.1 15 = .ok (.aload_n 0, 1) := by decide +kernel
theorem d_M_init_16 : decode m_M_init.2.1 16 = .ok (.new 18, 3) := by decide +kernel
theorem d_M_init_19 : decode m_M_init.2.1 19 = .ok (.dup, 1) := by decide +kernel
theorem d_M_init_20 : decode m_M_init.2.1 20 = .ok (.invokespecial 20, 3) := by decide +kernel
theorem d_M_init_23 : decode m_M_init.2.1 23 = .ok (.putfield 21, 3) := by decide +kernel
theorem d_M_init_26 : decode m_M_init.2.1 26 = .ok (.return_, 1) := by decide +kernel
theorem d_M_reduce_0 : decode m_M_reduce.2.1 0 = .ok (.aload_n 1, 1) := by decide +kernel
theorem d_M_reduce_1 : decode m_M_reduce.2.1 1 = .ok (.dup, 1) := by decide +kernel
theorem d_M_reduce_2 : decode m_M_reduce.2.1 2 = .ok (.getfield 25, 3) := by decide +kernel
theorem d_M_reduce_5 : decode m_M_reduce.2.1 5 = .ok (.iconst 1, 1) := by decide +kernel
theorem d_M_reduce_6 : decode m_M_reduce.2.1 6 = .ok (.iadd, 1) := by decide +kernel
theorem d_M_reduce_7 : decode m_M_reduce.2.1 7 = .ok (.putfield 25, 3) := by decide +kernel
theorem d_M_reduce_10 : decode m_M_reduce.2.1 10 = .ok (.aload_n 0, 1) := by decide +kernel
theorem d_M_reduce_11 : decode m_M_reduce.2.1 11 = .ok (.getfield 12, 3) := by decide +kernel
theorem d_M_reduce_14 : decode m_M_reduce.2.1 14 = .ok (.aload_n 1, 1) := by decide +kernel
theorem d_M_reduce_15 : decode m_M_reduce.2.1 15 = .ok (.getfield 31, 3) := by decide +kernel
theorem d_M_reduce_18 : decode m_M_reduce.2.1 18 = .ok (.invokevirtual 34, 3) := by decide +kernel
theorem d_M_reduce_21 : decode m_M_reduce.2.1 21 = .ok (.ifCond .ne 22, 3) := by decide +kernel
theorem d_M_reduce_24 : decode m_M_reduce.2.1 24 = .ok (.aload_n 0, 1) := by decide +kernel
theorem d_M_reduce_25 : decode m_M_reduce.2.1 25 = .ok (.getfield 21, 3) := by decide +kernel
theorem d_M_reduce_28 : decode m_M_reduce.2.1 28 = .ok (.aload_n 1, 1) := by decide +kernel
theorem d_M_reduce_29 : decode m_M_reduce.2.1 29 = .ok (.aload_n 0, 1) := by decide +kernel
theorem d_M_reduce_30 : decode m_M_reduce.2.1 30 = .ok (.getfield 21, 3) := by decide +kernel
theorem d_M_reduce_33 : decode m_M_reduce.2.1 33 = .ok (.getfield 38, 3) := by decide +kernel
theorem d_M_reduce_36 : decode m_M_reduce.2.1 36 = .ok (.bipush 13, 2) := by decide +kernel
theorem d_M_reduce_38 : decode m_M_reduce.2.1 38 = .ok (.aaload, 1) := by decide +kernel
theorem d_M_reduce_39 : decode m_M_reduce.2.1 39 = .ok (.invokevirtual 42, 3) := by decide +kernel
theorem d_M_reduce_42 : decode m_M_reduce.2.1 42 = .ok (.return_, 1) := by decide +kernel
theorem d_M_reduce_43 : decode m_M_reduce.2.1 43 = .ok (.iconst 4, 1) := by decide +kernel
theorem d_M_reduce_44 : decode m_M_reduce.2.1 44 = .ok (.aload_n 1, 1) := by decide +kernel
theorem d_M_reduce_45 : decode m_M_reduce.2.1 45 = .ok (.getfield 31, 3) := by decide +kernel
theorem d_M_reduce_48 : decode m_M_reduce.2.1 48 = .ok (.imul, 1) := by decide +kernel
theorem d_M_reduce_49 : decode m_M_reduce.2.1 49 = .ok (.istore_n 2, 1) := by decide +kernel
theorem d_M_reduce_50 : decode m_M_reduce.2.1 50 = .ok (.aload_n 0, 1) := by decide +kernel
theorem d_M_reduce_51 : decode m_M_reduce.2.1 51 = .ok (.getfield 12, 3) := by decide +kernel
theorem d_M_reduce_54 : decode m_M_reduce.2.1 54 = .ok (.getfield 46, 3) := by decide +kernel
theorem d_M_reduce_57 : decode m_M_reduce.2.1 57 = .ok (.astore_n 3, 1) := by decide +kernel
theorem d_M_reduce_58 : decode m_M_reduce.2.1 58 = .ok (.aload_n 1, 1) := by decide +kernel
theorem d_M_reduce_59 : decode m_M_reduce.2.1 59 = .ok (.dup, 1) := by decide +kernel
theorem d_M_reduce_60 : decode m_M_reduce.2.1 60 = .ok (.getfield 31, 3) := by decide +kernel
theorem d_M_reduce_63 : decode m_M_reduce.2.1 63 = .ok (.iconst 1, 1) := by decide +kernel
theorem d_M_reduce_64 : decode m_M_reduce.2.1 64 = .ok (.iadd, 1) := by decide +kernel
theorem d_M_reduce_65 : decode m_M_reduce.2.1 65 = .ok (.putfield 31, 3) := by decide +kernel
theorem d_M_reduce_68 : decode m_M_reduce.2.1 68 = .ok (.aload_n 0, 1) := by decide +kernel
theorem d_M_reduce_69 : decode m_M_reduce.2.1 69 = .ok (.aload_n 1, 1) := by decide +kernel
theorem d_M_reduce_70 : decode m_M_reduce.2.1 70 = .ok (.aload_n 3, 1) := by decide +kernel
theorem d_M_reduce_71 : decode m_M_reduce.2.1 71 = .ok (.iload_n 2, 1) := by decide +kernel
theorem d_M_reduce_72 : decode m_M_reduce.2.1 72 = .ok (.iaload, 1) := by decide +kernel
theorem d_M_reduce_73 : decode m_M_reduce.2.1 73 = .ok (.aload_n 3, 1) := by decide +kernel
theorem d_M_reduce_74 : decode m_M_reduce.2.1 74 = .ok (.iload_n 2, 1) := by decide +kernel
theorem d_M_reduce_75 : decode m_M_reduce.2.1 75 = .ok (.iconst 1, 1) := by decide +kernel
theorem d_M_reduce_76 : decode m_M_reduce.2.1 76 = .ok (.iadd, 1) := by decide +kernel
theorem d_M_reduce_77 : decode m_M_reduce.2.1 77 = .ok (.iaload, 1) := by decide +kernel
theorem d_M_reduce_78 : decode m_M_reduce.2.1 78 = .ok (.aload_n 3, 1) := by decide +kernel
theorem d_M_reduce_79 : decode m_M_reduce.2.1 79 = .ok (.iload_n 2, 1) := by decide +kernel
theorem d_M_reduce_80 : decode m_M_reduce.2.1 80 = .ok (.iconst 2, 1) := by decide +kernel
theorem d_M_reduce_81 : decode m_M_reduce.2.1 81 = .ok (.iadd, 1) := by decide +kernel
theorem d_M_reduce_82 : decode m_M_reduce.2.1 82 = .ok (.iaload, 1) := by decide +kernel
theorem d_M_reduce_83 : decode m_M_reduce.2.1 83 = .ok (.aload_n 3, 1) := by decide +kernel
theorem d_M_reduce_84 : decode m_M_reduce.2.1 84 = .ok (.iload_n 2, 1) := by decide +kernel
theorem d_M_reduce_85 : decode m_M_reduce.2.1 85 = .ok (.iconst 3, 1) := by decide +kernel
theorem d_M_reduce_86 : decode m_M_reduce.2.1 86 = .ok (.iadd, 1) := by decide +kernel
theorem d_M_reduce_87 : decode m_M_reduce.2.1 87 = .ok (.iaload, 1) := by decide +kernel
theorem d_M_reduce_88 : decode m_M_reduce.2.1 88 = .ok (.invokevirtual 50, 3) := by decide +kernel
theorem d_M_reduce_91 : decode m_M_reduce.2.1 91 = .ok (.ifCond .ne 21, 3) := by decide +kernel
theorem d_M_reduce_94 : decode m_M_reduce.2.1 94 = .ok (.aload_n 0, 1) := by decide +kernel
theorem d_M_reduce_95 : decode m_M_reduce.2.1 95 = .ok (.getfield 21, 3) := by decide +kernel
theorem d_M_reduce_98 : decode m_M_reduce.2.1 98 = .ok (.aload_n 1, 1) := by decide +kernel
theorem d_M_reduce_99 : decode m_M_reduce.2.1 99 = .ok (.aload_n 0, 1) := by decide +kernel
theorem d_M_reduce_100 : decode m_M_reduce.2.1 100 = .ok (.getfield 21, 3) := by decide +kernel
theorem d_M_reduce_103 : decode m_M_reduce.2.1 103 = .ok (.getfield 38, 3) := by decide +kernel
theorem d_M_reduce_106 : decode m_M_reduce.2.1 106 = .ok (.bipush 13, 2) := by decide +kernel
theorem d_M_reduce_108 : decode m_M_reduce.2.1 108 = .ok (.aaload, 1) := by decide +kernel
theorem d_M_reduce_109 : decode m_M_reduce.2.1 109 = .ok (.invokevirtual 42, 3) := by decide +kernel
theorem d_M_reduce_112 : decode m_M_reduce.2.1 112 = .ok (.return_, 1) := by decide +kernel
theorem d_M_perform_0 : decode m_M_perform.2.1 0 = .ok (.aload_n 1, 1) := by decide +kernel
theorem d_M_perform_1 : decode m_M_perform.2.1 1 = .ok (.getfield 54, 3) := by decide +kernel
theorem d_M_perform_4 : decode m_M_perform.2.1 4 = .ok (.astore 6, 2) := by decide +kernel
theorem d_M_perform_6 : decode m_M_perform.2.1 6 = .ok (.iload_n 2, 1) := by decide +kernel
theorem d_M_perform_7 : decode m_M_perform.2.1 7 = .ok (.tableswitch 628 0 26 #[121, 137, 153, 164, 174, 187, 207, 227, 241, 255, 310, 365, 418, 437, 461, 467, 488, 494, 515, 534, 542, 548, 555, 569, 586, 601, 611], 121) := by decide +kernel
theorem d_M_perform_128 : decode m_M_perform.2.1 128 = .ok (.aload_n 1, 1) := by decide +kernel
theorem d_M_perform_129 : decode m_M_perform.2.1 129 = .ok (.iload_n 3, 1) := by decide +kernel
theorem d_M_perform_130 : decode m_M_perform.2.1 130 = .ok (.new 57, 3) := by decide +kernel
theorem d_M_perform_133 : decode m_M_perform.2.1 133 = .ok (.dup, 1) := by decide +kernel
theorem d_M_perform_134 : decode m_M_perform.2.1 134 = .ok (.iconst 0, 1) := by decide +kernel
theorem d_M_perform_135 : decode m_M_perform.2.1 135 = .ok (.iload 4, 2) := by decide +kernel
theorem d_M_perform_137 : decode m_M_perform.2.1 137 = .ok (.invokespecial 59, 3) := by decide +kernel
theorem d_M_perform_140 : decode m_M_perform.2.1 140 = .ok (.invokevirtual 62, 3) := by decide +kernel
theorem d_M_perform_143 : decode m_M_perform.2.1 143 = .ok (.ireturn, 1) := by decide +kernel
theorem d_M_perform_144 : decode m_M_perform.2.1 144 = .ok (.aload_n 1, 1) := by decide +kernel
theorem d_M_perform_145 : decode m_M_perform.2.1 145 = .ok (.iload_n 3, 1) := by decide +kernel
theorem d_M_perform_146 : decode m_M_perform.2.1 146 = .ok (.aload_n 0, 1) := by decide +kernel
theorem d_M_perform_147 : decode m_M_perform.2.1 147 = .ok (.getfield 21, 3) := by decide +kernel
theorem d_M_perform_150 : decode m_M_perform.2.1 150 = .ok (.getfield 38, 3) := by decide +kernel
theorem d_M_perform_153 : decode m_M_perform.2.1 153 = .ok (.iload 4, 2) := by decide +kernel
theorem d_M_perform_155 : decode m_M_perform.2.1 155 = .ok (.aaload, 1) := by decide +kernel
theorem d_M_perform_156 : decode m_M_perform.2.1 156 = .ok (.invokevirtual 62, 3) := by decide +kernel
theorem d_M_perform_159 : decode m_M_perform.2.1 159 = .ok (.ireturn, 1) := by decide +kernel
theorem d_M_perform_160 : decode m_M_perform.2.1 160 = .ok (.aload_n 1, 1) := by decide +kernel
theorem d_M_perform_161 : decode m_M_perform.2.1 161 = .ok (.iload_n 3, 1) := by decide +kernel
theorem d_M_perform_162 : decode m_M_perform.2.1 162 = .ok (.aload 6, 2) := by decide +kernel
theorem d_M_perform_164 : decode m_M_perform.2.1 164 = .ok (.iload 4, 2) := by decide +kernel
theorem d_M_perform_166 : decode m_M_perform.2.1 166 = .ok (.aaload, 1) := by decide +kernel
theorem d_M_perform_167 : decode m_M_perform.2.1 167 = .ok (.invokevirtual 62, 3) := by decide +kernel
theorem d_M_perform_170 : decode m_M_perform.2.1 170 = .ok (.ireturn, 1) := by decide +kernel
theorem d_M_perform_171 : decode m_M_perform.2.1 171 = .ok (.aload_n 1, 1) := by decide +kernel
theorem d_M_perform_172 : decode m_M_perform.2.1 172 = .ok (.iload_n 3, 1) := by decide +kernel
theorem d_M_perform_173 : decode m_M_perform.2.1 173 = .ok (.aload_n 1, 1) := by decide +kernel
theorem d_M_perform_174 : decode m_M_perform.2.1 174 = .ok (.getfield 66, 3) := by decide +kernel
theorem d_M_perform_177 : decode m_M_perform.2.1 177 = .ok (.invokevirtual 62, 3) := by decide +kernel
theorem d_M_perform_180 : decode m_M_perform.2.1 180 = .ok (.ireturn, 1) := by decide +kernel
theorem d_M_perform_181 : decode m_M_perform.2.1 181 = .ok (.aload_n 1, 1) := by decide +kernel
theorem d_M_perform_182 : decode m_M_perform.2.1 182 = .ok (.iload_n 3, 1) := by decide +kernel
theorem d_M_perform_183 : decode m_M_perform.2.1 183 = .ok (.aload_n 0, 1) := by decide +kernel
theorem d_M_perform_184 : decode m_M_perform.2.1 184 = .ok (.getfield 21, 3) := by decide +kernel
theorem d_M_perform_187 : decode m_M_perform.2.1 187 = .ok (.getfield 70, 3) := by decide +kernel
theorem d_M_perform_190 : decode m_M_perform.2.1 190 = .ok (.invokevirtual 62, 3) := by decide +kernel
theorem d_M_perform_193 : decode m_M_perform.2.1 193 = .ok (.ireturn, 1) := by decide +kernel
theorem d_M_perform_194 : decode m_M_perform.2.1 194 = .ok (.aload_n 1, 1) := by decide +kernel
theorem d_M_perform_195 : decode m_M_perform.2.1 195 = .ok (.iload_n 3, 1) := by decide +kernel
theorem d_M_perform_196 : decode m_M_perform.2.1 196 = .ok (.iconst 4, 1) := by decide +kernel
theorem d_M_perform_197 : decode m_M_perform.2.1 197 = .ok (.aload 6, 2) := by decide +kernel
theorem d_M_perform_199 : decode m_M_perform.2.1 199 = .ok (.iload 4, 2) := by decide +kernel
theorem d_M_perform_201 : decode m_M_perform.2.1 201 = .ok (.aaload, 1) := by decide +kernel
theorem d_M_perform_202 : decode m_M_perform.2.1 202 = .ok (.aload 6, 2) := by decide +kernel
theorem d_M_perform_204 : decode m_M_perform.2.1 204 = .ok (.iload 5, 2) := by decide +kernel
theorem d_M_perform_206 : decode m_M_perform.2.1 206 = .ok (.aaload, 1) := by decide +kernel
theorem d_M_perform_207 : decode m_M_perform.2.1 207 = .ok (.invokestatic 73, 3) := by decide +kernel
theorem d_M_perform_210 : decode m_M_perform.2.1 210 = .ok (.invokevirtual 62, 3) := by decide +kernel
theorem d_M_perform_213 : decode m_M_perform.2.1 213 = .ok (.ireturn, 1) := by decide +kernel
theorem d_M_perform_214 : decode m_M_perform.2.1 214 = .ok (.aload_n 1, 1) := by decide +kernel
theorem d_M_perform_215 : decode m_M_perform.2.1 215 = .ok (.iload_n 3, 1) := by decide +kernel
theorem d_M_perform_216 : decode m_M_perform.2.1 216 = .ok (.iconst 5, 1) := by decide +kernel
theorem d_M_perform_217 : decode m_M_perform.2.1 217 = .ok (.aload 6, 2) := by decide +kernel
theorem d_M_perform_219 : decode m_M_perform.2.1 219 = .ok (.iload 4, 2) := by decide +kernel
theorem d_M_perform_221 : decode m_M_perform.2.1 221 = .ok (.aaload, 1) := by decide +kernel
theorem d_M_perform_222 : decode m_M_perform.2.1 222 = .ok (.aload 6, 2) := by decide +kernel
theorem d_M_perform_224 : decode m_M_perform.2.1 224 = .ok (.iload 5, 2) := by decide +kernel
theorem d_M_perform_226 : decode m_M_perform.2.1 226 = .ok (.aaload, 1) := by decide +kernel
theorem d_M_perform_227 : decode m_M_perform.2.1 227 = .ok (.invokestatic 73, 3) := by decide +kernel
theorem d_M_perform_230 : decode m_M_perform.2.1 230 = .ok (.invokevirtual 62, 3) := by decide +kernel
theorem d_M_perform_233 : decode m_M_perform.2.1 233 = .ok (.ireturn, 1) := by decide +kernel
theorem d_M_perform_234 : decode m_M_perform.2.1 234 = .ok (.aload_n 1, 1) := by decide +kernel
theorem d_M_perform_235 : decode m_M_perform.2.1 235 = .ok (.iload_n 3, 1) := by decide +kernel
theorem d_M_perform_236 : decode m_M_perform.2.1 236 = .ok (.aload 6, 2) := by decide +kernel
theorem d_M_perform_238 : decode m_M_perform.2.1 238 = .ok (.iload 4, 2) := by decide +kernel
theorem d_M_perform_240 : decode m_M_perform.2.1 240 = .ok (.aaload, 1) := by decide +kernel
theorem d_M_perform_241 : decode m_M_perform.2.1 241 = .ok (.getfield 77, 3) := by decide +kernel
theorem d_M_perform_244 : decode m_M_perform.2.1 244 = .ok (.invokevirtual 62, 3) := by decide +kernel
theorem d_M_perform_247 : decode m_M_perform.2.1 247 = .ok (.ireturn, 1) := by decide +kernel
theorem d_M_perform_248 : decode m_M_perform.2.1 248 = .ok (.aload_n 1, 1) := by decide +kernel
theorem d_M_perform_249 : decode m_M_perform.2.1 249 = .ok (.iload_n 3, 1) := by decide +kernel
theorem d_M_perform_250 : decode m_M_perform.2.1 250 = .ok (.aload 6, 2) := by decide +kernel
theorem d_M_perform_252 : decode m_M_perform.2.1 252 = .ok (.iload 4, 2) := by decide +kernel
theorem d_M_perform_254 : decode m_M_perform.2.1 254 = .ok (.aaload, 1) := by decide +kernel
theorem d_M_perform_255 : decode m_M_perform.2.1 255 = .ok (.getfield 80, 3) := by decide +kernel
theorem d_M_perform_258 : decode m_M_perform.2.1 258 = .ok (.invokevirtual 62, 3) := by decide +kernel
theorem d_M_perform_261 : decode m_M_perform.2.1 261 = .ok (.ireturn, 1) := by decide +kernel
theorem d_M_perform_262 : decode m_M_perform.2.1 262 = .ok (.aload 6, 2) := by decide +kernel
theorem d_M_perform_264 : decode m_M_perform.2.1 264 = .ok (.iload 4, 2) := by decide +kernel
theorem d_M_perform_266 : decode m_M_perform.2.1 266 = .ok (.aaload, 1) := by decide +kernel
theorem d_M_perform_267 : decode m_M_perform.2.1 267 = .ok (.aload 6, 2) := by decide +kernel
theorem d_M_perform_269 : decode m_M_perform.2.1 269 = .ok (.iload 5, 2) := by decide +kernel
theorem d_M_perform_271 : decode m_M_perform.2.1 271 = .ok (.aaload, 1) := by decide +kernel
theorem d_M_perform_272 : decode m_M_perform.2.1 272 = .ok (.invokestatic 83, 3) := by decide +kernel
theorem d_M_perform_275 : decode m_M_perform.2.1 275 = .ok (.ifCond .eq 40, 3) := by decide +kernel
theorem d_M_perform_278 : decode m_M_perform.2.1 278 = .ok (.aload_n 1, 1) := by decide +kernel
theorem d_M_perform_279 : decode m_M_perform.2.1 279 = .ok (.iload_n 3, 1) := by decide +kernel
theorem d_M_perform_280 : decode m_M_perform.2.1 280 = .ok (.new 57, 3) := by decide +kernel
theorem d_M_perform_283 : decode m_M_perform.2.1 283 = .ok (.dup, 1) := by decide +kernel
theorem d_M_perform_284 : decode m_M_perform.2.1 284 = .ok (.iconst 0, 1) := by decide +kernel
theorem d_M_perform_285 : decode m_M_perform.2.1 285 = .ok (.aload 6, 2) := by decide +kernel
theorem d_M_perform_287 : decode m_M_perform.2.1 287 = .ok (.iload 4, 2) := by decide +kernel
theorem d_M_perform_289 : decode m_M_perform.2.1 289 = .ok (.aaload, 1) := by decide +kernel
theorem d_M_perform_290 : decode m_M_perform.2.1 290 = .ok (.getfield 87, 3) := by decide +kernel
theorem d_M_perform_293 : decode m_M_perform.2.1 293 = .ok (.aload 6, 2) := by decide +kernel
theorem d_M_perform_295 : decode m_M_perform.2.1 295 = .ok (.iload 5, 2) := by decide +kernel
theorem d_M_perform_297 : decode m_M_perform.2.1 297 = .ok (.aaload, 1) := by decide +kernel
theorem d_M_perform_298 : decode m_M_perform.2.1 298 = .ok (.getfield 87, 3) := by decide +kernel
theorem d_M_perform_301 : decode m_M_perform.2.1 301 = .ok (.iadd, 1) := by decide +kernel
theorem d_M_perform_302 : decode m_M_perform.2.1 302 = .ok (.invokespecial 59, 3) := by decide +kernel
theorem d_M_perform_305 : decode m_M_perform.2.1 305 = .ok (.invokevirtual 62, 3) := by decide +kernel
theorem d_M_perform_308 : decode m_M_perform.2.1 308 = .ok (.ifCond .eq 7, 3) := by decide +kernel
theorem d_M_perform_311 : decode m_M_perform.2.1 311 = .ok (.iconst 1, 1) := by decide +kernel
theorem d_M_perform_312 : decode m_M_perform.2.1 312 = .ok (.goto 4, 3) := by decide +kernel
theorem d_M_perform_315 : decode m_M_perform.2.1 315 = .ok (.iconst 0, 1) := by decide +kernel
theorem d_M_perform_316 : decode m_M_perform.2.1 316 = .ok (.ireturn, 1) := by decide +kernel
theorem d_M_perform_317 : decode m_M_perform.2.1 317 = .ok (.aload 6, 2) := by decide +kernel
theorem d_M_perform_319 : decode m_M_perform.2.1 319 = .ok (.iload 4, 2) := by decide +kernel
theorem d_M_perform_321 : decode m_M_perform.2.1 321 = .ok (.aaload, 1) := by decide +kernel
theorem d_M_perform_322 : decode m_M_perform.2.1 322 = .ok (.aload 6, 2) := by decide +kernel
theorem d_M_perform_324 : decode m_M_perform.2.1 324 = .ok (.iload 5, 2) := by decide +kernel
theorem d_M_perform_326 : decode m_M_perform.2.1 326 = .ok (.aaload, 1) := by decide +kernel
theorem d_M_perform_327 : decode m_M_perform.2.1 327 = .ok (.invokestatic 83, 3) := by decide +kernel
theorem d_M_perform_330 : decode m_M_perform.2.1 330 = .ok (.ifCond .eq 40, 3) := by decide +kernel
theorem d_M_perform_333 : decode m_M_perform.2.1 333 = .ok (.aload_n 1, 1) := by decide +kernel
theorem d_M_perform_334 : decode m_M_perform.2.1 334 = .ok (.iload_n 3, 1) := by decide +kernel
theorem d_M_perform_335 : decode m_M_perform.2.1 335 = .ok (.new 57, 3) := by decide +kernel
theorem d_M_perform_338 : decode m_M_perform.2.1 338 = .ok (.dup, 1) := by decide +kernel
theorem d_M_perform_339 : decode m_M_perform.2.1 339 = .ok (.iconst 0, 1) := by decide +kernel
theorem d_M_perform_340 : decode m_M_perform.2.1 340 = .ok (.aload 6, 2) := by decide +kernel
theorem d_M_perform_342 : decode m_M_perform.2.1 342 = .ok (.iload 4, 2) := by decide +kernel
theorem d_M_perform_344 : decode m_M_perform.2.1 344 = .ok (.aaload, 1) := by decide +kernel
theorem d_M_perform_345 : decode m_M_perform.2.1 345 = .ok (.getfield 87, 3) := by decide +kernel
theorem d_M_perform_348 : decode m_M_perform.2.1 348 = .ok (.aload 6, 2) := by decide +kernel
theorem d_M_perform_350 : decode m_M_perform.2.1 350 = .ok (.iload 5, 2) := by decide +kernel
theorem d_M_perform_352 : decode m_M_perform.2.1 352 = .ok (.aaload, 1) := by decide +kernel
theorem d_M_perform_353 : decode m_M_perform.2.1 353 = .ok (.getfield 87, 3) := by decide +kernel
theorem d_M_perform_356 : decode m_M_perform.2.1 356 = .ok (.isub, 1) := by decide +kernel
theorem d_M_perform_357 : decode m_M_perform.2.1 357 = .ok (.invokespecial 59, 3) := by decide +kernel
theorem d_M_perform_360 : decode m_M_perform.2.1 360 = .ok (.invokevirtual 62, 3) := by decide +kernel
theorem d_M_perform_363 : decode m_M_perform.2.1 363 = .ok (.ifCond .eq 7, 3) := by decide +kernel
theorem d_M_perform_366 : decode m_M_perform.2.1 366 = .ok (.iconst 1, 1) := by decide +kernel
theorem d_M_perform_367 : decode m_M_perform.2.1 367 = .ok (.goto 4, 3) := by decide +kernel
theorem d_M_perform_370 : decode m_M_perform.2.1 370 = .ok (.iconst 0, 1) := by decide +kernel
theorem d_M_perform_371 : decode m_M_perform.2.1 371 = .ok (.ireturn, 1) := by decide +kernel
theorem d_M_perform_372 : decode m_M_perform.2.1 372 = .ok (.aload 6, 2) := by decide +kernel
theorem d_M_perform_374 : decode m_M_perform.2.1 374 = .ok (.iload_n 3, 1) := by decide +kernel
theorem d_M_perform_375 : decode m_M_perform.2.1 375 = .ok (.aaload, 1) := by decide +kernel
theorem d_M_perform_376 : decode m_M_perform.2.1 376 = .ok (.aload 6, 2) := by decide +kernel
theorem d_M_perform_378 : decode m_M_perform.2.1 378 = .ok (.iload 4, 2) := by decide +kernel
theorem d_M_perform_380 : decode m_M_perform.2.1 380 = .ok (.aaload, 1) := by decide +kernel
theorem d_M_perform_381 : decode m_M_perform.2.1 381 = .ok (.invokestatic 83, 3) := by decide +kernel
theorem d_M_perform_384 : decode m_M_perform.2.1 384 = .ok (.ifCond .eq 39, 3) := by decide +kernel
theorem d_M_perform_387 : decode m_M_perform.2.1 387 = .ok (.aload_n 1, 1) := by decide +kernel
theorem d_M_perform_388 : decode m_M_perform.2.1 388 = .ok (.aload 6, 2) := by decide +kernel
theorem d_M_perform_390 : decode m_M_perform.2.1 390 = .ok (.iload_n 3, 1) := by decide +kernel
theorem d_M_perform_391 : decode m_M_perform.2.1 391 = .ok (.aaload, 1) := by decide +kernel
theorem d_M_perform_392 : decode m_M_perform.2.1 392 = .ok (.getfield 87, 3) := by decide +kernel
theorem d_M_perform_395 : decode m_M_perform.2.1 395 = .ok (.aload 6, 2) := by decide +kernel
theorem d_M_perform_397 : decode m_M_perform.2.1 397 = .ok (.iload 4, 2) := by decide +kernel
theorem d_M_perform_399 : decode m_M_perform.2.1 399 = .ok (.aaload, 1) := by decide +kernel
theorem d_M_perform_400 : decode m_M_perform.2.1 400 = .ok (.getfield 87, 3) := by decide +kernel
theorem d_M_perform_403 : decode m_M_perform.2.1 403 = .ok (.if_icmp .ge 7, 3) := by decide +kernel
theorem d_M_perform_406 : decode m_M_perform.2.1 406 = .ok (.iconst 1, 1) := by decide +kernel
theorem d_M_perform_407 : decode m_M_perform.2.1 407 = .ok (.goto 4, 3) := by decide +kernel
theorem d_M_perform_410 : decode m_M_perform.2.1 410 = .ok (.iconst 0, 1) := by decide +kernel
theorem d_M_perform_411 : decode m_M_perform.2.1 411 = .ok (.iload 5, 2) := by decide +kernel
theorem d_M_perform_413 : decode m_M_perform.2.1 413 = .ok (.invokestatic 90, 3) := by decide +kernel
theorem d_M_perform_416 : decode m_M_perform.2.1 416 = .ok (.ifCond .eq 7, 3) := by decide +kernel
theorem d_M_perform_419 : decode m_M_perform.2.1 419 = .ok (.iconst 1, 1) := by decide +kernel
theorem d_M_perform_420 : decode m_M_perform.2.1 420 = .ok (.goto 4, 3) := by decide +kernel
theorem d_M_perform_423 : decode m_M_perform.2.1 423 = .ok (.iconst 0, 1) := by decide +kernel
