/-! Decode rows (printed by wip/gen/dec.py). -/
theorem d_N_add_77 : decode m_N_add.2.1 77 = .ok (.aload_n 0, 1) := by decide +kernel
theorem d_N_add_78 : decode m_N_add.2.1 78 = .ok (.getfield 85, 3) := by decide +kernel
theorem d_N_add_81 : decode m_N_add.2.1 81 = .ok (.iload_n 2, 1) := by decide +kernel
theorem d_N_add_82 : decode m_N_add.2.1 82 = .ok (.iastore, 1) := by decide +kernel
theorem d_N_add_83 : decode m_N_add.2.1 83 = .ok (.aload_n 0, 1) := by decide +kernel
theorem d_N_add_84 : decode m_N_add.2.1 84 = .ok (.getfield 16, 3) := by decide +kernel
theorem d_N_add_87 : decode m_N_add.2.1 87 = .ok (.aload_n 0, 1) := by decide +kernel
theorem d_N_add_88 : decode m_N_add.2.1 88 = .ok (.getfield 85, 3) := by decide +kernel
theorem d_N_add_91 : decode m_N_add.2.1 91 = .ok (.iload_n 3, 1) := by decide +kernel
theorem d_N_add_92 : decode m_N_add.2.1 92 = .ok (.iastore, 1) := by decide +kernel
theorem d_N_add_93 : decode m_N_add.2.1 93 = .ok (.aload_n 0, 1) := by decide +kernel
theorem d_N_add_94 : decode m_N_add.2.1 94 = .ok (.getfield 19, 3) := by decide +kernel
theorem d_N_add_97 : decode m_N_add.2.1 97 = .ok (.aload_n 0, 1) := by decide +kernel
theorem d_N_add_98 : decode m_N_add.2.1 98 = .ok (.getfield 85, 3) := by decide +kernel
theorem d_N_add_101 : decode m_N_add.2.1 101 = .ok (.iload 4, 2) := by decide +kernel
theorem d_N_add_103 : decode m_N_add.2.1 103 = .ok (.iastore, 1) := by decide +kernel
theorem d_N_add_104 : decode m_N_add.2.1 104 = .ok (.aload_n 0, 1) := by decide +kernel
theorem d_N_add_105 : decode m_N_add.2.1 105 = .ok (.aload_n 0, 1) := by decide +kernel
theorem d_N_add_106 : decode m_N_add.2.1 106 = .ok (.getfield 85, 3) := by decide +kernel
theorem d_N_add_109 : decode m_N_add.2.1 109 = .ok (.iconst 1, 1) := by decide +kernel
theorem d_N_add_110 : decode m_N_add.2.1 110 = .ok (.iadd, 1) := by decide +kernel
theorem d_N_add_111 : decode m_N_add.2.1 111 = .ok (.putfield 85, 3) := by decide +kernel
theorem d_N_add_114 : decode m_N_add.2.1 114 = .ok (.aload_n 0, 1) := by decide +kernel
theorem d_N_add_115 : decode m_N_add.2.1 115 = .ok (.getfield 85, 3) := by decide +kernel
theorem d_N_add_118 : decode m_N_add.2.1 118 = .ok (.iconst 1, 1) := by decide +kernel
theorem d_N_add_119 : decode m_N_add.2.1 119 = .ok (.isub, 1) := by decide +kernel
theorem d_N_add_120 : decode m_N_add.2.1 120 = .ok (.ireturn, 1) := by decide +kernel
theorem d_N_come_0 : decode m_N_come.2.1 0 = .ok (.aload_n 0, 1) := by decide +kernel
theorem d_N_come_1 : decode m_N_come.2.1 1 = .ok (.getfield 53, 3) := by decide +kernel
theorem d_N_come_4 : decode m_N_come.2.1 4 = .ok (.aload_n 0, 1) := by decide +kernel
theorem d_N_come_5 : decode m_N_come.2.1 5 = .ok (.getfield 101, 3) := by decide +kernel
theorem d_N_come_8 : decode m_N_come.2.1 8 = .ok (.iload_n 1, 1) := by decide +kernel
theorem d_N_come_9 : decode m_N_come.2.1 9 = .ok (.iastore, 1) := by decide +kernel
theorem d_N_come_10 : decode m_N_come.2.1 10 = .ok (.aload_n 0, 1) := by decide +kernel
theorem d_N_come_11 : decode m_N_come.2.1 11 = .ok (.aload_n 0, 1) := by decide +kernel
theorem d_N_come_12 : decode m_N_come.2.1 12 = .ok (.getfield 101, 3) := by decide +kernel
theorem d_N_come_15 : decode m_N_come.2.1 15 = .ok (.iconst 1, 1) := by decide +kernel
theorem d_N_come_16 : decode m_N_come.2.1 16 = .ok (.iadd, 1) := by decide +kernel
theorem d_N_come_17 : decode m_N_come.2.1 17 = .ok (.putfield 101, 3) := by decide +kernel
theorem d_N_come_20 : decode m_N_come.2.1 20 = .ok (.return_, 1) := by decide +kernel
theorem d_N_leave_0 : decode m_N_leave.2.1 0 = .ok (.iconst (-1), 1) := by decide +kernel
theorem d_N_leave_1 : decode m_N_leave.2.1 1 = .ok (.istore_n 2, 1) := by decide +kernel
theorem d_N_leave_2 : decode m_N_leave.2.1 2 = .ok (.iconst 0, 1) := by decide +kernel
theorem d_N_leave_3 : decode m_N_leave.2.1 3 = .ok (.istore_n 3, 1) := by decide +kernel
theorem d_N_leave_4 : decode m_N_leave.2.1 4 = .ok (.iload_n 3, 1) := by decide +kernel
theorem d_N_leave_5 : decode m_N_leave.2.1 5 = .ok (.aload_n 0, 1) := by decide +kernel
theorem d_N_leave_6 : decode m_N_leave.2.1 6 = .ok (.getfield 101, 3) := by decide +kernel
theorem d_N_leave_9 : decode m_N_leave.2.1 9 = .ok (.if_icmp .ge 25, 3) := by decide +kernel
theorem d_N_leave_12 : decode m_N_leave.2.1 12 = .ok (.aload_n 0, 1) := by decide +kernel
theorem d_N_leave_13 : decode m_N_leave.2.1 13 = .ok (.getfield 53, 3) := by decide +kernel
theorem d_N_leave_16 : decode m_N_leave.2.1 16 = .ok (.iload_n 3, 1) := by decide +kernel
theorem d_N_leave_17 : decode m_N_leave.2.1 17 = .ok (.iaload, 1) := by decide +kernel
theorem d_N_leave_18 : decode m_N_leave.2.1 18 = .ok (.iload_n 1, 1) := by decide +kernel
theorem d_N_leave_19 : decode m_N_leave.2.1 19 = .ok (.if_icmp .ne 7, 3) := by decide +kernel
theorem d_N_leave_22 : decode m_N_leave.2.1 22 = .ok (.iload_n 3, 1) := by decide +kernel
theorem d_N_leave_23 : decode m_N_leave.2.1 23 = .ok (.goto 4, 3) := by decide +kernel
theorem d_N_leave_26 : decode m_N_leave.2.1 26 = .ok (.iload_n 2, 1) := by decide +kernel
theorem d_N_leave_27 : decode m_N_leave.2.1 27 = .ok (.istore_n 2, 1) := by decide +kernel
theorem d_N_leave_28 : decode m_N_leave.2.1 28 = .ok (.iinc 3 1, 3) := by decide +kernel
theorem d_N_leave_31 : decode m_N_leave.2.1 31 = .ok (.goto (-27), 3) := by decide +kernel
theorem d_N_leave_34 : decode m_N_leave.2.1 34 = .ok (.iload_n 2, 1) := by decide +kernel
theorem d_N_leave_35 : decode m_N_leave.2.1 35 = .ok (.ifCond .ge 4, 3) := by decide +kernel
theorem d_N_leave_38 : decode m_N_leave.2.1 38 = .ok (.return_, 1) := by decide +kernel
theorem d_N_leave_39 : decode m_N_leave.2.1 39 = .ok (.aload_n 0, 1) := by decide +kernel
theorem d_N_leave_40 : decode m_N_leave.2.1 40 = .ok (.aload_n 0, 1) := by decide +kernel
theorem d_N_leave_41 : decode m_N_leave.2.1 41 = .ok (.getfield 101, 3) := by decide +kernel
theorem d_N_leave_44 : decode m_N_leave.2.1 44 = .ok (.iconst 1, 1) := by decide +kernel
theorem d_N_leave_45 : decode m_N_leave.2.1 45 = .ok (.isub, 1) := by decide +kernel
theorem d_N_leave_46 : decode m_N_leave.2.1 46 = .ok (.putfield 101, 3) := by decide +kernel
theorem d_N_leave_49 : decode m_N_leave.2.1 49 = .ok (.iload_n 2, 1) := by decide +kernel
theorem d_N_leave_50 : decode m_N_leave.2.1 50 = .ok (.istore_n 3, 1) := by decide +kernel
theorem d_N_leave_51 : decode m_N_leave.2.1 51 = .ok (.iload_n 3, 1) := by decide +kernel
theorem d_N_leave_52 : decode m_N_leave.2.1 52 = .ok (.aload_n 0, 1) := by decide +kernel
theorem d_N_leave_53 : decode m_N_leave.2.1 53 = .ok (.getfield 101, 3) := by decide +kernel
theorem d_N_leave_56 : decode m_N_leave.2.1 56 = .ok (.if_icmp .ge 23, 3) := by decide +kernel
theorem d_N_leave_59 : decode m_N_leave.2.1 59 = .ok (.aload_n 0, 1) := by decide +kernel
theorem d_N_leave_60 : decode m_N_leave.2.1 60 = .ok (.getfield 53, 3) := by decide +kernel
theorem d_N_leave_63 : decode m_N_leave.2.1 63 = .ok (.iload_n 3, 1) := by decide +kernel
theorem d_N_leave_64 : decode m_N_leave.2.1 64 = .ok (.aload_n 0, 1) := by decide +kernel
theorem d_N_leave_65 : decode m_N_leave.2.1 65 = .ok (.getfield 53, 3) := by decide +kernel
theorem d_N_leave_68 : decode m_N_leave.2.1 68 = .ok (.iload_n 3, 1) := by decide +kernel
theorem d_N_leave_69 : decode m_N_leave.2.1 69 = .ok (.iconst 1, 1) := by decide +kernel
theorem d_N_leave_70 : decode m_N_leave.2.1 70 = .ok (.iadd, 1) := by decide +kernel
theorem d_N_leave_71 : decode m_N_leave.2.1 71 = .ok (.iaload, 1) := by decide +kernel
theorem d_N_leave_72 : decode m_N_leave.2.1 72 = .ok (.iastore, 1) := by decide +kernel
theorem d_N_leave_73 : decode m_N_leave.2.1 73 = .ok (.iinc 3 1, 3) := by decide +kernel
theorem d_N_leave_76 : decode m_N_leave.2.1 76 = .ok (.goto (-25), 3) := by decide +kernel
theorem d_N_leave_79 : decode m_N_leave.2.1 79 = .ok (.aload_n 0, 1) := by decide +kernel
theorem d_N_leave_80 : decode m_N_leave.2.1 80 = .ok (.iload_n 2, 1) := by decide +kernel
theorem d_N_leave_81 : decode m_N_leave.2.1 81 = .ok (.ifCond .ne 7, 3) := by decide +kernel
theorem d_N_leave_84 : decode m_N_leave.2.1 84 = .ok (.iconst 0, 1) := by decide +kernel
theorem d_N_leave_85 : decode m_N_leave.2.1 85 = .ok (.goto 7, 3) := by decide +kernel
theorem d_N_leave_88 : decode m_N_leave.2.1 88 = .ok (.aload_n 0, 1) := by decide +kernel
theorem d_N_leave_89 : decode m_N_leave.2.1 89 = .ok (.getfield 104, 3) := by decide +kernel
theorem d_N_leave_92 : decode m_N_leave.2.1 92 = .ok (.putfield 104, 3) := by decide +kernel
theorem d_N_leave_95 : decode m_N_leave.2.1 95 = .ok (.return_, 1) := by decide +kernel
theorem d_N_deliver_0 : decode m_N_deliver.2.1 0 = .ok (.aload_n 0, 1) := by decide +kernel
theorem d_N_deliver_1 : decode m_N_deliver.2.1 1 = .ok (.getfield 25, 3) := by decide +kernel
theorem d_N_deliver_4 : decode m_N_deliver.2.1 4 = .ok (.iload_n 1, 1) := by decide +kernel
theorem d_N_deliver_5 : decode m_N_deliver.2.1 5 = .ok (.iaload, 1) := by decide +kernel
theorem d_N_deliver_6 : decode m_N_deliver.2.1 6 = .ok (.iconst 3, 1) := by decide +kernel
theorem d_N_deliver_7 : decode m_N_deliver.2.1 7 = .ok (.if_icmp .eq 14, 3) := by decide +kernel
theorem d_N_deliver_10 : decode m_N_deliver.2.1 10 = .ok (.aload_n 0, 1) := by decide +kernel
theorem d_N_deliver_11 : decode m_N_deliver.2.1 11 = .ok (.getfield 34, 3) := by decide +kernel
theorem d_N_deliver_14 : decode m_N_deliver.2.1 14 = .ok (.iload_n 1, 1) := by decide +kernel
theorem d_N_deliver_15 : decode m_N_deliver.2.1 15 = .ok (.iaload, 1) := by decide +kernel
theorem d_N_deliver_16 : decode m_N_deliver.2.1 16 = .ok (.bipush 12, 2) := by decide +kernel
theorem d_N_deliver_18 : decode m_N_deliver.2.1 18 = .ok (.if_icmp .lt 4, 3) := by decide +kernel
theorem d_N_deliver_21 : decode m_N_deliver.2.1 21 = .ok (.return_, 1) := by decide +kernel
theorem d_N_deliver_22 : decode m_N_deliver.2.1 22 = .ok (.aload_n 0, 1) := by decide +kernel
theorem d_N_deliver_23 : decode m_N_deliver.2.1 23 = .ok (.iload_n 2, 1) := by decide +kernel
theorem d_N_deliver_24 : decode m_N_deliver.2.1 24 = .ok (.bipush 21, 2) := by decide +kernel
theorem d_N_deliver_26 : decode m_N_deliver.2.1 26 = .ok (.iload_n 1, 1) := by decide +kernel
theorem d_N_deliver_27 : decode m_N_deliver.2.1 27 = .ok (.imul, 1) := by decide +kernel
theorem d_N_deliver_28 : decode m_N_deliver.2.1 28 = .ok (.bipush 9, 2) := by decide +kernel
theorem d_N_deliver_30 : decode m_N_deliver.2.1 30 = .ok (.iadd, 1) := by decide +kernel
theorem d_N_deliver_31 : decode m_N_deliver.2.1 31 = .ok (.aload_n 0, 1) := by decide +kernel
theorem d_N_deliver_32 : decode m_N_deliver.2.1 32 = .ok (.getfield 34, 3) := by decide +kernel
theorem d_N_deliver_35 : decode m_N_deliver.2.1 35 = .ok (.iload_n 1, 1) := by decide +kernel
theorem d_N_deliver_36 : decode m_N_deliver.2.1 36 = .ok (.iaload, 1) := by decide +kernel
theorem d_N_deliver_37 : decode m_N_deliver.2.1 37 = .ok (.iadd, 1) := by decide +kernel
theorem d_N_deliver_38 : decode m_N_deliver.2.1 38 = .ok (.invokevirtual 107, 3) := by decide +kernel
theorem d_N_deliver_41 : decode m_N_deliver.2.1 41 = .ok (.aload_n 0, 1) := by decide +kernel
theorem d_N_deliver_42 : decode m_N_deliver.2.1 42 = .ok (.getfield 34, 3) := by decide +kernel
theorem d_N_deliver_45 : decode m_N_deliver.2.1 45 = .ok (.iload_n 1, 1) := by decide +kernel
theorem d_N_deliver_46 : decode m_N_deliver.2.1 46 = .ok (.aload_n 0, 1) := by decide +kernel
theorem d_N_deliver_47 : decode m_N_deliver.2.1 47 = .ok (.getfield 34, 3) := by decide +kernel
theorem d_N_deliver_50 : decode m_N_deliver.2.1 50 = .ok (.iload_n 1, 1) := by decide +kernel
theorem d_N_deliver_51 : decode m_N_deliver.2.1 51 = .ok (.iaload, 1) := by decide +kernel
theorem d_N_deliver_52 : decode m_N_deliver.2.1 52 = .ok (.iconst 1, 1) := by decide +kernel
theorem d_N_deliver_53 : decode m_N_deliver.2.1 53 = .ok (.iadd, 1) := by decide +kernel
theorem d_N_deliver_54 : decode m_N_deliver.2.1 54 = .ok (.iastore, 1) := by decide +kernel
theorem d_N_deliver_55 : decode m_N_deliver.2.1 55 = .ok (.aload_n 0, 1) := by decide +kernel
theorem d_N_deliver_56 : decode m_N_deliver.2.1 56 = .ok (.getfield 25, 3) := by decide +kernel
theorem d_N_deliver_59 : decode m_N_deliver.2.1 59 = .ok (.iload_n 1, 1) := by decide +kernel
theorem d_N_deliver_60 : decode m_N_deliver.2.1 60 = .ok (.iaload, 1) := by decide +kernel
theorem d_N_deliver_61 : decode m_N_deliver.2.1 61 = .ok (.iconst 2, 1) := by decide +kernel
theorem d_N_deliver_62 : decode m_N_deliver.2.1 62 = .ok (.if_icmp .ne 15, 3) := by decide +kernel
theorem d_N_deliver_65 : decode m_N_deliver.2.1 65 = .ok (.aload_n 0, 1) := by decide +kernel
theorem d_N_deliver_66 : decode m_N_deliver.2.1 66 = .ok (.getfield 25, 3) := by decide +kernel
theorem d_N_deliver_69 : decode m_N_deliver.2.1 69 = .ok (.iload_n 1, 1) := by decide +kernel
theorem d_N_deliver_70 : decode m_N_deliver.2.1 70 = .ok (.iconst 1, 1) := by decide +kernel
theorem d_N_deliver_71 : decode m_N_deliver.2.1 71 = .ok (.iastore, 1) := by decide +kernel
theorem d_N_deliver_72 : decode m_N_deliver.2.1 72 = .ok (.aload_n 0, 1) := by decide +kernel
theorem d_N_deliver_73 : decode m_N_deliver.2.1 73 = .ok (.iload_n 1, 1) := by decide +kernel
theorem d_N_deliver_74 : decode m_N_deliver.2.1 74 = .ok (.invokevirtual 111, 3) := by decide +kernel
theorem d_N_deliver_77 : decode m_N_deliver.2.1 77 = .ok (.return_, 1) := by decide +kernel
theorem d_N_signal_0 : decode m_N_signal.2.1 0 = .ok (.aload_n 0, 1) := by decide +kernel
theorem d_N_signal_1 : decode m_N_signal.2.1 1 = .ok (.getfield 25, 3) := by decide +kernel
theorem d_N_signal_4 : decode m_N_signal.2.1 4 = .ok (.iload_n 1, 1) := by decide +kernel
theorem d_N_signal_5 : decode m_N_signal.2.1 5 = .ok (.iaload, 1) := by decide +kernel
theorem d_N_signal_6 : decode m_N_signal.2.1 6 = .ok (.iconst 3, 1) := by decide +kernel
theorem d_N_signal_7 : decode m_N_signal.2.1 7 = .ok (.if_icmp .ne 5, 3) := by decide +kernel
theorem d_N_signal_10 : decode m_N_signal.2.1 10 = .ok (.iconst 0, 1) := by decide +kernel
theorem d_N_signal_11 : decode m_N_signal.2.1 11 = .ok (.ireturn, 1) := by decide +kernel
theorem d_N_signal_12 : decode m_N_signal.2.1 12 = .ok (.aload_n 0, 1) := by decide +kernel
theorem d_N_signal_13 : decode m_N_signal.2.1 13 = .ok (.getfield 46, 3) := by decide +kernel
theorem d_N_signal_16 : decode m_N_signal.2.1 16 = .ok (.iload_n 1, 1) := by decide +kernel
theorem d_N_signal_17 : decode m_N_signal.2.1 17 = .ok (.baload, 1) := by decide +kernel
theorem d_N_signal_18 : decode m_N_signal.2.1 18 = .ok (.ifCond .ne 39, 3) := by decide +kernel
theorem d_N_signal_21 : decode m_N_signal.2.1 21 = .ok (.aload_n 0, 1) := by decide +kernel
theorem d_N_signal_22 : decode m_N_signal.2.1 22 = .ok (.iload_n 3, 1) := by decide +kernel
theorem d_N_signal_23 : decode m_N_signal.2.1 23 = .ok (.invokevirtual 77, 3) := by decide +kernel
theorem d_N_signal_26 : decode m_N_signal.2.1 26 = .ok (.iconst 1, 1) := by decide +kernel
theorem d_N_signal_27 : decode m_N_signal.2.1 27 = .ok (.if_icmp .gt 24, 3) := by decide +kernel
theorem d_N_signal_30 : decode m_N_signal.2.1 30 = .ok (.aload_n 0, 1) := by decide +kernel
theorem d_N_signal_31 : decode m_N_signal.2.1 31 = .ok (.iload_n 3, 1) := by decide +kernel
theorem d_N_signal_32 : decode m_N_signal.2.1 32 = .ok (.iconst 0, 1) := by decide +kernel
theorem d_N_signal_33 : decode m_N_signal.2.1 33 = .ok (.invokevirtual 66, 3) := by decide +kernel
theorem d_N_signal_36 : decode m_N_signal.2.1 36 = .ok (.iconst 1, 1) := by decide +kernel
theorem d_N_signal_37 : decode m_N_signal.2.1 37 = .ok (.if_icmp .ne 14, 3) := by decide +kernel
theorem d_N_signal_40 : decode m_N_signal.2.1 40 = .ok (.aload_n 0, 1) := by decide +kernel
theorem d_N_signal_41 : decode m_N_signal.2.1 41 = .ok (.iload_n 3, 1) := by decide +kernel
theorem d_N_signal_42 : decode m_N_signal.2.1 42 = .ok (.iconst 0, 1) := by decide +kernel
theorem d_N_signal_43 : decode m_N_signal.2.1 43 = .ok (.invokevirtual 70, 3) := by decide +kernel
theorem d_N_signal_46 : decode m_N_signal.2.1 46 = .ok (.bipush 14, 2) := by decide +kernel
theorem d_N_signal_48 : decode m_N_signal.2.1 48 = .ok (.if_icmp .eq 7, 3) := by decide +kernel
theorem d_N_signal_51 : decode m_N_signal.2.1 51 = .ok (.iconst 1, 1) := by decide +kernel
theorem d_N_signal_52 : decode m_N_signal.2.1 52 = .ok (.goto 4, 3) := by decide +kernel
theorem d_N_signal_55 : decode m_N_signal.2.1 55 = .ok (.iconst 0, 1) := by decide +kernel
theorem d_N_signal_56 : decode m_N_signal.2.1 56 = .ok (.ireturn, 1) := by decide +kernel
theorem d_N_signal_57 : decode m_N_signal.2.1 57 = .ok (.aload_n 0, 1) := by decide +kernel
theorem d_N_signal_58 : decode m_N_signal.2.1 58 = .ok (.sipush 253, 3) := by decide +kernel
theorem d_N_signal_61 : decode m_N_signal.2.1 61 = .ok (.iconst 5, 1) := by decide +kernel
theorem d_N_signal_62 : decode m_N_signal.2.1 62 = .ok (.iconst 0, 1) := by decide +kernel
theorem d_N_signal_63 : decode m_N_signal.2.1 63 = .ok (.invokevirtual 115, 3) := by decide +kernel
theorem d_N_signal_66 : decode m_N_signal.2.1 66 = .ok (.aload_n 0, 1) := by decide +kernel
theorem d_N_signal_67 : decode m_N_signal.2.1 67 = .ok (.sipush 253, 3) := by decide +kernel
theorem d_N_signal_70 : decode m_N_signal.2.1 70 = .ok (.iconst 1, 1) := by decide +kernel
theorem d_N_signal_71 : decode m_N_signal.2.1 71 = .ok (.bipush 15, 2) := by decide +kernel
theorem d_N_signal_73 : decode m_N_signal.2.1 73 = .ok (.invokevirtual 73, 3) := by decide +kernel
theorem d_N_signal_76 : decode m_N_signal.2.1 76 = .ok (.aload_n 0, 1) := by decide +kernel
theorem d_N_signal_77 : decode m_N_signal.2.1 77 = .ok (.sipush 253, 3) := by decide +kernel
theorem d_N_signal_80 : decode m_N_signal.2.1 80 = .ok (.iconst 5, 1) := by decide +kernel
theorem d_N_signal_81 : decode m_N_signal.2.1 81 = .ok (.iconst 0, 1) := by decide +kernel
theorem d_N_signal_82 : decode m_N_signal.2.1 82 = .ok (.invokevirtual 73, 3) := by decide +kernel
theorem d_N_signal_85 : decode m_N_signal.2.1 85 = .ok (.aload_n 0, 1) := by decide +kernel
theorem d_N_signal_86 : decode m_N_signal.2.1 86 = .ok (.sipush 253, 3) := by decide +kernel
theorem d_N_signal_89 : decode m_N_signal.2.1 89 = .ok (.iconst 2, 1) := by decide +kernel
theorem d_N_signal_90 : decode m_N_signal.2.1 90 = .ok (.iload_n 2, 1) := by decide +kernel
theorem d_N_signal_91 : decode m_N_signal.2.1 91 = .ok (.invokevirtual 73, 3) := by decide +kernel
theorem d_N_signal_94 : decode m_N_signal.2.1 94 = .ok (.aload_n 0, 1) := by decide +kernel
theorem d_N_signal_95 : decode m_N_signal.2.1 95 = .ok (.iload_n 3, 1) := by decide +kernel
theorem d_N_signal_96 : decode m_N_signal.2.1 96 = .ok (.invokevirtual 77, 3) := by decide +kernel
theorem d_N_signal_99 : decode m_N_signal.2.1 99 = .ok (.bipush 11, 2) := by decide +kernel
theorem d_N_signal_101 : decode m_N_signal.2.1 101 = .ok (.if_icmp .le 16, 3) := by decide +kernel
theorem d_N_signal_104 : decode m_N_signal.2.1 104 = .ok (.aload_n 0, 1) := by decide +kernel
theorem d_N_signal_105 : decode m_N_signal.2.1 105 = .ok (.sipush 253, 3) := by decide +kernel
theorem d_N_signal_108 : decode m_N_signal.2.1 108 = .ok (.iconst 1, 1) := by decide +kernel
theorem d_N_signal_109 : decode m_N_signal.2.1 109 = .ok (.bipush 13, 2) := by decide +kernel
theorem d_N_signal_111 : decode m_N_signal.2.1 111 = .ok (.invokevirtual 73, 3) := by decide +kernel
theorem d_N_signal_114 : decode m_N_signal.2.1 114 = .ok (.goto 17, 3) := by decide +kernel
theorem d_N_signal_117 : decode m_N_signal.2.1 117 = .ok (.aload_n 0, 1) := by decide +kernel
theorem d_N_signal_118 : decode m_N_signal.2.1 118 = .ok (.sipush 253, 3) := by decide +kernel
theorem d_N_signal_121 : decode m_N_signal.2.1 121 = .ok (.iload_n 3, 1) := by decide +kernel
theorem d_N_signal_122 : decode m_N_signal.2.1 122 = .ok (.iconst 0, 1) := by decide +kernel
theorem d_N_signal_123 : decode m_N_signal.2.1 123 = .ok (.aload_n 0, 1) := by decide +kernel
theorem d_N_signal_124 : decode m_N_signal.2.1 124 = .ok (.iload_n 3, 1) := by decide +kernel
theorem d_N_signal_125 : decode m_N_signal.2.1 125 = .ok (.invokevirtual 77, 3) := by decide +kernel
theorem d_N_signal_128 : decode m_N_signal.2.1 128 = .ok (.invokevirtual 118, 3) := by decide +kernel
theorem d_N_signal_131 : decode m_N_signal.2.1 131 = .ok (.aload_n 0, 1) := by decide +kernel
theorem d_N_signal_132 : decode m_N_signal.2.1 132 = .ok (.iload_n 1, 1) := by decide +kernel
theorem d_N_signal_133 : decode m_N_signal.2.1 133 = .ok (.sipush 253, 3) := by decide +kernel
theorem d_N_signal_136 : decode m_N_signal.2.1 136 = .ok (.invokevirtual 122, 3) := by decide +kernel
theorem d_N_signal_139 : decode m_N_signal.2.1 139 = .ok (.iconst 0, 1) := by decide +kernel
theorem d_N_signal_140 : decode m_N_signal.2.1 140 = .ok (.ireturn, 1) := by decide +kernel
theorem d_N_stop_0 : decode m_N_stop.2.1 0 = .ok (.aload_n 0, 1) := by decide +kernel
theorem d_N_stop_1 : decode m_N_stop.2.1 1 = .ok (.getfield 25, 3) := by decide +kernel
theorem d_N_stop_4 : decode m_N_stop.2.1 4 = .ok (.iload_n 1, 1) := by decide +kernel
theorem d_N_stop_5 : decode m_N_stop.2.1 5 = .ok (.iconst 3, 1) := by decide +kernel
theorem d_N_stop_6 : decode m_N_stop.2.1 6 = .ok (.iastore, 1) := by decide +kernel
theorem d_N_stop_7 : decode m_N_stop.2.1 7 = .ok (.aload_n 0, 1) := by decide +kernel
theorem d_N_stop_8 : decode m_N_stop.2.1 8 = .ok (.iload_n 2, 1) := by decide +kernel
theorem d_N_stop_9 : decode m_N_stop.2.1 9 = .ok (.bipush 21, 2) := by decide +kernel
theorem d_N_stop_11 : decode m_N_stop.2.1 11 = .ok (.iload_n 1, 1) := by decide +kernel
theorem d_N_stop_12 : decode m_N_stop.2.1 12 = .ok (.imul, 1) := by decide +kernel
theorem d_N_stop_13 : decode m_N_stop.2.1 13 = .ok (.bipush 8, 2) := by decide +kernel
theorem d_N_stop_15 : decode m_N_stop.2.1 15 = .ok (.iadd, 1) := by decide +kernel
theorem d_N_stop_16 : decode m_N_stop.2.1 16 = .ok (.invokevirtual 107, 3) := by decide +kernel
theorem d_N_stop_19 : decode m_N_stop.2.1 19 = .ok (.aload_n 0, 1) := by decide +kernel
theorem d_N_stop_20 : decode m_N_stop.2.1 20 = .ok (.iload_n 1, 1) := by decide +kernel
theorem d_N_stop_21 : decode m_N_stop.2.1 21 = .ok (.invokevirtual 125, 3) := by decide +kernel
theorem d_N_stop_24 : decode m_N_stop.2.1 24 = .ok (.return_, 1) := by decide +kernel
theorem d_N_end_0 : decode m_N_end.2.1 0 = .ok (.aload_n 0, 1) := by decide +kernel
theorem d_N_end_1 : decode m_N_end.2.1 1 = .ok (.iload_n 1, 1) := by decide +kernel
theorem d_N_end_2 : decode m_N_end.2.1 2 = .ok (.iload_n 2, 1) := by decide +kernel
theorem d_N_end_3 : decode m_N_end.2.1 3 = .ok (.invokevirtual 128, 3) := by decide +kernel
theorem d_N_end_6 : decode m_N_end.2.1 6 = .ok (.iconst 1, 1) := by decide +kernel
theorem d_N_end_7 : decode m_N_end.2.1 7 = .ok (.istore_n 3, 1) := by decide +kernel
theorem d_N_end_8 : decode m_N_end.2.1 8 = .ok (.aload_n 0, 1) := by decide +kernel
theorem d_N_end_9 : decode m_N_end.2.1 9 = .ok (.getfield 56, 3) := by decide +kernel
theorem d_N_end_12 : decode m_N_end.2.1 12 = .ok (.iconst 0, 1) := by decide +kernel
theorem d_N_end_13 : decode m_N_end.2.1 13 = .ok (.iload_n 1, 1) := by decide +kernel
theorem d_N_end_14 : decode m_N_end.2.1 14 = .ok (.iastore, 1) := by decide +kernel
theorem d_N_end_15 : decode m_N_end.2.1 15 = .ok (.aload_n 0, 1) := by decide +kernel
theorem d_N_end_16 : decode m_N_end.2.1 16 = .ok (.getfield 59, 3) := by decide +kernel
theorem d_N_end_19 : decode m_N_end.2.1 19 = .ok (.iconst 0, 1) := by decide +kernel
theorem d_N_end_20 : decode m_N_end.2.1 20 = .ok (.iconst 0, 1) := by decide +kernel
theorem d_N_end_21 : decode m_N_end.2.1 21 = .ok (.iastore, 1) := by decide +kernel
theorem d_N_end_22 : decode m_N_end.2.1 22 = .ok (.iload_n 3, 1) := by decide +kernel
theorem d_N_end_23 : decode m_N_end.2.1 23 = .ok (.ifCond .le 164, 3) := by decide +kernel
theorem d_N_end_26 : decode m_N_end.2.1 26 = .ok (.aload_n 0, 1) := by decide +kernel
theorem d_N_end_27 : decode m_N_end.2.1 27 = .ok (.getfield 56, 3) := by decide +kernel
theorem d_N_end_30 : decode m_N_end.2.1 30 = .ok (.iload_n 3, 1) := by decide +kernel
theorem d_N_end_31 : decode m_N_end.2.1 31 = .ok (.iconst 1, 1) := by decide +kernel
theorem d_N_end_32 : decode m_N_end.2.1 32 = .ok (.isub, 1) := by decide +kernel
theorem d_N_end_33 : decode m_N_end.2.1 33 = .ok (.iaload, 1) := by decide +kernel
theorem d_N_end_34 : decode m_N_end.2.1 34 = .ok (.istore 4, 2) := by decide +kernel
theorem d_N_end_36 : decode m_N_end.2.1 36 = .ok (.aload_n 0, 1) := by decide +kernel
theorem d_N_end_37 : decode m_N_end.2.1 37 = .ok (.getfield 59, 3) := by decide +kernel
theorem d_N_end_40 : decode m_N_end.2.1 40 = .ok (.iload_n 3, 1) := by decide +kernel
theorem d_N_end_41 : decode m_N_end.2.1 41 = .ok (.iconst 1, 1) := by decide +kernel
theorem d_N_end_42 : decode m_N_end.2.1 42 = .ok (.isub, 1) := by decide +kernel
theorem d_N_end_43 : decode m_N_end.2.1 43 = .ok (.iaload, 1) := by decide +kernel
theorem d_N_end_44 : decode m_N_end.2.1 44 = .ok (.istore 5, 2) := by decide +kernel
theorem d_N_end_46 : decode m_N_end.2.1 46 = .ok (.aload_n 0, 1) := by decide +kernel
theorem d_N_end_47 : decode m_N_end.2.1 47 = .ok (.getfield 59, 3) := by decide +kernel
theorem d_N_end_50 : decode m_N_end.2.1 50 = .ok (.iload_n 3, 1) := by decide +kernel
theorem d_N_end_51 : decode m_N_end.2.1 51 = .ok (.iconst 1, 1) := by decide +kernel
theorem d_N_end_52 : decode m_N_end.2.1 52 = .ok (.isub, 1) := by decide +kernel
theorem d_N_end_53 : decode m_N_end.2.1 53 = .ok (.iload 5, 2) := by decide +kernel
theorem d_N_end_55 : decode m_N_end.2.1 55 = .ok (.iconst 1, 1) := by decide +kernel
theorem d_N_end_56 : decode m_N_end.2.1 56 = .ok (.iadd, 1) := by decide +kernel
theorem d_N_end_57 : decode m_N_end.2.1 57 = .ok (.iastore, 1) := by decide +kernel
theorem d_N_end_58 : decode m_N_end.2.1 58 = .ok (.iload 5, 2) := by decide +kernel
theorem d_N_end_60 : decode m_N_end.2.1 60 = .ok (.aload_n 0, 1) := by decide +kernel
theorem d_N_end_61 : decode m_N_end.2.1 61 = .ok (.getfield 131, 3) := by decide +kernel
theorem d_N_end_64 : decode m_N_end.2.1 64 = .ok (.if_icmp .lt 10, 3) := by decide +kernel
theorem d_N_end_67 : decode m_N_end.2.1 67 = .ok (.iload_n 3, 1) := by decide +kernel
theorem d_N_end_68 : decode m_N_end.2.1 68 = .ok (.iconst 1, 1) := by decide +kernel
theorem d_N_end_69 : decode m_N_end.2.1 69 = .ok (.isub, 1) := by decide +kernel
theorem d_N_end_70 : decode m_N_end.2.1 70 = .ok (.istore_n 3, 1) := by decide +kernel
theorem d_N_end_71 : decode m_N_end.2.1 71 = .ok (.goto 113, 3) := by decide +kernel
theorem d_N_end_74 : decode m_N_end.2.1 74 = .ok (.aload_n 0, 1) := by decide +kernel
theorem d_N_end_75 : decode m_N_end.2.1 75 = .ok (.getfield 43, 3) := by decide +kernel
theorem d_N_end_78 : decode m_N_end.2.1 78 = .ok (.iload 4, 2) := by decide +kernel
theorem d_N_end_80 : decode m_N_end.2.1 80 = .ok (.iaload, 1) := by decide +kernel
theorem d_N_end_81 : decode m_N_end.2.1 81 = .ok (.iload 5, 2) := by decide +kernel
theorem d_N_end_83 : decode m_N_end.2.1 83 = .ok (.ishr, 1) := by decide +kernel
theorem d_N_end_84 : decode m_N_end.2.1 84 = .ok (.iconst 1, 1) := by decide +kernel
theorem d_N_end_85 : decode m_N_end.2.1 85 = .ok (.iand, 1) := by decide +kernel
theorem d_N_end_86 : decode m_N_end.2.1 86 = .ok (.iconst 1, 1) := by decide +kernel
theorem d_N_end_87 : decode m_N_end.2.1 87 = .ok (.if_icmp .ne 97, 3) := by decide +kernel
theorem d_N_end_90 : decode m_N_end.2.1 90 = .ok (.aload_n 0, 1) := by decide +kernel
theorem d_N_end_91 : decode m_N_end.2.1 91 = .ok (.getfield 43, 3) := by decide +kernel
theorem d_N_end_94 : decode m_N_end.2.1 94 = .ok (.iload 4, 2) := by decide +kernel
theorem d_N_end_96 : decode m_N_end.2.1 96 = .ok (.aload_n 0, 1) := by decide +kernel
theorem d_N_end_97 : decode m_N_end.2.1 97 = .ok (.getfield 43, 3) := by decide +kernel
theorem d_N_end_100 : decode m_N_end.2.1 100 = .ok (.iload 4, 2) := by decide +kernel
theorem d_N_end_102 : decode m_N_end.2.1 102 = .ok (.iaload, 1) := by decide +kernel
theorem d_N_end_103 : decode m_N_end.2.1 103 = .ok (.iconst 1, 1) := by decide +kernel
theorem d_N_end_104 : decode m_N_end.2.1 104 = .ok (.iload 5, 2) := by decide +kernel
theorem d_N_end_106 : decode m_N_end.2.1 106 = .ok (.ishl, 1) := by decide +kernel
theorem d_N_end_107 : decode m_N_end.2.1 107 = .ok (.iconst (-1), 1) := by decide +kernel
theorem d_N_end_108 : decode m_N_end.2.1 108 = .ok (.ixor, 1) := by decide +kernel
theorem d_N_end_109 : decode m_N_end.2.1 109 = .ok (.iand, 1) := by decide +kernel
theorem d_N_end_110 : decode m_N_end.2.1 110 = .ok (.iastore, 1) := by decide +kernel
theorem d_N_end_111 : decode m_N_end.2.1 111 = .ok (.aload_n 0, 1) := by decide +kernel
theorem d_N_end_112 : decode m_N_end.2.1 112 = .ok (.getfield 43, 3) := by decide +kernel
theorem d_N_end_115 : decode m_N_end.2.1 115 = .ok (.iload 5, 2) := by decide +kernel
theorem d_N_end_117 : decode m_N_end.2.1 117 = .ok (.aload_n 0, 1) := by decide +kernel
theorem d_N_end_118 : decode m_N_end.2.1 118 = .ok (.getfield 43, 3) := by decide +kernel
theorem d_N_end_121 : decode m_N_end.2.1 121 = .ok (.iload 5, 2) := by decide +kernel
theorem d_N_end_123 : decode m_N_end.2.1 123 = .ok (.iaload, 1) := by decide +kernel
theorem d_N_end_124 : decode m_N_end.2.1 124 = .ok (.iconst 1, 1) := by decide +kernel
theorem d_N_end_125 : decode m_N_end.2.1 125 = .ok (.iload 4, 2) := by decide +kernel
theorem d_N_end_127 : decode m_N_end.2.1 127 = .ok (.ishl, 1) := by decide +kernel
theorem d_N_end_128 : decode m_N_end.2.1 128 = .ok (.iconst (-1), 1) := by decide +kernel
theorem d_N_end_129 : decode m_N_end.2.1 129 = .ok (.ixor, 1) := by decide +kernel
theorem d_N_end_130 : decode m_N_end.2.1 130 = .ok (.iand, 1) := by decide +kernel
theorem d_N_end_131 : decode m_N_end.2.1 131 = .ok (.iastore, 1) := by decide +kernel
theorem d_N_end_132 : decode m_N_end.2.1 132 = .ok (.aload_n 0, 1) := by decide +kernel
theorem d_N_end_133 : decode m_N_end.2.1 133 = .ok (.iload 5, 2) := by decide +kernel
theorem d_N_end_135 : decode m_N_end.2.1 135 = .ok (.iload 4, 2) := by decide +kernel
theorem d_N_end_137 : decode m_N_end.2.1 137 = .ok (.bipush 21, 2) := by decide +kernel
theorem d_N_end_139 : decode m_N_end.2.1 139 = .ok (.iload 4, 2) := by decide +kernel
theorem d_N_end_141 : decode m_N_end.2.1 141 = .ok (.imul, 1) := by decide +kernel
theorem d_N_end_142 : decode m_N_end.2.1 142 = .ok (.bipush 8, 2) := by decide +kernel
theorem d_N_end_144 : decode m_N_end.2.1 144 = .ok (.iadd, 1) := by decide +kernel
theorem d_N_end_145 : decode m_N_end.2.1 145 = .ok (.invokevirtual 134, 3) := by decide +kernel
theorem d_N_end_148 : decode m_N_end.2.1 148 = .ok (.ifCond .eq 36, 3) := by decide +kernel
theorem d_N_end_151 : decode m_N_end.2.1 151 = .ok (.aload_n 0, 1) := by decide +kernel
theorem d_N_end_152 : decode m_N_end.2.1 152 = .ok (.iload 5, 2) := by decide +kernel
theorem d_N_end_154 : decode m_N_end.2.1 154 = .ok (.bipush 21, 2) := by decide +kernel
theorem d_N_end_156 : decode m_N_end.2.1 156 = .ok (.iload 4, 2) := by decide +kernel
theorem d_N_end_158 : decode m_N_end.2.1 158 = .ok (.imul, 1) := by decide +kernel
theorem d_N_end_159 : decode m_N_end.2.1 159 = .ok (.bipush 8, 2) := by decide +kernel
theorem d_N_end_161 : decode m_N_end.2.1 161 = .ok (.iadd, 1) := by decide +kernel
theorem d_N_end_162 : decode m_N_end.2.1 162 = .ok (.invokevirtual 128, 3) := by decide +kernel
theorem d_N_end_165 : decode m_N_end.2.1 165 = .ok (.aload_n 0, 1) := by decide +kernel
theorem d_N_end_166 : decode m_N_end.2.1 166 = .ok (.getfield 56, 3) := by decide +kernel
theorem d_N_end_169 : decode m_N_end.2.1 169 = .ok (.iload_n 3, 1) := by decide +kernel
theorem d_N_end_170 : decode m_N_end.2.1 170 = .ok (.iload 5, 2) := by decide +kernel
theorem d_N_end_172 : decode m_N_end.2.1 172 = .ok (.iastore, 1) := by decide +kernel
theorem d_N_end_173 : decode m_N_end.2.1 173 = .ok (.aload_n 0, 1) := by decide +kernel
theorem d_N_end_174 : decode m_N_end.2.1 174 = .ok (.getfield 59, 3) := by decide +kernel
theorem d_N_end_177 : decode m_N_end.2.1 177 = .ok (.iload_n 3, 1) := by decide +kernel
theorem d_N_end_178 : decode m_N_end.2.1 178 = .ok (.iconst 0, 1) := by decide +kernel
theorem d_N_end_179 : decode m_N_end.2.1 179 = .ok (.iastore, 1) := by decide +kernel
theorem d_N_end_180 : decode m_N_end.2.1 180 = .ok (.iload_n 3, 1) := by decide +kernel
theorem d_N_end_181 : decode m_N_end.2.1 181 = .ok (.iconst 1, 1) := by decide +kernel
theorem d_N_end_182 : decode m_N_end.2.1 182 = .ok (.iadd, 1) := by decide +kernel
theorem d_N_end_183 : decode m_N_end.2.1 183 = .ok (.istore_n 3, 1) := by decide +kernel
theorem d_N_end_184 : decode m_N_end.2.1 184 = .ok (.goto (-162), 3) := by decide +kernel
theorem d_N_end_187 : decode m_N_end.2.1 187 = .ok (.return_, 1) := by decide +kernel
theorem d_N_endBy_0 : decode m_N_endBy.2.1 0 = .ok (.aload_n 0, 1) := by decide +kernel
theorem d_N_endBy_1 : decode m_N_endBy.2.1 1 = .ok (.sipush 252, 3) := by decide +kernel
theorem d_N_endBy_4 : decode m_N_endBy.2.1 4 = .ok (.iconst 1, 1) := by decide +kernel
theorem d_N_endBy_5 : decode m_N_endBy.2.1 5 = .ok (.iload_n 2, 1) := by decide +kernel
theorem d_N_endBy_6 : decode m_N_endBy.2.1 6 = .ok (.invokevirtual 115, 3) := by decide +kernel
theorem d_N_endBy_9 : decode m_N_endBy.2.1 9 = .ok (.aload_n 0, 1) := by decide +kernel
theorem d_N_endBy_10 : decode m_N_endBy.2.1 10 = .ok (.iload_n 1, 1) := by decide +kernel
theorem d_N_endBy_11 : decode m_N_endBy.2.1 11 = .ok (.sipush 252, 3) := by decide +kernel
theorem d_N_endBy_14 : decode m_N_endBy.2.1 14 = .ok (.invokevirtual 137, 3) := by decide +kernel
theorem d_N_endBy_17 : decode m_N_endBy.2.1 17 = .ok (.return_, 1) := by decide +kernel
theorem d_N_start_0 : decode m_N_start.2.1 0 = .ok (.aload_n 0, 1) := by decide +kernel
theorem d_N_start_1 : decode m_N_start.2.1 1 = .ok (.getfield 131, 3) := by decide +kernel
theorem d_N_start_4 : decode m_N_start.2.1 4 = .ok (.istore_n 3, 1) := by decide +kernel
theorem d_N_start_5 : decode m_N_start.2.1 5 = .ok (.aload_n 0, 1) := by decide +kernel
theorem d_N_start_6 : decode m_N_start.2.1 6 = .ok (.aload_n 0, 1) := by decide +kernel
theorem d_N_start_7 : decode m_N_start.2.1 7 = .ok (.getfield 131, 3) := by decide +kernel
theorem d_N_start_10 : decode m_N_start.2.1 10 = .ok (.iconst 1, 1) := by decide +kernel
theorem d_N_start_11 : decode m_N_start.2.1 11 = .ok (.iadd, 1) := by decide +kernel
theorem d_N_start_12 : decode m_N_start.2.1 12 = .ok (.putfield 131, 3) := by decide +kernel
theorem d_N_start_15 : decode m_N_start.2.1 15 = .ok (.iconst 1, 1) := by decide +kernel
theorem d_N_start_16 : decode m_N_start.2.1 16 = .ok (.istore 4, 2) := by decide +kernel
theorem d_N_start_18 : decode m_N_start.2.1 18 = .ok (.iload 4, 2) := by decide +kernel
theorem d_N_start_20 : decode m_N_start.2.1 20 = .ok (.bipush 8, 2) := by decide +kernel
theorem d_N_start_22 : decode m_N_start.2.1 22 = .ok (.if_icmp .ge 22, 3) := by decide +kernel
theorem d_N_start_25 : decode m_N_start.2.1 25 = .ok (.aload_n 0, 1) := by decide +kernel
theorem d_N_start_26 : decode m_N_start.2.1 26 = .ok (.bipush 21, 2) := by decide +kernel
theorem d_N_start_28 : decode m_N_start.2.1 28 = .ok (.iload_n 3, 1) := by decide +kernel
theorem d_N_start_29 : decode m_N_start.2.1 29 = .ok (.imul, 1) := by decide +kernel
theorem d_N_start_30 : decode m_N_start.2.1 30 = .ok (.iload 4, 2) := by decide +kernel
theorem d_N_start_32 : decode m_N_start.2.1 32 = .ok (.iadd, 1) := by decide +kernel
theorem d_N_start_33 : decode m_N_start.2.1 33 = .ok (.iconst 3, 1) := by decide +kernel
theorem d_N_start_34 : decode m_N_start.2.1 34 = .ok (.iconst 0, 1) := by decide +kernel
theorem d_N_start_35 : decode m_N_start.2.1 35 = .ok (.invokevirtual 115, 3) := by decide +kernel
theorem d_N_start_38 : decode m_N_start.2.1 38 = .ok (.iinc 4 1, 3) := by decide +kernel
theorem d_N_start_41 : decode m_N_start.2.1 41 = .ok (.goto (-23), 3) := by decide +kernel
theorem d_N_start_44 : decode m_N_start.2.1 44 = .ok (.aload_n 0, 1) := by decide +kernel
theorem d_N_start_45 : decode m_N_start.2.1 45 = .ok (.iload_n 2, 1) := by decide +kernel
theorem d_N_start_46 : decode m_N_start.2.1 46 = .ok (.bipush 21, 2) := by decide +kernel
theorem d_N_start_48 : decode m_N_start.2.1 48 = .ok (.iload_n 3, 1) := by decide +kernel
theorem d_N_start_49 : decode m_N_start.2.1 49 = .ok (.imul, 1) := by decide +kernel
theorem d_N_start_50 : decode m_N_start.2.1 50 = .ok (.invokevirtual 107, 3) := by decide +kernel
theorem d_N_start_53 : decode m_N_start.2.1 53 = .ok (.aload_n 0, 1) := by decide +kernel
theorem d_N_start_54 : decode m_N_start.2.1 54 = .ok (.getfield 25, 3) := by decide +kernel
theorem d_N_start_57 : decode m_N_start.2.1 57 = .ok (.iload_n 3, 1) := by decide +kernel
theorem d_N_start_58 : decode m_N_start.2.1 58 = .ok (.iconst 1, 1) := by decide +kernel
theorem d_N_start_59 : decode m_N_start.2.1 59 = .ok (.iastore, 1) := by decide +kernel
theorem d_N_start_60 : decode m_N_start.2.1 60 = .ok (.aload_n 0, 1) := by decide +kernel
theorem d_N_start_61 : decode m_N_start.2.1 61 = .ok (.getfield 28, 3) := by decide +kernel
theorem d_N_start_64 : decode m_N_start.2.1 64 = .ok (.iload_n 3, 1) := by decide +kernel
theorem d_N_start_65 : decode m_N_start.2.1 65 = .ok (.iload_n 1, 1) := by decide +kernel
theorem d_N_start_66 : decode m_N_start.2.1 66 = .ok (.iastore, 1) := by decide +kernel
theorem d_N_start_67 : decode m_N_start.2.1 67 = .ok (.aload_n 0, 1) := by decide +kernel
theorem d_N_start_68 : decode m_N_start.2.1 68 = .ok (.getfield 31, 3) := by decide +kernel
theorem d_N_start_71 : decode m_N_start.2.1 71 = .ok (.iload_n 3, 1) := by decide +kernel
theorem d_N_start_72 : decode m_N_start.2.1 72 = .ok (.iconst 0, 1) := by decide +kernel
theorem d_N_start_73 : decode m_N_start.2.1 73 = .ok (.iastore, 1) := by decide +kernel
theorem d_N_start_74 : decode m_N_start.2.1 74 = .ok (.aload_n 0, 1) := by decide +kernel
theorem d_N_start_75 : decode m_N_start.2.1 75 = .ok (.getfield 34, 3) := by decide +kernel
theorem d_N_start_78 : decode m_N_start.2.1 78 = .ok (.iload_n 3, 1) := by decide +kernel
theorem d_N_start_79 : decode m_N_start.2.1 79 = .ok (.iconst 0, 1) := by decide +kernel
theorem d_N_start_80 : decode m_N_start.2.1 80 = .ok (.iastore, 1) := by decide +kernel
theorem d_N_start_81 : decode m_N_start.2.1 81 = .ok (.aload_n 0, 1) := by decide +kernel
theorem d_N_start_82 : decode m_N_start.2.1 82 = .ok (.getfield 37, 3) := by decide +kernel
theorem d_N_start_85 : decode m_N_start.2.1 85 = .ok (.iload_n 3, 1) := by decide +kernel
theorem d_N_start_86 : decode m_N_start.2.1 86 = .ok (.iconst 0, 1) := by decide +kernel
theorem d_N_start_87 : decode m_N_start.2.1 87 = .ok (.iastore, 1) := by decide +kernel
theorem d_N_start_88 : decode m_N_start.2.1 88 = .ok (.aload_n 0, 1) := by decide +kernel
theorem d_N_start_89 : decode m_N_start.2.1 89 = .ok (.getfield 43, 3) := by decide +kernel
theorem d_N_start_92 : decode m_N_start.2.1 92 = .ok (.iload_n 3, 1) := by decide +kernel
theorem d_N_start_93 : decode m_N_start.2.1 93 = .ok (.iconst 0, 1) := by decide +kernel
theorem d_N_start_94 : decode m_N_start.2.1 94 = .ok (.iastore, 1) := by decide +kernel
theorem d_N_start_95 : decode m_N_start.2.1 95 = .ok (.aload_n 0, 1) := by decide +kernel
theorem d_N_start_96 : decode m_N_start.2.1 96 = .ok (.getfield 46, 3) := by decide +kernel
theorem d_N_start_99 : decode m_N_start.2.1 99 = .ok (.iload_n 3, 1) := by decide +kernel
theorem d_N_start_100 : decode m_N_start.2.1 100 = .ok (.iconst 0, 1) := by decide +kernel
theorem d_N_start_101 : decode m_N_start.2.1 101 = .ok (.bastore, 1) := by decide +kernel
theorem d_N_start_102 : decode m_N_start.2.1 102 = .ok (.aload_n 0, 1) := by decide +kernel
theorem d_N_start_103 : decode m_N_start.2.1 103 = .ok (.getfield 50, 3) := by decide +kernel
theorem d_N_start_106 : decode m_N_start.2.1 106 = .ok (.iload_n 3, 1) := by decide +kernel
theorem d_N_start_107 : decode m_N_start.2.1 107 = .ok (.iconst 0, 1) := by decide +kernel
theorem d_N_start_108 : decode m_N_start.2.1 108 = .ok (.iastore, 1) := by decide +kernel
theorem d_N_start_109 : decode m_N_start.2.1 109 = .ok (.aload_n 0, 1) := by decide +kernel
theorem d_N_start_110 : decode m_N_start.2.1 110 = .ok (.iload_n 3, 1) := by decide +kernel
theorem d_N_start_111 : decode m_N_start.2.1 111 = .ok (.invokevirtual 111, 3) := by decide +kernel
theorem d_N_start_114 : decode m_N_start.2.1 114 = .ok (.iload_n 3, 1) := by decide +kernel
theorem d_N_start_115 : decode m_N_start.2.1 115 = .ok (.ireturn, 1) := by decide +kernel
theorem d_N_make_0 : decode m_N_make.2.1 0 = .ok (.iload_n 2, 1) := by decide +kernel
theorem d_N_make_1 : decode m_N_make.2.1 1 = .ok (.ifCond .ne 11, 3) := by decide +kernel
theorem d_N_make_4 : decode m_N_make.2.1 4 = .ok (.aload_n 0, 1) := by decide +kernel
theorem d_N_make_5 : decode m_N_make.2.1 5 = .ok (.iload_n 1, 1) := by decide +kernel
theorem d_N_make_6 : decode m_N_make.2.1 6 = .ok (.iconst 0, 1) := by decide +kernel
theorem d_N_make_7 : decode m_N_make.2.1 7 = .ok (.iload 4, 2) := by decide +kernel
theorem d_N_make_9 : decode m_N_make.2.1 9 = .ok (.invokevirtual 115, 3) := by decide +kernel
theorem d_N_make_12 : decode m_N_make.2.1 12 = .ok (.iload_n 2, 1) := by decide +kernel
theorem d_N_make_13 : decode m_N_make.2.1 13 = .ok (.iconst 1, 1) := by decide +kernel
theorem d_N_make_14 : decode m_N_make.2.1 14 = .ok (.if_icmp .ne 11, 3) := by decide +kernel
theorem d_N_make_17 : decode m_N_make.2.1 17 = .ok (.aload_n 0, 1) := by decide +kernel
theorem d_N_make_18 : decode m_N_make.2.1 18 = .ok (.iload_n 1, 1) := by decide +kernel
theorem d_N_make_19 : decode m_N_make.2.1 19 = .ok (.iconst 1, 1) := by decide +kernel
theorem d_N_make_20 : decode m_N_make.2.1 20 = .ok (.iload 4, 2) := by decide +kernel
theorem d_N_make_22 : decode m_N_make.2.1 22 = .ok (.invokevirtual 115, 3) := by decide +kernel
theorem d_N_make_25 : decode m_N_make.2.1 25 = .ok (.iload_n 2, 1) := by decide +kernel
theorem d_N_make_26 : decode m_N_make.2.1 26 = .ok (.iconst 2, 1) := by decide +kernel
theorem d_N_make_27 : decode m_N_make.2.1 27 = .ok (.if_icmp .ne 12, 3) := by decide +kernel
theorem d_N_make_30 : decode m_N_make.2.1 30 = .ok (.aload_n 0, 1) := by decide +kernel
theorem d_N_make_31 : decode m_N_make.2.1 31 = .ok (.iload_n 3, 1) := by decide +kernel
theorem d_N_make_32 : decode m_N_make.2.1 32 = .ok (.iload 4, 2) := by decide +kernel
theorem d_N_make_34 : decode m_N_make.2.1 34 = .ok (.iadd, 1) := by decide +kernel
theorem d_N_make_35 : decode m_N_make.2.1 35 = .ok (.iload_n 1, 1) := by decide +kernel
theorem d_N_make_36 : decode m_N_make.2.1 36 = .ok (.invokevirtual 107, 3) := by decide +kernel
theorem d_N_make_39 : decode m_N_make.2.1 39 = .ok (.iload_n 2, 1) := by decide +kernel
theorem d_N_make_40 : decode m_N_make.2.1 40 = .ok (.iconst 3, 1) := by decide +kernel
theorem d_N_make_41 : decode m_N_make.2.1 41 = .ok (.if_icmp .ne 13, 3) := by decide +kernel
theorem d_N_make_44 : decode m_N_make.2.1 44 = .ok (.aload_n 0, 1) := by decide +kernel
theorem d_N_make_45 : decode m_N_make.2.1 45 = .ok (.iload_n 1, 1) := by decide +kernel
theorem d_N_make_46 : decode m_N_make.2.1 46 = .ok (.iconst 2, 1) := by decide +kernel
theorem d_N_make_47 : decode m_N_make.2.1 47 = .ok (.iload_n 3, 1) := by decide +kernel
theorem d_N_make_48 : decode m_N_make.2.1 48 = .ok (.bipush 21, 2) := by decide +kernel
theorem d_N_make_50 : decode m_N_make.2.1 50 = .ok (.idiv, 1) := by decide +kernel
theorem d_N_make_51 : decode m_N_make.2.1 51 = .ok (.invokevirtual 115, 3) := by decide +kernel
theorem d_N_make_54 : decode m_N_make.2.1 54 = .ok (.iload_n 2, 1) := by decide +kernel
theorem d_N_make_55 : decode m_N_make.2.1 55 = .ok (.iconst 4, 1) := by decide +kernel
theorem d_N_make_56 : decode m_N_make.2.1 56 = .ok (.if_icmp .ne 10, 3) := by decide +kernel
theorem d_N_make_59 : decode m_N_make.2.1 59 = .ok (.aload_n 0, 1) := by decide +kernel
theorem d_N_make_60 : decode m_N_make.2.1 60 = .ok (.iload_n 1, 1) := by decide +kernel
theorem d_N_make_61 : decode m_N_make.2.1 61 = .ok (.iconst 3, 1) := by decide +kernel
theorem d_N_make_62 : decode m_N_make.2.1 62 = .ok (.iconst 0, 1) := by decide +kernel
theorem d_N_make_63 : decode m_N_make.2.1 63 = .ok (.invokevirtual 115, 3) := by decide +kernel
theorem d_N_make_66 : decode m_N_make.2.1 66 = .ok (.iload_n 2, 1) := by decide +kernel
theorem d_N_make_67 : decode m_N_make.2.1 67 = .ok (.iconst 5, 1) := by decide +kernel
theorem d_N_make_68 : decode m_N_make.2.1 68 = .ok (.if_icmp .ge 5, 3) := by decide +kernel
theorem d_N_make_71 : decode m_N_make.2.1 71 = .ok (.iconst 1, 1) := by decide +kernel
theorem d_N_make_72 : decode m_N_make.2.1 72 = .ok (.ireturn, 1) := by decide +kernel
theorem d_N_make_73 : decode m_N_make.2.1 73 = .ok (.iload_n 3, 1) := by decide +kernel
theorem d_N_make_74 : decode m_N_make.2.1 74 = .ok (.iload 4, 2) := by decide +kernel
theorem d_N_make_76 : decode m_N_make.2.1 76 = .ok (.iadd, 1) := by decide +kernel
theorem d_N_make_77 : decode m_N_make.2.1 77 = .ok (.istore 6, 2) := by decide +kernel
theorem d_N_make_79 : decode m_N_make.2.1 79 = .ok (.iload_n 3, 1) := by decide +kernel
theorem d_N_make_80 : decode m_N_make.2.1 80 = .ok (.iload 5, 2) := by decide +kernel
theorem d_N_make_82 : decode m_N_make.2.1 82 = .ok (.iadd, 1) := by decide +kernel
theorem d_N_make_83 : decode m_N_make.2.1 83 = .ok (.istore 7, 2) := by decide +kernel
theorem d_N_make_85 : decode m_N_make.2.1 85 = .ok (.iload_n 2, 1) := by decide +kernel
theorem d_N_make_86 : decode m_N_make.2.1 86 = .ok (.bipush 7, 2) := by decide +kernel
theorem d_N_make_88 : decode m_N_make.2.1 88 = .ok (.if_icmp .ge 83, 3) := by decide +kernel
theorem d_N_make_91 : decode m_N_make.2.1 91 = .ok (.aload_n 0, 1) := by decide +kernel
theorem d_N_make_92 : decode m_N_make.2.1 92 = .ok (.iload 6, 2) := by decide +kernel
theorem d_N_make_94 : decode m_N_make.2.1 94 = .ok (.invokevirtual 77, 3) := by decide +kernel
theorem d_N_make_97 : decode m_N_make.2.1 97 = .ok (.aload_n 0, 1) := by decide +kernel
theorem d_N_make_98 : decode m_N_make.2.1 98 = .ok (.iload 7, 2) := by decide +kernel
theorem d_N_make_100 : decode m_N_make.2.1 100 = .ok (.invokevirtual 77, 3) := by decide +kernel
theorem d_N_make_103 : decode m_N_make.2.1 103 = .ok (.iadd, 1) := by decide +kernel
theorem d_N_make_104 : decode m_N_make.2.1 104 = .ok (.bipush 14, 2) := by decide +kernel
theorem d_N_make_106 : decode m_N_make.2.1 106 = .ok (.if_icmp .le 5, 3) := by decide +kernel
theorem d_N_make_109 : decode m_N_make.2.1 109 = .ok (.iconst 0, 1) := by decide +kernel
theorem d_N_make_110 : decode m_N_make.2.1 110 = .ok (.ireturn, 1) := by decide +kernel
theorem d_N_make_111 : decode m_N_make.2.1 111 = .ok (.aload_n 0, 1) := by decide +kernel
theorem d_N_make_112 : decode m_N_make.2.1 112 = .ok (.sipush 252, 3) := by decide +kernel
theorem d_N_make_115 : decode m_N_make.2.1 115 = .ok (.iload_n 2, 1) := by decide +kernel
theorem d_N_make_116 : decode m_N_make.2.1 116 = .ok (.iconst 5, 1) := by decide +kernel
theorem d_N_make_117 : decode m_N_make.2.1 117 = .ok (.if_icmp .ne 7, 3) := by decide +kernel
theorem d_N_make_120 : decode m_N_make.2.1 120 = .ok (.iconst 4, 1) := by decide +kernel
theorem d_N_make_121 : decode m_N_make.2.1 121 = .ok (.goto 4, 3) := by decide +kernel
theorem d_N_make_124 : decode m_N_make.2.1 124 = .ok (.iconst 5, 1) := by decide +kernel
theorem d_N_make_125 : decode m_N_make.2.1 125 = .ok (.iconst 0, 1) := by decide +kernel
theorem d_N_make_126 : decode m_N_make.2.1 126 = .ok (.invokevirtual 115, 3) := by decide +kernel
theorem d_N_make_129 : decode m_N_make.2.1 129 = .ok (.aload_n 0, 1) := by decide +kernel
theorem d_N_make_130 : decode m_N_make.2.1 130 = .ok (.sipush 252, 3) := by decide +kernel
theorem d_N_make_133 : decode m_N_make.2.1 133 = .ok (.iload 6, 2) := by decide +kernel
theorem d_N_make_135 : decode m_N_make.2.1 135 = .ok (.iconst 0, 1) := by decide +kernel
theorem d_N_make_136 : decode m_N_make.2.1 136 = .ok (.aload_n 0, 1) := by decide +kernel
theorem d_N_make_137 : decode m_N_make.2.1 137 = .ok (.iload 6, 2) := by decide +kernel
theorem d_N_make_139 : decode m_N_make.2.1 139 = .ok (.invokevirtual 77, 3) := by decide +kernel
theorem d_N_make_142 : decode m_N_make.2.1 142 = .ok (.invokevirtual 118, 3) := by decide +kernel
theorem d_N_make_145 : decode m_N_make.2.1 145 = .ok (.aload_n 0, 1) := by decide +kernel
theorem d_N_make_146 : decode m_N_make.2.1 146 = .ok (.sipush 252, 3) := by decide +kernel
theorem d_N_make_149 : decode m_N_make.2.1 149 = .ok (.iload 7, 2) := by decide +kernel
theorem d_N_make_151 : decode m_N_make.2.1 151 = .ok (.iconst 0, 1) := by decide +kernel
theorem d_N_make_152 : decode m_N_make.2.1 152 = .ok (.aload_n 0, 1) := by decide +kernel
theorem d_N_make_153 : decode m_N_make.2.1 153 = .ok (.iload 7, 2) := by decide +kernel
theorem d_N_make_155 : decode m_N_make.2.1 155 = .ok (.invokevirtual 77, 3) := by decide +kernel
theorem d_N_make_158 : decode m_N_make.2.1 158 = .ok (.invokevirtual 118, 3) := by decide +kernel
theorem d_N_make_161 : decode m_N_make.2.1 161 = .ok (.aload_n 0, 1) := by decide +kernel
theorem d_N_make_162 : decode m_N_make.2.1 162 = .ok (.sipush 252, 3) := by decide +kernel
theorem d_N_make_165 : decode m_N_make.2.1 165 = .ok (.iload_n 1, 1) := by decide +kernel
theorem d_N_make_166 : decode m_N_make.2.1 166 = .ok (.invokevirtual 107, 3) := by decide +kernel
theorem d_N_make_169 : decode m_N_make.2.1 169 = .ok (.iconst 1, 1) := by decide +kernel
theorem d_N_make_170 : decode m_N_make.2.1 170 = .ok (.ireturn, 1) := by decide +kernel
theorem d_N_make_171 : decode m_N_make.2.1 171 = .ok (.iload_n 2, 1) := by decide +kernel
theorem d_N_make_172 : decode m_N_make.2.1 172 = .ok (.bipush 9, 2) := by decide +kernel
theorem d_N_make_174 : decode m_N_make.2.1 174 = .ok (.if_icmp .ge 81, 3) := by decide +kernel
theorem d_N_make_177 : decode m_N_make.2.1 177 = .ok (.aload_n 0, 1) := by decide +kernel
theorem d_N_make_178 : decode m_N_make.2.1 178 = .ok (.iload 6, 2) := by decide +kernel
theorem d_N_make_180 : decode m_N_make.2.1 180 = .ok (.invokevirtual 77, 3) := by decide +kernel
theorem d_N_make_183 : decode m_N_make.2.1 183 = .ok (.iconst 1, 1) := by decide +kernel
theorem d_N_make_184 : decode m_N_make.2.1 184 = .ok (.if_icmp .ne 5, 3) := by decide +kernel
theorem d_N_make_187 : decode m_N_make.2.1 187 = .ok (.iconst 0, 1) := by decide +kernel
theorem d_N_make_188 : decode m_N_make.2.1 188 = .ok (.ireturn, 1) := by decide +kernel
theorem d_N_make_189 : decode m_N_make.2.1 189 = .ok (.aload_n 0, 1) := by decide +kernel
theorem d_N_make_190 : decode m_N_make.2.1 190 = .ok (.iload 6, 2) := by decide +kernel
theorem d_N_make_192 : decode m_N_make.2.1 192 = .ok (.iconst 1, 1) := by decide +kernel
theorem d_N_make_193 : decode m_N_make.2.1 193 = .ok (.invokevirtual 140, 3) := by decide +kernel
theorem d_N_make_196 : decode m_N_make.2.1 196 = .ok (.istore 8, 2) := by decide +kernel
theorem d_N_make_198 : decode m_N_make.2.1 198 = .ok (.aload_n 0, 1) := by decide +kernel
theorem d_N_make_199 : decode m_N_make.2.1 199 = .ok (.getfield 22, 3) := by decide +kernel
theorem d_N_make_202 : decode m_N_make.2.1 202 = .ok (.sipush 8064, 3) := by decide +kernel
theorem d_N_make_205 : decode m_N_make.2.1 205 = .ok (.iconst 0, 1) := by decide +kernel
theorem d_N_make_206 : decode m_N_make.2.1 206 = .ok (.iastore, 1) := by decide +kernel
theorem d_N_make_207 : decode m_N_make.2.1 207 = .ok (.aload_n 0, 1) := by decide +kernel
theorem d_N_make_208 : decode m_N_make.2.1 208 = .ok (.sipush 252, 3) := by decide +kernel
theorem d_N_make_211 : decode m_N_make.2.1 211 = .ok (.iload 6, 2) := by decide +kernel
theorem d_N_make_213 : decode m_N_make.2.1 213 = .ok (.iload_n 2, 1) := by decide +kernel
theorem d_N_make_214 : decode m_N_make.2.1 214 = .ok (.bipush 7, 2) := by decide +kernel
theorem d_N_make_216 : decode m_N_make.2.1 216 = .ok (.if_icmp .ne 7, 3) := by decide +kernel
theorem d_N_make_219 : decode m_N_make.2.1 219 = .ok (.iconst 1, 1) := by decide +kernel
theorem d_N_make_220 : decode m_N_make.2.1 220 = .ok (.goto 5, 3) := by decide +kernel
theorem d_N_make_223 : decode m_N_make.2.1 223 = .ok (.iload 8, 2) := by decide +kernel
theorem d_N_make_225 : decode m_N_make.2.1 225 = .ok (.iload_n 2, 1) := by decide +kernel
theorem d_N_make_226 : decode m_N_make.2.1 226 = .ok (.bipush 7, 2) := by decide +kernel
theorem d_N_make_228 : decode m_N_make.2.1 228 = .ok (.if_icmp .ne 8, 3) := by decide +kernel
theorem d_N_make_231 : decode m_N_make.2.1 231 = .ok (.iload 8, 2) := by decide +kernel
theorem d_N_make_233 : decode m_N_make.2.1 233 = .ok (.goto 9, 3) := by decide +kernel
theorem d_N_make_236 : decode m_N_make.2.1 236 = .ok (.aload_n 0, 1) := by decide +kernel
theorem d_N_make_237 : decode m_N_make.2.1 237 = .ok (.iload 6, 2) := by decide +kernel
theorem d_N_make_239 : decode m_N_make.2.1 239 = .ok (.invokevirtual 77, 3) := by decide +kernel
theorem d_N_make_242 : decode m_N_make.2.1 242 = .ok (.invokevirtual 118, 3) := by decide +kernel
theorem d_N_make_245 : decode m_N_make.2.1 245 = .ok (.aload_n 0, 1) := by decide +kernel
theorem d_N_make_246 : decode m_N_make.2.1 246 = .ok (.sipush 252, 3) := by decide +kernel
theorem d_N_make_249 : decode m_N_make.2.1 249 = .ok (.iload_n 1, 1) := by decide +kernel
theorem d_N_make_250 : decode m_N_make.2.1 250 = .ok (.invokevirtual 107, 3) := by decide +kernel
theorem d_N_make_253 : decode m_N_make.2.1 253 = .ok (.iconst 1, 1) := by decide +kernel
theorem d_N_make_254 : decode m_N_make.2.1 254 = .ok (.ireturn, 1) := by decide +kernel
theorem d_N_make_255 : decode m_N_make.2.1 255 = .ok (.aload_n 0, 1) := by decide +kernel
theorem d_N_make_256 : decode m_N_make.2.1 256 = .ok (.iload 6, 2) := by decide +kernel
theorem d_N_make_258 : decode m_N_make.2.1 258 = .ok (.iconst 0, 1) := by decide +kernel
theorem d_N_make_259 : decode m_N_make.2.1 259 = .ok (.invokevirtual 66, 3) := by decide +kernel
theorem d_N_make_262 : decode m_N_make.2.1 262 = .ok (.ifCond .ne 13, 3) := by decide +kernel
theorem d_N_make_265 : decode m_N_make.2.1 265 = .ok (.aload_n 0, 1) := by decide +kernel
theorem d_N_make_266 : decode m_N_make.2.1 266 = .ok (.iload 7, 2) := by decide +kernel
theorem d_N_make_268 : decode m_N_make.2.1 268 = .ok (.iconst 0, 1) := by decide +kernel
theorem d_N_make_269 : decode m_N_make.2.1 269 = .ok (.invokevirtual 66, 3) := by decide +kernel
theorem d_N_make_272 : decode m_N_make.2.1 272 = .ok (.ifCond .eq 5, 3) := by decide +kernel
theorem d_N_make_275 : decode m_N_make.2.1 275 = .ok (.iconst 0, 1) := by decide +kernel
theorem d_N_make_276 : decode m_N_make.2.1 276 = .ok (.ireturn, 1) := by decide +kernel
theorem d_N_make_277 : decode m_N_make.2.1 277 = .ok (.aload_n 0, 1) := by decide +kernel
theorem d_N_make_278 : decode m_N_make.2.1 278 = .ok (.iload_n 1, 1) := by decide +kernel
theorem d_N_make_279 : decode m_N_make.2.1 279 = .ok (.iconst 0, 1) := by decide +kernel
theorem d_N_make_280 : decode m_N_make.2.1 280 = .ok (.iload_n 2, 1) := by decide +kernel
theorem d_N_make_281 : decode m_N_make.2.1 281 = .ok (.bipush 9, 2) := by decide +kernel
theorem d_N_make_283 : decode m_N_make.2.1 283 = .ok (.if_icmp .ne 21, 3) := by decide +kernel
theorem d_N_make_286 : decode m_N_make.2.1 286 = .ok (.aload_n 0, 1) := by decide +kernel
theorem d_N_make_287 : decode m_N_make.2.1 287 = .ok (.iload 6, 2) := by decide +kernel
theorem d_N_make_289 : decode m_N_make.2.1 289 = .ok (.iconst 0, 1) := by decide +kernel
theorem d_N_make_290 : decode m_N_make.2.1 290 = .ok (.invokevirtual 70, 3) := by decide +kernel
theorem d_N_make_293 : decode m_N_make.2.1 293 = .ok (.aload_n 0, 1) := by decide +kernel
theorem d_N_make_294 : decode m_N_make.2.1 294 = .ok (.iload 7, 2) := by decide +kernel
theorem d_N_make_296 : decode m_N_make.2.1 296 = .ok (.iconst 0, 1) := by decide +kernel
theorem d_N_make_297 : decode m_N_make.2.1 297 = .ok (.invokevirtual 70, 3) := by decide +kernel
theorem d_N_make_300 : decode m_N_make.2.1 300 = .ok (.iadd, 1) := by decide +kernel
theorem d_N_make_301 : decode m_N_make.2.1 301 = .ok (.goto 18, 3) := by decide +kernel
theorem d_N_make_304 : decode m_N_make.2.1 304 = .ok (.aload_n 0, 1) := by decide +kernel
theorem d_N_make_305 : decode m_N_make.2.1 305 = .ok (.iload 6, 2) := by decide +kernel
theorem d_N_make_307 : decode m_N_make.2.1 307 = .ok (.iconst 0, 1) := by decide +kernel
theorem d_N_make_308 : decode m_N_make.2.1 308 = .ok (.invokevirtual 70, 3) := by decide +kernel
theorem d_N_make_311 : decode m_N_make.2.1 311 = .ok (.aload_n 0, 1) := by decide +kernel
theorem d_N_make_312 : decode m_N_make.2.1 312 = .ok (.iload 7, 2) := by decide +kernel
theorem d_N_make_314 : decode m_N_make.2.1 314 = .ok (.iconst 0, 1) := by decide +kernel
theorem d_N_make_315 : decode m_N_make.2.1 315 = .ok (.invokevirtual 70, 3) := by decide +kernel
theorem d_N_make_318 : decode m_N_make.2.1 318 = .ok (.isub, 1) := by decide +kernel
theorem d_N_make_319 : decode m_N_make.2.1 319 = .ok (.invokevirtual 115, 3) := by decide +kernel
theorem d_N_make_322 : decode m_N_make.2.1 322 = .ok (.iconst 1, 1) := by decide +kernel
theorem d_N_make_323 : decode m_N_make.2.1 323 = .ok (.ireturn, 1) := by decide +kernel
theorem d_N_branch_0 : decode m_N_branch.2.1 0 = .ok (.bipush 21, 2) := by decide +kernel
theorem d_N_branch_2 : decode m_N_branch.2.1 2 = .ok (.iload_n 1, 1) := by decide +kernel
theorem d_N_branch_3 : decode m_N_branch.2.1 3 = .ok (.imul, 1) := by decide +kernel
theorem d_N_branch_4 : decode m_N_branch.2.1 4 = .ok (.iload_n 3, 1) := by decide +kernel
theorem d_N_branch_5 : decode m_N_branch.2.1 5 = .ok (.iadd, 1) := by decide +kernel
theorem d_N_branch_6 : decode m_N_branch.2.1 6 = .ok (.istore 6, 2) := by decide +kernel
theorem d_N_branch_8 : decode m_N_branch.2.1 8 = .ok (.bipush 21, 2) := by decide +kernel
theorem d_N_branch_10 : decode m_N_branch.2.1 10 = .ok (.iload_n 1, 1) := by decide +kernel
theorem d_N_branch_11 : decode m_N_branch.2.1 11 = .ok (.imul, 1) := by decide +kernel
theorem d_N_branch_12 : decode m_N_branch.2.1 12 = .ok (.iload 4, 2) := by decide +kernel
theorem d_N_branch_14 : decode m_N_branch.2.1 14 = .ok (.iadd, 1) := by decide +kernel
theorem d_N_branch_15 : decode m_N_branch.2.1 15 = .ok (.istore 7, 2) := by decide +kernel
theorem d_N_branch_17 : decode m_N_branch.2.1 17 = .ok (.iload_n 2, 1) := by decide +kernel
theorem d_N_branch_18 : decode m_N_branch.2.1 18 = .ok (.bipush 11, 2) := by decide +kernel
theorem d_N_branch_20 : decode m_N_branch.2.1 20 = .ok (.if_icmp .ne 50, 3) := by decide +kernel
theorem d_N_branch_23 : decode m_N_branch.2.1 23 = .ok (.aload_n 0, 1) := by decide +kernel
theorem d_N_branch_24 : decode m_N_branch.2.1 24 = .ok (.iload 6, 2) := by decide +kernel
theorem d_N_branch_26 : decode m_N_branch.2.1 26 = .ok (.iconst 0, 1) := by decide +kernel
theorem d_N_branch_27 : decode m_N_branch.2.1 27 = .ok (.invokevirtual 66, 3) := by decide +kernel
theorem d_N_branch_30 : decode m_N_branch.2.1 30 = .ok (.ifCond .ne 13, 3) := by decide +kernel
theorem d_N_branch_33 : decode m_N_branch.2.1 33 = .ok (.aload_n 0, 1) := by decide +kernel
theorem d_N_branch_34 : decode m_N_branch.2.1 34 = .ok (.iload 7, 2) := by decide +kernel
theorem d_N_branch_36 : decode m_N_branch.2.1 36 = .ok (.iconst 0, 1) := by decide +kernel
theorem d_N_branch_37 : decode m_N_branch.2.1 37 = .ok (.invokevirtual 66, 3) := by decide +kernel
theorem d_N_branch_40 : decode m_N_branch.2.1 40 = .ok (.ifCond .eq 5, 3) := by decide +kernel
theorem d_N_branch_43 : decode m_N_branch.2.1 43 = .ok (.iconst 0, 1) := by decide +kernel
theorem d_N_branch_44 : decode m_N_branch.2.1 44 = .ok (.ireturn, 1) := by decide +kernel
theorem d_N_branch_45 : decode m_N_branch.2.1 45 = .ok (.aload_n 0, 1) := by decide +kernel
theorem d_N_branch_46 : decode m_N_branch.2.1 46 = .ok (.iload 6, 2) := by decide +kernel
theorem d_N_branch_48 : decode m_N_branch.2.1 48 = .ok (.iconst 0, 1) := by decide +kernel
theorem d_N_branch_49 : decode m_N_branch.2.1 49 = .ok (.invokevirtual 70, 3) := by decide +kernel
theorem d_N_branch_52 : decode m_N_branch.2.1 52 = .ok (.aload_n 0, 1) := by decide +kernel
theorem d_N_branch_53 : decode m_N_branch.2.1 53 = .ok (.iload 7, 2) := by decide +kernel
theorem d_N_branch_55 : decode m_N_branch.2.1 55 = .ok (.iconst 0, 1) := by decide +kernel
theorem d_N_branch_56 : decode m_N_branch.2.1 56 = .ok (.invokevirtual 70, 3) := by decide +kernel
theorem d_N_branch_59 : decode m_N_branch.2.1 59 = .ok (.if_icmp .lt 11, 3) := by decide +kernel
theorem d_N_branch_62 : decode m_N_branch.2.1 62 = .ok (.aload_n 0, 1) := by decide +kernel
theorem d_N_branch_63 : decode m_N_branch.2.1 63 = .ok (.getfield 28, 3) := by decide +kernel
theorem d_N_branch_66 : decode m_N_branch.2.1 66 = .ok (.iload_n 1, 1) := by decide +kernel
theorem d_N_branch_67 : decode m_N_branch.2.1 67 = .ok (.iload 5, 2) := by decide +kernel
theorem d_N_branch_69 : decode m_N_branch.2.1 69 = .ok (.iastore, 1) := by decide +kernel
theorem d_N_branch_70 : decode m_N_branch.2.1 70 = .ok (.iload_n 2, 1) := by decide +kernel
theorem d_N_branch_71 : decode m_N_branch.2.1 71 = .ok (.bipush 12, 2) := by decide +kernel
theorem d_N_branch_73 : decode m_N_branch.2.1 73 = .ok (.if_icmp .ne 22, 3) := by decide +kernel
theorem d_N_branch_76 : decode m_N_branch.2.1 76 = .ok (.aload_n 0, 1) := by decide +kernel
theorem d_N_branch_77 : decode m_N_branch.2.1 77 = .ok (.iload 6, 2) := by decide +kernel
theorem d_N_branch_79 : decode m_N_branch.2.1 79 = .ok (.iload 7, 2) := by decide +kernel
theorem d_N_branch_81 : decode m_N_branch.2.1 81 = .ok (.invokevirtual 143, 3) := by decide +kernel
theorem d_N_branch_84 : decode m_N_branch.2.1 84 = .ok (.ifCond .ne 11, 3) := by decide +kernel
theorem d_N_branch_87 : decode m_N_branch.2.1 87 = .ok (.aload_n 0, 1) := by decide +kernel
theorem d_N_branch_88 : decode m_N_branch.2.1 88 = .ok (.getfield 28, 3) := by decide +kernel
theorem d_N_branch_91 : decode m_N_branch.2.1 91 = .ok (.iload_n 1, 1) := by decide +kernel
theorem d_N_branch_92 : decode m_N_branch.2.1 92 = .ok (.iload 5, 2) := by decide +kernel
theorem d_N_branch_94 : decode m_N_branch.2.1 94 = .ok (.iastore, 1) := by decide +kernel
theorem d_N_branch_95 : decode m_N_branch.2.1 95 = .ok (.iload_n 2, 1) := by decide +kernel
theorem d_N_branch_96 : decode m_N_branch.2.1 96 = .ok (.bipush 13, 2) := by decide +kernel
theorem d_N_branch_98 : decode m_N_branch.2.1 98 = .ok (.if_icmp .ne 23, 3) := by decide +kernel
theorem d_N_branch_101 : decode m_N_branch.2.1 101 = .ok (.aload_n 0, 1) := by decide +kernel
theorem d_N_branch_102 : decode m_N_branch.2.1 102 = .ok (.iload 6, 2) := by decide +kernel
theorem d_N_branch_104 : decode m_N_branch.2.1 104 = .ok (.iconst 0, 1) := by decide +kernel
theorem d_N_branch_105 : decode m_N_branch.2.1 105 = .ok (.invokevirtual 66, 3) := by decide +kernel
theorem d_N_branch_108 : decode m_N_branch.2.1 108 = .ok (.iload 4, 2) := by decide +kernel
theorem d_N_branch_110 : decode m_N_branch.2.1 110 = .ok (.if_icmp .eq 11, 3) := by decide +kernel
theorem d_N_branch_113 : decode m_N_branch.2.1 113 = .ok (.aload_n 0, 1) := by decide +kernel
