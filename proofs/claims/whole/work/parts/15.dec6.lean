/-! Decode rows (printed by wip/gen/dec.py). -/
theorem d_S_end_23 : decode m_S_end.2.1 23 = .ok (.aload_n 1, 1) := by decide +kernel
theorem d_S_end_24 : decode m_S_end.2.1 24 = .ok (.getfield 61, 3) := by decide +kernel
theorem d_S_end_27 : decode m_S_end.2.1 27 = .ok (.invokevirtual 78, 3) := by decide +kernel
theorem d_S_end_30 : decode m_S_end.2.1 30 = .ok (.iconst 0, 1) := by decide +kernel
theorem d_S_end_31 : decode m_S_end.2.1 31 = .ok (.istore_n 3, 1) := by decide +kernel
theorem d_S_end_32 : decode m_S_end.2.1 32 = .ok (.iload_n 3, 1) := by decide +kernel
theorem d_S_end_33 : decode m_S_end.2.1 33 = .ok (.aload_n 0, 1) := by decide +kernel
theorem d_S_end_34 : decode m_S_end.2.1 34 = .ok (.getfield 40, 3) := by decide +kernel
theorem d_S_end_37 : decode m_S_end.2.1 37 = .ok (.if_icmp .ge 43, 3) := by decide +kernel
theorem d_S_end_40 : decode m_S_end.2.1 40 = .ok (.aload_n 1, 1) := by decide +kernel
theorem d_S_end_41 : decode m_S_end.2.1 41 = .ok (.getfield 81, 3) := by decide +kernel
theorem d_S_end_44 : decode m_S_end.2.1 44 = .ok (.iconst 1, 1) := by decide +kernel
theorem d_S_end_45 : decode m_S_end.2.1 45 = .ok (.iload_n 3, 1) := by decide +kernel
theorem d_S_end_46 : decode m_S_end.2.1 46 = .ok (.ishl, 1) := by decide +kernel
theorem d_S_end_47 : decode m_S_end.2.1 47 = .ok (.iand, 1) := by decide +kernel
theorem d_S_end_48 : decode m_S_end.2.1 48 = .ok (.ifCond .eq 26, 3) := by decide +kernel
theorem d_S_end_51 : decode m_S_end.2.1 51 = .ok (.aload_n 0, 1) := by decide +kernel
theorem d_S_end_52 : decode m_S_end.2.1 52 = .ok (.aload_n 1, 1) := by decide +kernel
theorem d_S_end_53 : decode m_S_end.2.1 53 = .ok (.aload_n 0, 1) := by decide +kernel
theorem d_S_end_54 : decode m_S_end.2.1 54 = .ok (.getfield 11, 3) := by decide +kernel
theorem d_S_end_57 : decode m_S_end.2.1 57 = .ok (.iload_n 3, 1) := by decide +kernel
theorem d_S_end_58 : decode m_S_end.2.1 58 = .ok (.aaload, 1) := by decide +kernel
theorem d_S_end_59 : decode m_S_end.2.1 59 = .ok (.invokevirtual 87, 3) := by decide +kernel
theorem d_S_end_62 : decode m_S_end.2.1 62 = .ok (.aload_n 0, 1) := by decide +kernel
theorem d_S_end_63 : decode m_S_end.2.1 63 = .ok (.aload_n 1, 1) := by decide +kernel
theorem d_S_end_64 : decode m_S_end.2.1 64 = .ok (.aload_n 0, 1) := by decide +kernel
theorem d_S_end_65 : decode m_S_end.2.1 65 = .ok (.getfield 11, 3) := by decide +kernel
theorem d_S_end_68 : decode m_S_end.2.1 68 = .ok (.iload_n 3, 1) := by decide +kernel
theorem d_S_end_69 : decode m_S_end.2.1 69 = .ok (.aaload, 1) := by decide +kernel
theorem d_S_end_70 : decode m_S_end.2.1 70 = .ok (.aload_n 2, 1) := by decide +kernel
theorem d_S_end_71 : decode m_S_end.2.1 71 = .ok (.invokevirtual 91, 3) := by decide +kernel
theorem d_S_end_74 : decode m_S_end.2.1 74 = .ok (.iinc 3 1, 3) := by decide +kernel
theorem d_S_end_77 : decode m_S_end.2.1 77 = .ok (.goto (-45), 3) := by decide +kernel
theorem d_S_end_80 : decode m_S_end.2.1 80 = .ok (.return_, 1) := by decide +kernel
theorem d_S_signal_0 : decode m_S_signal.2.1 0 = .ok (.aload_n 2, 1) := by decide +kernel
theorem d_S_signal_1 : decode m_S_signal.2.1 1 = .ok (.getfield 65, 3) := by decide +kernel
theorem d_S_signal_4 : decode m_S_signal.2.1 4 = .ok (.iconst 3, 1) := by decide +kernel
theorem d_S_signal_5 : decode m_S_signal.2.1 5 = .ok (.if_icmp .ne 4, 3) := by decide +kernel
theorem d_S_signal_8 : decode m_S_signal.2.1 8 = .ok (.return_, 1) := by decide +kernel
theorem d_S_signal_9 : decode m_S_signal.2.1 9 = .ok (.aload_n 2, 1) := by decide +kernel
theorem d_S_signal_10 : decode m_S_signal.2.1 10 = .ok (.getfield 95, 3) := by decide +kernel
theorem d_S_signal_13 : decode m_S_signal.2.1 13 = .ok (.ifCond .eq 17, 3) := by decide +kernel
theorem d_S_signal_16 : decode m_S_signal.2.1 16 = .ok (.aload_n 0, 1) := by decide +kernel
theorem d_S_signal_17 : decode m_S_signal.2.1 17 = .ok (.aload_n 2, 1) := by decide +kernel
theorem d_S_signal_18 : decode m_S_signal.2.1 18 = .ok (.aload_n 0, 1) := by decide +kernel
theorem d_S_signal_19 : decode m_S_signal.2.1 19 = .ok (.aload_n 1, 1) := by decide +kernel
theorem d_S_signal_20 : decode m_S_signal.2.1 20 = .ok (.aload_n 3, 1) := by decide +kernel
theorem d_S_signal_21 : decode m_S_signal.2.1 21 = .ok (.invokevirtual 99, 3) := by decide +kernel
theorem d_S_signal_24 : decode m_S_signal.2.1 24 = .ok (.invokevirtual 103, 3) := by decide +kernel
theorem d_S_signal_27 : decode m_S_signal.2.1 27 = .ok (.goto 23, 3) := by decide +kernel
theorem d_S_signal_30 : decode m_S_signal.2.1 30 = .ok (.aload_n 3, 1) := by decide +kernel
theorem d_S_signal_31 : decode m_S_signal.2.1 31 = .ok (.aload_n 0, 1) := by decide +kernel
theorem d_S_signal_32 : decode m_S_signal.2.1 32 = .ok (.getfield 36, 3) := by decide +kernel
theorem d_S_signal_35 : decode m_S_signal.2.1 35 = .ok (.bipush 14, 2) := by decide +kernel
theorem d_S_signal_37 : decode m_S_signal.2.1 37 = .ok (.aaload, 1) := by decide +kernel
theorem d_S_signal_38 : decode m_S_signal.2.1 38 = .ok (.invokestatic 107, 3) := by decide +kernel
theorem d_S_signal_41 : decode m_S_signal.2.1 41 = .ok (.ifCond .ne 9, 3) := by decide +kernel
theorem d_S_signal_44 : decode m_S_signal.2.1 44 = .ok (.aload_n 0, 1) := by decide +kernel
theorem d_S_signal_45 : decode m_S_signal.2.1 45 = .ok (.aload_n 2, 1) := by decide +kernel
theorem d_S_signal_46 : decode m_S_signal.2.1 46 = .ok (.aload_n 3, 1) := by decide +kernel
theorem d_S_signal_47 : decode m_S_signal.2.1 47 = .ok (.invokevirtual 111, 3) := by decide +kernel
theorem d_S_signal_50 : decode m_S_signal.2.1 50 = .ok (.return_, 1) := by decide +kernel
theorem d_S_exitNotice_0 : decode m_S_exitNotice.2.1 0 = .ok (.aload_n 2, 1) := by decide +kernel
theorem d_S_exitNotice_1 : decode m_S_exitNotice.2.1 1 = .ok (.getfield 114, 3) := by decide +kernel
theorem d_S_exitNotice_4 : decode m_S_exitNotice.2.1 4 = .ok (.iconst 4, 1) := by decide +kernel
theorem d_S_exitNotice_5 : decode m_S_exitNotice.2.1 5 = .ok (.iadd, 1) := by decide +kernel
theorem d_S_exitNotice_6 : decode m_S_exitNotice.2.1 6 = .ok (.bipush 15, 2) := by decide +kernel
theorem d_S_exitNotice_8 : decode m_S_exitNotice.2.1 8 = .ok (.if_icmp .le 13, 3) := by decide +kernel
theorem d_S_exitNotice_11 : decode m_S_exitNotice.2.1 11 = .ok (.aload_n 0, 1) := by decide +kernel
theorem d_S_exitNotice_12 : decode m_S_exitNotice.2.1 12 = .ok (.getfield 36, 3) := by decide +kernel
theorem d_S_exitNotice_15 : decode m_S_exitNotice.2.1 15 = .ok (.bipush 13, 2) := by decide +kernel
theorem d_S_exitNotice_17 : decode m_S_exitNotice.2.1 17 = .ok (.aaload, 1) := by decide +kernel
theorem d_S_exitNotice_18 : decode m_S_exitNotice.2.1 18 = .ok (.goto 4, 3) := by decide +kernel
theorem d_S_exitNotice_21 : decode m_S_exitNotice.2.1 21 = .ok (.aload_n 2, 1) := by decide +kernel
theorem d_S_exitNotice_22 : decode m_S_exitNotice.2.1 22 = .ok (.astore_n 3, 1) := by decide +kernel
theorem d_S_exitNotice_23 : decode m_S_exitNotice.2.1 23 = .ok (.new 27, 3) := by decide +kernel
theorem d_S_exitNotice_26 : decode m_S_exitNotice.2.1 26 = .ok (.dup, 1) := by decide +kernel
theorem d_S_exitNotice_27 : decode m_S_exitNotice.2.1 27 = .ok (.iconst 5, 1) := by decide +kernel
theorem d_S_exitNotice_28 : decode m_S_exitNotice.2.1 28 = .ok (.aload_n 0, 1) := by decide +kernel
theorem d_S_exitNotice_29 : decode m_S_exitNotice.2.1 29 = .ok (.getfield 36, 3) := by decide +kernel
theorem d_S_exitNotice_32 : decode m_S_exitNotice.2.1 32 = .ok (.bipush 15, 2) := by decide +kernel
theorem d_S_exitNotice_34 : decode m_S_exitNotice.2.1 34 = .ok (.aaload, 1) := by decide +kernel
theorem d_S_exitNotice_35 : decode m_S_exitNotice.2.1 35 = .ok (.new 27, 3) := by decide +kernel
theorem d_S_exitNotice_38 : decode m_S_exitNotice.2.1 38 = .ok (.dup, 1) := by decide +kernel
theorem d_S_exitNotice_39 : decode m_S_exitNotice.2.1 39 = .ok (.iconst 5, 1) := by decide +kernel
theorem d_S_exitNotice_40 : decode m_S_exitNotice.2.1 40 = .ok (.aload_n 1, 1) := by decide +kernel
theorem d_S_exitNotice_41 : decode m_S_exitNotice.2.1 41 = .ok (.getfield 117, 3) := by decide +kernel
theorem d_S_exitNotice_44 : decode m_S_exitNotice.2.1 44 = .ok (.aload_n 3, 1) := by decide +kernel
theorem d_S_exitNotice_45 : decode m_S_exitNotice.2.1 45 = .ok (.invokespecial 120, 3) := by decide +kernel
theorem d_S_exitNotice_48 : decode m_S_exitNotice.2.1 48 = .ok (.invokespecial 120, 3) := by decide +kernel
theorem d_S_exitNotice_51 : decode m_S_exitNotice.2.1 51 = .ok (.areturn, 1) := by decide +kernel
theorem d_T_init_0 : decode m_T_init.2.1 0 = .ok (.aload_n 0, 1) := by decide +kernel
theorem d_T_init_1 : decode m_T_init.2.1 1 = .ok (.invokespecial 3, 3) := by decide +kernel
theorem d_T_init_4 : decode m_T_init.2.1 4 = .ok (.aload_n 0, 1) := by decide +kernel
theorem d_T_init_5 : decode m_T_init.2.1 5 = .ok (.iload_n 1, 1) := by decide +kernel
theorem d_T_init_6 : decode m_T_init.2.1 6 = .ok (.putfield 9, 3) := by decide +kernel
theorem d_T_init_9 : decode m_T_init.2.1 9 = .ok (.aload_n 0, 1) := by decide +kernel
theorem d_T_init_10 : decode m_T_init.2.1 10 = .ok (.iload_n 2, 1) := by decide +kernel
theorem d_T_init_11 : decode m_T_init.2.1 11 = .ok (.putfield 15, 3) := by decide +kernel
theorem d_T_init_14 : decode m_T_init.2.1 14 = .ok (.aload_n 0, 1) := by decide +kernel
theorem d_T_init_15 : decode m_T_init.2.1 15 = .ok (.aconst_null, 1) := by decide +kernel
theorem d_T_init_16 : decode m_T_init.2.1 16 = .ok (.putfield 18, 3) := by decide +kernel
theorem d_T_init_19 : decode m_T_init.2.1 19 = .ok (.aload_n 0, 1) := by decide +kernel
theorem d_T_init_20 : decode m_T_init.2.1 20 = .ok (.aconst_null, 1) := by decide +kernel
theorem d_T_init_21 : decode m_T_init.2.1 21 = .ok (.putfield 22, 3) := by decide +kernel
theorem d_T_init_24 : decode m_T_init.2.1 24 = .ok (.aload_n 0, 1) := by decide +kernel
theorem d_T_init_25 : decode m_T_init.2.1 25 = .ok (.iconst 1, 1) := by decide +kernel
theorem d_T_init_26 : decode m_T_init.2.1 26 = .ok (.putfield 25, 3) := by decide +kernel
theorem d_T_init_29 : decode m_T_init.2.1 29 = .ok (.return_, 1) := by decide +kernel
theorem d_T_init2_0 : decode m_T_init2.2.1 0 = .ok (.aload_n 0, 1) := by decide +kernel
theorem d_T_init2_1 : decode m_T_init2.2.1 1 = .ok (.invokespecial 3, 3) := by decide +kernel
theorem d_T_init2_4 : decode m_T_init2.2.1 4 = .ok (.aload_n 0, 1) := by decide +kernel
theorem d_T_init2_5 : decode m_T_init2.2.1 5 = .ok (.iload_n 1, 1) := by decide +kernel
theorem d_T_init2_6 : decode m_T_init2.2.1 6 = .ok (.putfield 9, 3) := by decide +kernel
theorem d_T_init2_9 : decode m_T_init2.2.1 9 = .ok (.aload_n 0, 1) := by decide +kernel
theorem d_T_init2_10 : decode m_T_init2.2.1 10 = .ok (.iconst 0, 1) := by decide +kernel
theorem d_T_init2_11 : decode m_T_init2.2.1 11 = .ok (.putfield 15, 3) := by decide +kernel
theorem d_T_init2_14 : decode m_T_init2.2.1 14 = .ok (.aload_n 0, 1) := by decide +kernel
theorem d_T_init2_15 : decode m_T_init2.2.1 15 = .ok (.aload_n 2, 1) := by decide +kernel
theorem d_T_init2_16 : decode m_T_init2.2.1 16 = .ok (.putfield 18, 3) := by decide +kernel
theorem d_T_init2_19 : decode m_T_init2.2.1 19 = .ok (.aload_n 0, 1) := by decide +kernel
theorem d_T_init2_20 : decode m_T_init2.2.1 20 = .ok (.aload_n 3, 1) := by decide +kernel
theorem d_T_init2_21 : decode m_T_init2.2.1 21 = .ok (.putfield 22, 3) := by decide +kernel
theorem d_T_init2_24 : decode m_T_init2.2.1 24 = .ok (.aload_n 0, 1) := by decide +kernel
theorem d_T_init2_25 : decode m_T_init2.2.1 25 = .ok (.iconst 1, 1) := by decide +kernel
theorem d_T_init2_26 : decode m_T_init2.2.1 26 = .ok (.aload_n 2, 1) := by decide +kernel
theorem d_T_init2_27 : decode m_T_init2.2.1 27 = .ok (.getfield 25, 3) := by decide +kernel
theorem d_T_init2_30 : decode m_T_init2.2.1 30 = .ok (.iadd, 1) := by decide +kernel
theorem d_T_init2_31 : decode m_T_init2.2.1 31 = .ok (.aload_n 3, 1) := by decide +kernel
theorem d_T_init2_32 : decode m_T_init2.2.1 32 = .ok (.getfield 25, 3) := by decide +kernel
theorem d_T_init2_35 : decode m_T_init2.2.1 35 = .ok (.iadd, 1) := by decide +kernel
theorem d_T_init2_36 : decode m_T_init2.2.1 36 = .ok (.putfield 25, 3) := by decide +kernel
theorem d_T_init2_39 : decode m_T_init2.2.1 39 = .ok (.return_, 1) := by decide +kernel
theorem d_T_joined_0 : decode m_T_joined.2.1 0 = .ok (.iconst 1, 1) := by decide +kernel
theorem d_T_joined_1 : decode m_T_joined.2.1 1 = .ok (.aload_n 1, 1) := by decide +kernel
theorem d_T_joined_2 : decode m_T_joined.2.1 2 = .ok (.getfield 25, 3) := by decide +kernel
theorem d_T_joined_5 : decode m_T_joined.2.1 5 = .ok (.iadd, 1) := by decide +kernel
theorem d_T_joined_6 : decode m_T_joined.2.1 6 = .ok (.aload_n 2, 1) := by decide +kernel
theorem d_T_joined_7 : decode m_T_joined.2.1 7 = .ok (.getfield 25, 3) := by decide +kernel
theorem d_T_joined_10 : decode m_T_joined.2.1 10 = .ok (.iadd, 1) := by decide +kernel
theorem d_T_joined_11 : decode m_T_joined.2.1 11 = .ok (.bipush 15, 2) := by decide +kernel
theorem d_T_joined_13 : decode m_T_joined.2.1 13 = .ok (.if_icmp .le 7, 3) := by decide +kernel
theorem d_T_joined_16 : decode m_T_joined.2.1 16 = .ok (.aconst_null, 1) := by decide +kernel
theorem d_T_joined_17 : decode m_T_joined.2.1 17 = .ok (.goto 13, 3) := by decide +kernel
theorem d_T_joined_20 : decode m_T_joined.2.1 20 = .ok (.new 10, 3) := by decide +kernel
theorem d_T_joined_23 : decode m_T_joined.2.1 23 = .ok (.dup, 1) := by decide +kernel
theorem d_T_joined_24 : decode m_T_joined.2.1 24 = .ok (.iload_n 0, 1) := by decide +kernel
theorem d_T_joined_25 : decode m_T_joined.2.1 25 = .ok (.aload_n 1, 1) := by decide +kernel
theorem d_T_joined_26 : decode m_T_joined.2.1 26 = .ok (.aload_n 2, 1) := by decide +kernel
theorem d_T_joined_27 : decode m_T_joined.2.1 27 = .ok (.invokespecial 28, 3) := by decide +kernel
theorem d_T_joined_30 : decode m_T_joined.2.1 30 = .ok (.areturn, 1) := by decide +kernel
theorem d_T_hasParts_0 : decode m_T_hasParts.2.1 0 = .ok (.aload_n 0, 1) := by decide +kernel
theorem d_T_hasParts_1 : decode m_T_hasParts.2.1 1 = .ok (.getfield 18, 3) := by decide +kernel
theorem d_T_hasParts_4 : decode m_T_hasParts.2.1 4 = .ok (.ifnull 14, 3) := by decide +kernel
theorem d_T_hasParts_7 : decode m_T_hasParts.2.1 7 = .ok (.aload_n 0, 1) := by decide +kernel
theorem d_T_hasParts_8 : decode m_T_hasParts.2.1 8 = .ok (.getfield 22, 3) := by decide +kernel
theorem d_T_hasParts_11 : decode m_T_hasParts.2.1 11 = .ok (.ifnull 7, 3) := by decide +kernel
theorem d_T_hasParts_14 : decode m_T_hasParts.2.1 14 = .ok (.iconst 1, 1) := by decide +kernel
theorem d_T_hasParts_15 : decode m_T_hasParts.2.1 15 = .ok (.goto 4, 3) := by decide +kernel
theorem d_T_hasParts_18 : decode m_T_hasParts.2.1 18 = .ok (.iconst 0, 1) := by decide +kernel
theorem d_T_hasParts_19 : decode m_T_hasParts.2.1 19 = .ok (.ireturn, 1) := by decide +kernel
theorem d_T_hasNumber_0 : decode m_T_hasNumber.2.1 0 = .ok (.aload_n 0, 1) := by decide +kernel
theorem d_T_hasNumber_1 : decode m_T_hasNumber.2.1 1 = .ok (.getfield 9, 3) := by decide +kernel
theorem d_T_hasNumber_4 : decode m_T_hasNumber.2.1 4 = .ok (.ifCond .eq 19, 3) := by decide +kernel
theorem d_T_hasNumber_7 : decode m_T_hasNumber.2.1 7 = .ok (.aload_n 0, 1) := by decide +kernel
theorem d_T_hasNumber_8 : decode m_T_hasNumber.2.1 8 = .ok (.getfield 9, 3) := by decide +kernel
theorem d_T_hasNumber_11 : decode m_T_hasNumber.2.1 11 = .ok (.iconst 1, 1) := by decide +kernel
theorem d_T_hasNumber_12 : decode m_T_hasNumber.2.1 12 = .ok (.if_icmp .eq 11, 3) := by decide +kernel
theorem d_T_hasNumber_15 : decode m_T_hasNumber.2.1 15 = .ok (.aload_n 0, 1) := by decide +kernel
theorem d_T_hasNumber_16 : decode m_T_hasNumber.2.1 16 = .ok (.getfield 9, 3) := by decide +kernel
theorem d_T_hasNumber_19 : decode m_T_hasNumber.2.1 19 = .ok (.iconst 2, 1) := by decide +kernel
theorem d_T_hasNumber_20 : decode m_T_hasNumber.2.1 20 = .ok (.if_icmp .ne 7, 3) := by decide +kernel
theorem d_T_hasNumber_23 : decode m_T_hasNumber.2.1 23 = .ok (.iconst 1, 1) := by decide +kernel
theorem d_T_hasNumber_24 : decode m_T_hasNumber.2.1 24 = .ok (.goto 4, 3) := by decide +kernel
theorem d_T_hasNumber_27 : decode m_T_hasNumber.2.1 27 = .ok (.iconst 0, 1) := by decide +kernel
theorem d_T_hasNumber_28 : decode m_T_hasNumber.2.1 28 = .ok (.ireturn, 1) := by decide +kernel
theorem d_T_summary_0 : decode m_T_summary.2.1 0 = .ok (.aload_n 0, 1) := by decide +kernel
theorem d_T_summary_1 : decode m_T_summary.2.1 1 = .ok (.invokevirtual 31, 3) := by decide +kernel
theorem d_T_summary_4 : decode m_T_summary.2.1 4 = .ok (.ifCond .eq 15, 3) := by decide +kernel
theorem d_T_summary_7 : decode m_T_summary.2.1 7 = .ok (.aload_n 0, 1) := by decide +kernel
theorem d_T_summary_8 : decode m_T_summary.2.1 8 = .ok (.getfield 15, 3) := by decide +kernel
theorem d_T_summary_11 : decode m_T_summary.2.1 11 = .ok (.bipush 100, 2) := by decide +kernel
theorem d_T_summary_13 : decode m_T_summary.2.1 13 = .ok (.invokestatic 35, 3) := by decide +kernel
theorem d_T_summary_16 : decode m_T_summary.2.1 16 = .ok (.goto 4, 3) := by decide +kernel
theorem d_T_summary_19 : decode m_T_summary.2.1 19 = .ok (.iconst 0, 1) := by decide +kernel
theorem d_T_summary_20 : decode m_T_summary.2.1 20 = .ok (.istore_n 1, 1) := by decide +kernel
theorem d_T_summary_21 : decode m_T_summary.2.1 21 = .ok (.ldc 41, 2) := by decide +kernel
theorem d_T_summary_23 : decode m_T_summary.2.1 23 = .ok (.aload_n 0, 1) := by decide +kernel
theorem d_T_summary_24 : decode m_T_summary.2.1 24 = .ok (.getfield 9, 3) := by decide +kernel
theorem d_T_summary_27 : decode m_T_summary.2.1 27 = .ok (.imul, 1) := by decide +kernel
theorem d_T_summary_28 : decode m_T_summary.2.1 28 = .ok (.bipush 100, 2) := by decide +kernel
theorem d_T_summary_30 : decode m_T_summary.2.1 30 = .ok (.aload_n 0, 1) := by decide +kernel
theorem d_T_summary_31 : decode m_T_summary.2.1 31 = .ok (.getfield 25, 3) := by decide +kernel
theorem d_T_summary_34 : decode m_T_summary.2.1 34 = .ok (.imul, 1) := by decide +kernel
theorem d_T_summary_35 : decode m_T_summary.2.1 35 = .ok (.iadd, 1) := by decide +kernel
theorem d_T_summary_36 : decode m_T_summary.2.1 36 = .ok (.iload_n 1, 1) := by decide +kernel
theorem d_T_summary_37 : decode m_T_summary.2.1 37 = .ok (.iadd, 1) := by decide +kernel
theorem d_T_summary_38 : decode m_T_summary.2.1 38 = .ok (.ireturn, 1) := by decide +kernel
theorem d_T_alike_0 : decode m_T_alike.2.1 0 = .ok (.aload_n 0, 1) := by decide +kernel
theorem d_T_alike_1 : decode m_T_alike.2.1 1 = .ok (.getfield 9, 3) := by decide +kernel
theorem d_T_alike_4 : decode m_T_alike.2.1 4 = .ok (.aload_n 1, 1) := by decide +kernel
theorem d_T_alike_5 : decode m_T_alike.2.1 5 = .ok (.getfield 9, 3) := by decide +kernel
theorem d_T_alike_8 : decode m_T_alike.2.1 8 = .ok (.if_icmp .ne 14, 3) := by decide +kernel
theorem d_T_alike_11 : decode m_T_alike.2.1 11 = .ok (.aload_n 0, 1) := by decide +kernel
theorem d_T_alike_12 : decode m_T_alike.2.1 12 = .ok (.getfield 15, 3) := by decide +kernel
theorem d_T_alike_15 : decode m_T_alike.2.1 15 = .ok (.aload_n 1, 1) := by decide +kernel
theorem d_T_alike_16 : decode m_T_alike.2.1 16 = .ok (.getfield 15, 3) := by decide +kernel
theorem d_T_alike_19 : decode m_T_alike.2.1 19 = .ok (.if_icmp .eq 5, 3) := by decide +kernel
theorem d_T_alike_22 : decode m_T_alike.2.1 22 = .ok (.iconst 0, 1) := by decide +kernel
theorem d_T_alike_23 : decode m_T_alike.2.1 23 = .ok (.ireturn, 1) := by decide +kernel
theorem d_T_alike_24 : decode m_T_alike.2.1 24 = .ok (.aload_n 0, 1) := by decide +kernel
theorem d_T_alike_25 : decode m_T_alike.2.1 25 = .ok (.invokevirtual 42, 3) := by decide +kernel
theorem d_T_alike_28 : decode m_T_alike.2.1 28 = .ok (.ifCond .eq 10, 3) := by decide +kernel
theorem d_T_alike_31 : decode m_T_alike.2.1 31 = .ok (.aload_n 1, 1) := by decide +kernel
theorem d_T_alike_32 : decode m_T_alike.2.1 32 = .ok (.invokevirtual 42, 3) := by decide +kernel
theorem d_T_alike_35 : decode m_T_alike.2.1 35 = .ok (.ifCond .ne 5, 3) := by decide +kernel
theorem d_T_alike_38 : decode m_T_alike.2.1 38 = .ok (.iconst 1, 1) := by decide +kernel
theorem d_T_alike_39 : decode m_T_alike.2.1 39 = .ok (.ireturn, 1) := by decide +kernel
theorem d_T_alike_40 : decode m_T_alike.2.1 40 = .ok (.aload_n 0, 1) := by decide +kernel
theorem d_T_alike_41 : decode m_T_alike.2.1 41 = .ok (.getfield 18, 3) := by decide +kernel
theorem d_T_alike_44 : decode m_T_alike.2.1 44 = .ok (.aload_n 1, 1) := by decide +kernel
theorem d_T_alike_45 : decode m_T_alike.2.1 45 = .ok (.getfield 18, 3) := by decide +kernel
theorem d_T_alike_48 : decode m_T_alike.2.1 48 = .ok (.invokestatic 45, 3) := by decide +kernel
theorem d_T_alike_51 : decode m_T_alike.2.1 51 = .ok (.ifCond .eq 21, 3) := by decide +kernel
theorem d_T_alike_54 : decode m_T_alike.2.1 54 = .ok (.aload_n 0, 1) := by decide +kernel
theorem d_T_alike_55 : decode m_T_alike.2.1 55 = .ok (.getfield 22, 3) := by decide +kernel
theorem d_T_alike_58 : decode m_T_alike.2.1 58 = .ok (.aload_n 1, 1) := by decide +kernel
theorem d_T_alike_59 : decode m_T_alike.2.1 59 = .ok (.getfield 22, 3) := by decide +kernel
theorem d_T_alike_62 : decode m_T_alike.2.1 62 = .ok (.invokestatic 45, 3) := by decide +kernel
theorem d_T_alike_65 : decode m_T_alike.2.1 65 = .ok (.ifCond .eq 7, 3) := by decide +kernel
theorem d_T_alike_68 : decode m_T_alike.2.1 68 = .ok (.iconst 1, 1) := by decide +kernel
theorem d_T_alike_69 : decode m_T_alike.2.1 69 = .ok (.goto 4, 3) := by decide +kernel
theorem d_T_alike_72 : decode m_T_alike.2.1 72 = .ok (.iconst 0, 1) := by decide +kernel
theorem d_T_alike_73 : decode m_T_alike.2.1 73 = .ok (.ireturn, 1) := by decide +kernel
theorem d_T_mixed_0 : decode m_T_mixed.2.1 0 = .ok (.iload_n 0, 1) := by decide +kernel
theorem d_T_mixed_1 : decode m_T_mixed.2.1 1 = .ok (.bipush 31, 2) := by decide +kernel
theorem d_T_mixed_3 : decode m_T_mixed.2.1 3 = .ok (.imul, 1) := by decide +kernel
theorem d_T_mixed_4 : decode m_T_mixed.2.1 4 = .ok (.aload_n 1, 1) := by decide +kernel
theorem d_T_mixed_5 : decode m_T_mixed.2.1 5 = .ok (.getfield 9, 3) := by decide +kernel
theorem d_T_mixed_8 : decode m_T_mixed.2.1 8 = .ok (.iadd, 1) := by decide +kernel
theorem d_T_mixed_9 : decode m_T_mixed.2.1 9 = .ok (.iconst 1, 1) := by decide +kernel
theorem d_T_mixed_10 : decode m_T_mixed.2.1 10 = .ok (.iadd, 1) := by decide +kernel
theorem d_T_mixed_11 : decode m_T_mixed.2.1 11 = .ok (.istore_n 2, 1) := by decide +kernel
theorem d_T_mixed_12 : decode m_T_mixed.2.1 12 = .ok (.aload_n 1, 1) := by decide +kernel
theorem d_T_mixed_13 : decode m_T_mixed.2.1 13 = .ok (.invokevirtual 31, 3) := by decide +kernel
theorem d_T_mixed_16 : decode m_T_mixed.2.1 16 = .ok (.ifCond .eq 13, 3) := by decide +kernel
theorem d_T_mixed_19 : decode m_T_mixed.2.1 19 = .ok (.iload_n 2, 1) := by decide +kernel
theorem d_T_mixed_20 : decode m_T_mixed.2.1 20 = .ok (.bipush 31, 2) := by decide +kernel
theorem d_T_mixed_22 : decode m_T_mixed.2.1 22 = .ok (.imul, 1) := by decide +kernel
theorem d_T_mixed_23 : decode m_T_mixed.2.1 23 = .ok (.aload_n 1, 1) := by decide +kernel
theorem d_T_mixed_24 : decode m_T_mixed.2.1 24 = .ok (.getfield 15, 3) := by decide +kernel
theorem d_T_mixed_27 : decode m_T_mixed.2.1 27 = .ok (.iadd, 1) := by decide +kernel
theorem d_T_mixed_28 : decode m_T_mixed.2.1 28 = .ok (.ireturn, 1) := by decide +kernel
theorem d_T_mixed_29 : decode m_T_mixed.2.1 29 = .ok (.aload_n 1, 1) := by decide +kernel
theorem d_T_mixed_30 : decode m_T_mixed.2.1 30 = .ok (.invokevirtual 42, 3) := by decide +kernel
theorem d_T_mixed_33 : decode m_T_mixed.2.1 33 = .ok (.ifCond .ne 5, 3) := by decide +kernel
theorem d_T_mixed_36 : decode m_T_mixed.2.1 36 = .ok (.iload_n 2, 1) := by decide +kernel
theorem d_T_mixed_37 : decode m_T_mixed.2.1 37 = .ok (.ireturn, 1) := by decide +kernel
theorem d_T_mixed_38 : decode m_T_mixed.2.1 38 = .ok (.iload_n 2, 1) := by decide +kernel
theorem d_T_mixed_39 : decode m_T_mixed.2.1 39 = .ok (.aload_n 1, 1) := by decide +kernel
theorem d_T_mixed_40 : decode m_T_mixed.2.1 40 = .ok (.getfield 18, 3) := by decide +kernel
theorem d_T_mixed_43 : decode m_T_mixed.2.1 43 = .ok (.invokestatic 49, 3) := by decide +kernel
theorem d_T_mixed_46 : decode m_T_mixed.2.1 46 = .ok (.aload_n 1, 1) := by decide +kernel
theorem d_T_mixed_47 : decode m_T_mixed.2.1 47 = .ok (.getfield 22, 3) := by decide +kernel
theorem d_T_mixed_50 : decode m_T_mixed.2.1 50 = .ok (.invokestatic 49, 3) := by decide +kernel
theorem d_T_mixed_53 : decode m_T_mixed.2.1 53 = .ok (.ireturn, 1) := by decide +kernel
theorem d_W_cell_0 : decode m_W_cell.2.1 0 = .ok (.iload_n 1, 1) := by decide +kernel
theorem d_W_cell_1 : decode m_W_cell.2.1 1 = .ok (.aload_n 0, 1) := by decide +kernel
theorem d_W_cell_2 : decode m_W_cell.2.1 2 = .ok (.arraylength, 1) := by decide +kernel
theorem d_W_cell_3 : decode m_W_cell.2.1 3 = .ok (.if_icmp .ge 9, 3) := by decide +kernel
theorem d_W_cell_6 : decode m_W_cell.2.1 6 = .ok (.aload_n 0, 1) := by decide +kernel
theorem d_W_cell_7 : decode m_W_cell.2.1 7 = .ok (.iload_n 1, 1) := by decide +kernel
theorem d_W_cell_8 : decode m_W_cell.2.1 8 = .ok (.iaload, 1) := by decide +kernel
theorem d_W_cell_9 : decode m_W_cell.2.1 9 = .ok (.goto 4, 3) := by decide +kernel
theorem d_W_cell_12 : decode m_W_cell.2.1 12 = .ok (.iconst 0, 1) := by decide +kernel
theorem d_W_cell_13 : decode m_W_cell.2.1 13 = .ok (.ireturn, 1) := by decide +kernel
theorem d_W_law_0 : decode m_W_law.2.1 0 = .ok (.new 7, 3) := by decide +kernel
theorem d_W_law_3 : decode m_W_law.2.1 3 = .ok (.dup, 1) := by decide +kernel
theorem d_W_law_4 : decode m_W_law.2.1 4 = .ok (.aload_n 0, 1) := by decide +kernel
theorem d_W_law_5 : decode m_W_law.2.1 5 = .ok (.iconst 0, 1) := by decide +kernel
theorem d_W_law_6 : decode m_W_law.2.1 6 = .ok (.invokestatic 9, 3) := by decide +kernel
theorem d_W_law_9 : decode m_W_law.2.1 9 = .ok (.invokespecial 15, 3) := by decide +kernel
theorem d_W_law_12 : decode m_W_law.2.1 12 = .ok (.astore_n 1, 1) := by decide +kernel
theorem d_W_law_13 : decode m_W_law.2.1 13 = .ok (.new 18, 3) := by decide +kernel
theorem d_W_law_16 : decode m_W_law.2.1 16 = .ok (.dup, 1) := by decide +kernel
theorem d_W_law_17 : decode m_W_law.2.1 17 = .ok (.aload_n 0, 1) := by decide +kernel
theorem d_W_law_18 : decode m_W_law.2.1 18 = .ok (.iconst 0, 1) := by decide +kernel
theorem d_W_law_19 : decode m_W_law.2.1 19 = .ok (.invokestatic 9, 3) := by decide +kernel
theorem d_W_law_22 : decode m_W_law.2.1 22 = .ok (.invokespecial 20, 3) := by decide +kernel
theorem d_W_law_25 : decode m_W_law.2.1 25 = .ok (.astore_n 2, 1) := by decide +kernel
theorem d_W_law_26 : decode m_W_law.2.1 26 = .ok (.iconst 1, 1) := by decide +kernel
theorem d_W_law_27 : decode m_W_law.2.1 27 = .ok (.istore_n 3, 1) := by decide +kernel
theorem d_W_law_28 : decode m_W_law.2.1 28 = .ok (.iload_n 3, 1) := by decide +kernel
theorem d_W_law_29 : decode m_W_law.2.1 29 = .ok (.aload_n 0, 1) := by decide +kernel
theorem d_W_law_30 : decode m_W_law.2.1 30 = .ok (.arraylength, 1) := by decide +kernel
theorem d_W_law_31 : decode m_W_law.2.1 31 = .ok (.iconst 5, 1) := by decide +kernel
theorem d_W_law_32 : decode m_W_law.2.1 32 = .ok (.isub, 1) := by decide +kernel
theorem d_W_law_33 : decode m_W_law.2.1 33 = .ok (.if_icmp .gt 385, 3) := by decide +kernel
theorem d_W_law_36 : decode m_W_law.2.1 36 = .ok (.aload_n 0, 1) := by decide +kernel
theorem d_W_law_37 : decode m_W_law.2.1 37 = .ok (.iload_n 3, 1) := by decide +kernel
theorem d_W_law_38 : decode m_W_law.2.1 38 = .ok (.iaload, 1) := by decide +kernel
theorem d_W_law_39 : decode m_W_law.2.1 39 = .ok (.bipush 15, 2) := by decide +kernel
theorem d_W_law_41 : decode m_W_law.2.1 41 = .ok (.iand, 1) := by decide +kernel
theorem d_W_law_42 : decode m_W_law.2.1 42 = .ok (.tableswitch 370 0 9 #[54, 107, 140, 173, 196, 235, 268, 291, 304, 337], 54) := by decide +kernel
theorem d_W_law_96 : decode m_W_law.2.1 96 = .ok (.aload_n 1, 1) := by decide +kernel
theorem d_W_law_97 : decode m_W_law.2.1 97 = .ok (.aload_n 0, 1) := by decide +kernel
theorem d_W_law_98 : decode m_W_law.2.1 98 = .ok (.iload_n 3, 1) := by decide +kernel
theorem d_W_law_99 : decode m_W_law.2.1 99 = .ok (.iconst 1, 1) := by decide +kernel
theorem d_W_law_100 : decode m_W_law.2.1 100 = .ok (.iadd, 1) := by decide +kernel
theorem d_W_law_101 : decode m_W_law.2.1 101 = .ok (.iaload, 1) := by decide +kernel
theorem d_W_law_102 : decode m_W_law.2.1 102 = .ok (.aload_n 0, 1) := by decide +kernel
theorem d_W_law_103 : decode m_W_law.2.1 103 = .ok (.iload_n 3, 1) := by decide +kernel
theorem d_W_law_104 : decode m_W_law.2.1 104 = .ok (.iconst 2, 1) := by decide +kernel
theorem d_W_law_105 : decode m_W_law.2.1 105 = .ok (.iadd, 1) := by decide +kernel
theorem d_W_law_106 : decode m_W_law.2.1 106 = .ok (.iaload, 1) := by decide +kernel
theorem d_W_law_107 : decode m_W_law.2.1 107 = .ok (.aload_n 0, 1) := by decide +kernel
theorem d_W_law_108 : decode m_W_law.2.1 108 = .ok (.iload_n 3, 1) := by decide +kernel
theorem d_W_law_109 : decode m_W_law.2.1 109 = .ok (.iconst 3, 1) := by decide +kernel
theorem d_W_law_110 : decode m_W_law.2.1 110 = .ok (.iadd, 1) := by decide +kernel
theorem d_W_law_111 : decode m_W_law.2.1 111 = .ok (.iaload, 1) := by decide +kernel
theorem d_W_law_112 : decode m_W_law.2.1 112 = .ok (.aload_n 0, 1) := by decide +kernel
theorem d_W_law_113 : decode m_W_law.2.1 113 = .ok (.iload_n 3, 1) := by decide +kernel
theorem d_W_law_114 : decode m_W_law.2.1 114 = .ok (.iconst 4, 1) := by decide +kernel
theorem d_W_law_115 : decode m_W_law.2.1 115 = .ok (.iadd, 1) := by decide +kernel
theorem d_W_law_116 : decode m_W_law.2.1 116 = .ok (.iaload, 1) := by decide +kernel
theorem d_W_law_117 : decode m_W_law.2.1 117 = .ok (.invokevirtual 21, 3) := by decide +kernel
theorem d_W_law_120 : decode m_W_law.2.1 120 = .ok (.aload_n 2, 1) := by decide +kernel
theorem d_W_law_121 : decode m_W_law.2.1 121 = .ok (.aload_n 0, 1) := by decide +kernel
theorem d_W_law_122 : decode m_W_law.2.1 122 = .ok (.iload_n 3, 1) := by decide +kernel
theorem d_W_law_123 : decode m_W_law.2.1 123 = .ok (.iconst 1, 1) := by decide +kernel
theorem d_W_law_124 : decode m_W_law.2.1 124 = .ok (.iadd, 1) := by decide +kernel
theorem d_W_law_125 : decode m_W_law.2.1 125 = .ok (.iaload, 1) := by decide +kernel
theorem d_W_law_126 : decode m_W_law.2.1 126 = .ok (.aload_n 0, 1) := by decide +kernel
theorem d_W_law_127 : decode m_W_law.2.1 127 = .ok (.iload_n 3, 1) := by decide +kernel
theorem d_W_law_128 : decode m_W_law.2.1 128 = .ok (.iconst 2, 1) := by decide +kernel
theorem d_W_law_129 : decode m_W_law.2.1 129 = .ok (.iadd, 1) := by decide +kernel
theorem d_W_law_130 : decode m_W_law.2.1 130 = .ok (.iaload, 1) := by decide +kernel
theorem d_W_law_131 : decode m_W_law.2.1 131 = .ok (.aload_n 0, 1) := by decide +kernel
theorem d_W_law_132 : decode m_W_law.2.1 132 = .ok (.iload_n 3, 1) := by decide +kernel
theorem d_W_law_133 : decode m_W_law.2.1 133 = .ok (.iconst 3, 1) := by decide +kernel
theorem d_W_law_134 : decode m_W_law.2.1 134 = .ok (.iadd, 1) := by decide +kernel
theorem d_W_law_135 : decode m_W_law.2.1 135 = .ok (.iaload, 1) := by decide +kernel
theorem d_W_law_136 : decode m_W_law.2.1 136 = .ok (.aload_n 0, 1) := by decide +kernel
theorem d_W_law_137 : decode m_W_law.2.1 137 = .ok (.iload_n 3, 1) := by decide +kernel
theorem d_W_law_138 : decode m_W_law.2.1 138 = .ok (.iconst 4, 1) := by decide +kernel
theorem d_W_law_139 : decode m_W_law.2.1 139 = .ok (.iadd, 1) := by decide +kernel
theorem d_W_law_140 : decode m_W_law.2.1 140 = .ok (.iaload, 1) := by decide +kernel
theorem d_W_law_141 : decode m_W_law.2.1 141 = .ok (.invokevirtual 25, 3) := by decide +kernel
theorem d_W_law_144 : decode m_W_law.2.1 144 = .ok (.if_icmp .eq 268, 3) := by decide +kernel
theorem d_W_law_147 : decode m_W_law.2.1 147 = .ok (.iconst 0, 1) := by decide +kernel
theorem d_W_law_148 : decode m_W_law.2.1 148 = .ok (.ireturn, 1) := by decide +kernel
theorem d_W_law_149 : decode m_W_law.2.1 149 = .ok (.aload_n 1, 1) := by decide +kernel
theorem d_W_law_150 : decode m_W_law.2.1 150 = .ok (.aload_n 0, 1) := by decide +kernel
theorem d_W_law_151 : decode m_W_law.2.1 151 = .ok (.iload_n 3, 1) := by decide +kernel
theorem d_W_law_152 : decode m_W_law.2.1 152 = .ok (.iconst 1, 1) := by decide +kernel
theorem d_W_law_153 : decode m_W_law.2.1 153 = .ok (.iadd, 1) := by decide +kernel
theorem d_W_law_154 : decode m_W_law.2.1 154 = .ok (.iaload, 1) := by decide +kernel
theorem d_W_law_155 : decode m_W_law.2.1 155 = .ok (.aload_n 0, 1) := by decide +kernel
theorem d_W_law_156 : decode m_W_law.2.1 156 = .ok (.iload_n 3, 1) := by decide +kernel
theorem d_W_law_157 : decode m_W_law.2.1 157 = .ok (.iconst 2, 1) := by decide +kernel
theorem d_W_law_158 : decode m_W_law.2.1 158 = .ok (.iadd, 1) := by decide +kernel
theorem d_W_law_159 : decode m_W_law.2.1 159 = .ok (.iaload, 1) := by decide +kernel
theorem d_W_law_160 : decode m_W_law.2.1 160 = .ok (.invokevirtual 26, 3) := by decide +kernel
theorem d_W_law_163 : decode m_W_law.2.1 163 = .ok (.aload_n 2, 1) := by decide +kernel
theorem d_W_law_164 : decode m_W_law.2.1 164 = .ok (.aload_n 0, 1) := by decide +kernel
theorem d_W_law_165 : decode m_W_law.2.1 165 = .ok (.iload_n 3, 1) := by decide +kernel
theorem d_W_law_166 : decode m_W_law.2.1 166 = .ok (.iconst 1, 1) := by decide +kernel
theorem d_W_law_167 : decode m_W_law.2.1 167 = .ok (.iadd, 1) := by decide +kernel
theorem d_W_law_168 : decode m_W_law.2.1 168 = .ok (.iaload, 1) := by decide +kernel
theorem d_W_law_169 : decode m_W_law.2.1 169 = .ok (.aload_n 0, 1) := by decide +kernel
theorem d_W_law_170 : decode m_W_law.2.1 170 = .ok (.iload_n 3, 1) := by decide +kernel
theorem d_W_law_171 : decode m_W_law.2.1 171 = .ok (.iconst 2, 1) := by decide +kernel
theorem d_W_law_172 : decode m_W_law.2.1 172 = .ok (.iadd, 1) := by decide +kernel
theorem d_W_law_173 : decode m_W_law.2.1 173 = .ok (.iaload, 1) := by decide +kernel
theorem d_W_law_174 : decode m_W_law.2.1 174 = .ok (.invokevirtual 30, 3) := by decide +kernel
theorem d_W_law_177 : decode m_W_law.2.1 177 = .ok (.if_icmp .eq 235, 3) := by decide +kernel
theorem d_W_law_180 : decode m_W_law.2.1 180 = .ok (.iconst 0, 1) := by decide +kernel
theorem d_W_law_181 : decode m_W_law.2.1 181 = .ok (.ireturn, 1) := by decide +kernel
theorem d_W_law_182 : decode m_W_law.2.1 182 = .ok (.aload_n 1, 1) := by decide +kernel
theorem d_W_law_183 : decode m_W_law.2.1 183 = .ok (.aload_n 0, 1) := by decide +kernel
theorem d_W_law_184 : decode m_W_law.2.1 184 = .ok (.iload_n 3, 1) := by decide +kernel
theorem d_W_law_185 : decode m_W_law.2.1 185 = .ok (.iconst 1, 1) := by decide +kernel
theorem d_W_law_186 : decode m_W_law.2.1 186 = .ok (.iadd, 1) := by decide +kernel
theorem d_W_law_187 : decode m_W_law.2.1 187 = .ok (.iaload, 1) := by decide +kernel
theorem d_W_law_188 : decode m_W_law.2.1 188 = .ok (.aload_n 0, 1) := by decide +kernel
theorem d_W_law_189 : decode m_W_law.2.1 189 = .ok (.iload_n 3, 1) := by decide +kernel
theorem d_W_law_190 : decode m_W_law.2.1 190 = .ok (.iconst 2, 1) := by decide +kernel
theorem d_W_law_191 : decode m_W_law.2.1 191 = .ok (.iadd, 1) := by decide +kernel
theorem d_W_law_192 : decode m_W_law.2.1 192 = .ok (.iaload, 1) := by decide +kernel
theorem d_W_law_193 : decode m_W_law.2.1 193 = .ok (.invokevirtual 31, 3) := by decide +kernel
theorem d_W_law_196 : decode m_W_law.2.1 196 = .ok (.aload_n 2, 1) := by decide +kernel
theorem d_W_law_197 : decode m_W_law.2.1 197 = .ok (.aload_n 0, 1) := by decide +kernel
theorem d_W_law_198 : decode m_W_law.2.1 198 = .ok (.iload_n 3, 1) := by decide +kernel
theorem d_W_law_199 : decode m_W_law.2.1 199 = .ok (.iconst 1, 1) := by decide +kernel
theorem d_W_law_200 : decode m_W_law.2.1 200 = .ok (.iadd, 1) := by decide +kernel
theorem d_W_law_201 : decode m_W_law.2.1 201 = .ok (.iaload, 1) := by decide +kernel
theorem d_W_law_202 : decode m_W_law.2.1 202 = .ok (.aload_n 0, 1) := by decide +kernel
theorem d_W_law_203 : decode m_W_law.2.1 203 = .ok (.iload_n 3, 1) := by decide +kernel
theorem d_W_law_204 : decode m_W_law.2.1 204 = .ok (.iconst 2, 1) := by decide +kernel
theorem d_W_law_205 : decode m_W_law.2.1 205 = .ok (.iadd, 1) := by decide +kernel
theorem d_W_law_206 : decode m_W_law.2.1 206 = .ok (.iaload, 1) := by decide +kernel
theorem d_W_law_207 : decode m_W_law.2.1 207 = .ok (.invokevirtual 35, 3) := by decide +kernel
theorem d_W_law_210 : decode m_W_law.2.1 210 = .ok (.if_icmp .eq 202, 3) := by decide +kernel
theorem d_W_law_213 : decode m_W_law.2.1 213 = .ok (.iconst 0, 1) := by decide +kernel
theorem d_W_law_214 : decode m_W_law.2.1 214 = .ok (.ireturn, 1) := by decide +kernel
theorem d_W_law_215 : decode m_W_law.2.1 215 = .ok (.aload_n 1, 1) := by decide +kernel
theorem d_W_law_216 : decode m_W_law.2.1 216 = .ok (.aload_n 0, 1) := by decide +kernel
theorem d_W_law_217 : decode m_W_law.2.1 217 = .ok (.iload_n 3, 1) := by decide +kernel
theorem d_W_law_218 : decode m_W_law.2.1 218 = .ok (.iconst 1, 1) := by decide +kernel
theorem d_W_law_219 : decode m_W_law.2.1 219 = .ok (.iadd, 1) := by decide +kernel
theorem d_W_law_220 : decode m_W_law.2.1 220 = .ok (.iaload, 1) := by decide +kernel
theorem d_W_law_221 : decode m_W_law.2.1 221 = .ok (.invokevirtual 36, 3) := by decide +kernel
theorem d_W_law_224 : decode m_W_law.2.1 224 = .ok (.aload_n 2, 1) := by decide +kernel
theorem d_W_law_225 : decode m_W_law.2.1 225 = .ok (.aload_n 0, 1) := by decide +kernel
theorem d_W_law_226 : decode m_W_law.2.1 226 = .ok (.iload_n 3, 1) := by decide +kernel
theorem d_W_law_227 : decode m_W_law.2.1 227 = .ok (.iconst 1, 1) := by decide +kernel
theorem d_W_law_228 : decode m_W_law.2.1 228 = .ok (.iadd, 1) := by decide +kernel
theorem d_W_law_229 : decode m_W_law.2.1 229 = .ok (.iaload, 1) := by decide +kernel
theorem d_W_law_230 : decode m_W_law.2.1 230 = .ok (.invokevirtual 40, 3) := by decide +kernel
theorem d_W_law_233 : decode m_W_law.2.1 233 = .ok (.if_icmp .eq 179, 3) := by decide +kernel
theorem d_W_law_236 : decode m_W_law.2.1 236 = .ok (.iconst 0, 1) := by decide +kernel
theorem d_W_law_237 : decode m_W_law.2.1 237 = .ok (.ireturn, 1) := by decide +kernel
theorem d_W_law_238 : decode m_W_law.2.1 238 = .ok (.aload_n 1, 1) := by decide +kernel
theorem d_W_law_239 : decode m_W_law.2.1 239 = .ok (.aload_n 0, 1) := by decide +kernel
theorem d_W_law_240 : decode m_W_law.2.1 240 = .ok (.iload_n 3, 1) := by decide +kernel
theorem d_W_law_241 : decode m_W_law.2.1 241 = .ok (.iconst 1, 1) := by decide +kernel
theorem d_W_law_242 : decode m_W_law.2.1 242 = .ok (.iadd, 1) := by decide +kernel
theorem d_W_law_243 : decode m_W_law.2.1 243 = .ok (.iaload, 1) := by decide +kernel
theorem d_W_law_244 : decode m_W_law.2.1 244 = .ok (.ifCond .eq 7, 3) := by decide +kernel
theorem d_W_law_247 : decode m_W_law.2.1 247 = .ok (.iconst 1, 1) := by decide +kernel
theorem d_W_law_248 : decode m_W_law.2.1 248 = .ok (.goto 4, 3) := by decide +kernel
theorem d_W_law_251 : decode m_W_law.2.1 251 = .ok (.iconst 0, 1) := by decide +kernel
theorem d_W_law_252 : decode m_W_law.2.1 252 = .ok (.invokevirtual 41, 3) := by decide +kernel
theorem d_W_law_255 : decode m_W_law.2.1 255 = .ok (.aload_n 2, 1) := by decide +kernel
theorem d_W_law_256 : decode m_W_law.2.1 256 = .ok (.aload_n 0, 1) := by decide +kernel
theorem d_W_law_257 : decode m_W_law.2.1 257 = .ok (.iload_n 3, 1) := by decide +kernel
theorem d_W_law_258 : decode m_W_law.2.1 258 = .ok (.iconst 1, 1) := by decide +kernel
theorem d_W_law_259 : decode m_W_law.2.1 259 = .ok (.iadd, 1) := by decide +kernel
theorem d_W_law_260 : decode m_W_law.2.1 260 = .ok (.iaload, 1) := by decide +kernel
theorem d_W_law_261 : decode m_W_law.2.1 261 = .ok (.ifCond .eq 7, 3) := by decide +kernel
theorem d_W_law_264 : decode m_W_law.2.1 264 = .ok (.iconst 1, 1) := by decide +kernel
theorem d_W_law_265 : decode m_W_law.2.1 265 = .ok (.goto 4, 3) := by decide +kernel
theorem d_W_law_268 : decode m_W_law.2.1 268 = .ok (.iconst 0, 1) := by decide +kernel
theorem d_W_law_269 : decode m_W_law.2.1 269 = .ok (.invokevirtual 45, 3) := by decide +kernel
theorem d_W_law_272 : decode m_W_law.2.1 272 = .ok (.if_icmp .eq 140, 3) := by decide +kernel
theorem d_W_law_275 : decode m_W_law.2.1 275 = .ok (.iconst 0, 1) := by decide +kernel
theorem d_W_law_276 : decode m_W_law.2.1 276 = .ok (.ireturn, 1) := by decide +kernel
theorem d_W_law_277 : decode m_W_law.2.1 277 = .ok (.aload_n 1, 1) := by decide +kernel
theorem d_W_law_278 : decode m_W_law.2.1 278 = .ok (.aload_n 0, 1) := by decide +kernel
theorem d_W_law_279 : decode m_W_law.2.1 279 = .ok (.iload_n 3, 1) := by decide +kernel
theorem d_W_law_280 : decode m_W_law.2.1 280 = .ok (.iconst 1, 1) := by decide +kernel
theorem d_W_law_281 : decode m_W_law.2.1 281 = .ok (.iadd, 1) := by decide +kernel
theorem d_W_law_282 : decode m_W_law.2.1 282 = .ok (.iaload, 1) := by decide +kernel
theorem d_W_law_283 : decode m_W_law.2.1 283 = .ok (.aload_n 0, 1) := by decide +kernel
theorem d_W_law_284 : decode m_W_law.2.1 284 = .ok (.iload_n 3, 1) := by decide +kernel
theorem d_W_law_285 : decode m_W_law.2.1 285 = .ok (.iconst 2, 1) := by decide +kernel
theorem d_W_law_286 : decode m_W_law.2.1 286 = .ok (.iadd, 1) := by decide +kernel
theorem d_W_law_287 : decode m_W_law.2.1 287 = .ok (.iaload, 1) := by decide +kernel
theorem d_W_law_288 : decode m_W_law.2.1 288 = .ok (.invokevirtual 46, 3) := by decide +kernel
theorem d_W_law_291 : decode m_W_law.2.1 291 = .ok (.aload_n 2, 1) := by decide +kernel
theorem d_W_law_292 : decode m_W_law.2.1 292 = .ok (.aload_n 0, 1) := by decide +kernel
theorem d_W_law_293 : decode m_W_law.2.1 293 = .ok (.iload_n 3, 1) := by decide +kernel
theorem d_W_law_294 : decode m_W_law.2.1 294 = .ok (.iconst 1, 1) := by decide +kernel
theorem d_W_law_295 : decode m_W_law.2.1 295 = .ok (.iadd, 1) := by decide +kernel
theorem d_W_law_296 : decode m_W_law.2.1 296 = .ok (.iaload, 1) := by decide +kernel
theorem d_W_law_297 : decode m_W_law.2.1 297 = .ok (.aload_n 0, 1) := by decide +kernel
theorem d_W_law_298 : decode m_W_law.2.1 298 = .ok (.iload_n 3, 1) := by decide +kernel
theorem d_W_law_299 : decode m_W_law.2.1 299 = .ok (.iconst 2, 1) := by decide +kernel
theorem d_W_law_300 : decode m_W_law.2.1 300 = .ok (.iadd, 1) := by decide +kernel
theorem d_W_law_301 : decode m_W_law.2.1 301 = .ok (.iaload, 1) := by decide +kernel
theorem d_W_law_302 : decode m_W_law.2.1 302 = .ok (.invokevirtual 49, 3) := by decide +kernel
theorem d_W_law_305 : decode m_W_law.2.1 305 = .ok (.if_icmp .eq 107, 3) := by decide +kernel
theorem d_W_law_308 : decode m_W_law.2.1 308 = .ok (.iconst 0, 1) := by decide +kernel
theorem d_W_law_309 : decode m_W_law.2.1 309 = .ok (.ireturn, 1) := by decide +kernel
theorem d_W_law_310 : decode m_W_law.2.1 310 = .ok (.aload_n 1, 1) := by decide +kernel
theorem d_W_law_311 : decode m_W_law.2.1 311 = .ok (.aload_n 0, 1) := by decide +kernel
theorem d_W_law_312 : decode m_W_law.2.1 312 = .ok (.iload_n 3, 1) := by decide +kernel
theorem d_W_law_313 : decode m_W_law.2.1 313 = .ok (.iconst 1, 1) := by decide +kernel
theorem d_W_law_314 : decode m_W_law.2.1 314 = .ok (.iadd, 1) := by decide +kernel
theorem d_W_law_315 : decode m_W_law.2.1 315 = .ok (.iaload, 1) := by decide +kernel
theorem d_W_law_316 : decode m_W_law.2.1 316 = .ok (.invokevirtual 50, 3) := by decide +kernel
theorem d_W_law_319 : decode m_W_law.2.1 319 = .ok (.aload_n 2, 1) := by decide +kernel
theorem d_W_law_320 : decode m_W_law.2.1 320 = .ok (.aload_n 0, 1) := by decide +kernel
theorem d_W_law_321 : decode m_W_law.2.1 321 = .ok (.iload_n 3, 1) := by decide +kernel
theorem d_W_law_322 : decode m_W_law.2.1 322 = .ok (.iconst 1, 1) := by decide +kernel
theorem d_W_law_323 : decode m_W_law.2.1 323 = .ok (.iadd, 1) := by decide +kernel
theorem d_W_law_324 : decode m_W_law.2.1 324 = .ok (.iaload, 1) := by decide +kernel
theorem d_W_law_325 : decode m_W_law.2.1 325 = .ok (.invokevirtual 53, 3) := by decide +kernel
theorem d_W_law_328 : decode m_W_law.2.1 328 = .ok (.if_icmp .eq 84, 3) := by decide +kernel
theorem d_W_law_331 : decode m_W_law.2.1 331 = .ok (.iconst 0, 1) := by decide +kernel
theorem d_W_law_332 : decode m_W_law.2.1 332 = .ok (.ireturn, 1) := by decide +kernel
theorem d_W_law_333 : decode m_W_law.2.1 333 = .ok (.aload_n 1, 1) := by decide +kernel
theorem d_W_law_334 : decode m_W_law.2.1 334 = .ok (.invokevirtual 54, 3) := by decide +kernel
theorem d_W_law_337 : decode m_W_law.2.1 337 = .ok (.aload_n 2, 1) := by decide +kernel
theorem d_W_law_338 : decode m_W_law.2.1 338 = .ok (.invokevirtual 58, 3) := by decide +kernel
theorem d_W_law_341 : decode m_W_law.2.1 341 = .ok (.if_icmp .eq 71, 3) := by decide +kernel
theorem d_W_law_344 : decode m_W_law.2.1 344 = .ok (.iconst 0, 1) := by decide +kernel
theorem d_W_law_345 : decode m_W_law.2.1 345 = .ok (.ireturn, 1) := by decide +kernel
theorem d_W_law_346 : decode m_W_law.2.1 346 = .ok (.aload_n 1, 1) := by decide +kernel
theorem d_W_law_347 : decode m_W_law.2.1 347 = .ok (.aload_n 0, 1) := by decide +kernel
theorem d_W_law_348 : decode m_W_law.2.1 348 = .ok (.iload_n 3, 1) := by decide +kernel
theorem d_W_law_349 : decode m_W_law.2.1 349 = .ok (.iconst 1, 1) := by decide +kernel
theorem d_W_law_350 : decode m_W_law.2.1 350 = .ok (.iadd, 1) := by decide +kernel
theorem d_W_law_351 : decode m_W_law.2.1 351 = .ok (.iaload, 1) := by decide +kernel
theorem d_W_law_352 : decode m_W_law.2.1 352 = .ok (.aload_n 0, 1) := by decide +kernel
theorem d_W_law_353 : decode m_W_law.2.1 353 = .ok (.iload_n 3, 1) := by decide +kernel
theorem d_W_law_354 : decode m_W_law.2.1 354 = .ok (.iconst 2, 1) := by decide +kernel
theorem d_W_law_355 : decode m_W_law.2.1 355 = .ok (.iadd, 1) := by decide +kernel
theorem d_W_law_356 : decode m_W_law.2.1 356 = .ok (.iaload, 1) := by decide +kernel
theorem d_W_law_357 : decode m_W_law.2.1 357 = .ok (.invokevirtual 59, 3) := by decide +kernel
theorem d_W_law_360 : decode m_W_law.2.1 360 = .ok (.aload_n 2, 1) := by decide +kernel
theorem d_W_law_361 : decode m_W_law.2.1 361 = .ok (.aload_n 0, 1) := by decide +kernel
theorem d_W_law_362 : decode m_W_law.2.1 362 = .ok (.iload_n 3, 1) := by decide +kernel
theorem d_W_law_363 : decode m_W_law.2.1 363 = .ok (.iconst 1, 1) := by decide +kernel
theorem d_W_law_364 : decode m_W_law.2.1 364 = .ok (.iadd, 1) := by decide +kernel
theorem d_W_law_365 : decode m_W_law.2.1 365 = .ok (.iaload, 1) := by decide +kernel
theorem d_W_law_366 : decode m_W_law.2.1 366 = .ok (.aload_n 0, 1) := by decide +kernel
theorem d_W_law_367 : decode m_W_law.2.1 367 = .ok (.iload_n 3, 1) := by decide +kernel
theorem d_W_law_368 : decode m_W_law.2.1 368 = .ok (.iconst 2, 1) := by decide +kernel
theorem d_W_law_369 : decode m_W_law.2.1 369 = .ok (.iadd, 1) := by decide +kernel
theorem d_W_law_370 : decode m_W_law.2.1 370 = .ok (.iaload, 1) := by decide +kernel
theorem d_W_law_371 : decode m_W_law.2.1 371 = .ok (.invokevirtual 62, 3) := by decide +kernel
theorem d_W_law_374 : decode m_W_law.2.1 374 = .ok (.if_icmp .eq 38, 3) := by decide +kernel
theorem d_W_law_377 : decode m_W_law.2.1 377 = .ok (.iconst 0, 1) := by decide +kernel
theorem d_W_law_378 : decode m_W_law.2.1 378 = .ok (.ireturn, 1) := by decide +kernel
theorem d_W_law_379 : decode m_W_law.2.1 379 = .ok (.aload_n 1, 1) := by decide +kernel
theorem d_W_law_380 : decode m_W_law.2.1 380 = .ok (.aload_n 0, 1) := by decide +kernel
theorem d_W_law_381 : decode m_W_law.2.1 381 = .ok (.iload_n 3, 1) := by decide +kernel
theorem d_W_law_382 : decode m_W_law.2.1 382 = .ok (.iconst 1, 1) := by decide +kernel
theorem d_W_law_383 : decode m_W_law.2.1 383 = .ok (.iadd, 1) := by decide +kernel
theorem d_W_law_384 : decode m_W_law.2.1 384 = .ok (.iaload, 1) := by decide +kernel
theorem d_W_law_385 : decode m_W_law.2.1 385 = .ok (.aload_n 0, 1) := by decide +kernel
theorem d_W_law_386 : decode m_W_law.2.1 386 = .ok (.iload_n 3, 1) := by decide +kernel
theorem d_W_law_387 : decode m_W_law.2.1 387 = .ok (.iconst 2, 1) := by decide +kernel
theorem d_W_law_388 : decode m_W_law.2.1 388 = .ok (.iadd, 1) := by decide +kernel
theorem d_W_law_389 : decode m_W_law.2.1 389 = .ok (.iaload, 1) := by decide +kernel
theorem d_W_law_390 : decode m_W_law.2.1 390 = .ok (.invokevirtual 63, 3) := by decide +kernel
theorem d_W_law_393 : decode m_W_law.2.1 393 = .ok (.aload_n 2, 1) := by decide +kernel
theorem d_W_law_394 : decode m_W_law.2.1 394 = .ok (.aload_n 0, 1) := by decide +kernel
theorem d_W_law_395 : decode m_W_law.2.1 395 = .ok (.iload_n 3, 1) := by decide +kernel
theorem d_W_law_396 : decode m_W_law.2.1 396 = .ok (.iconst 1, 1) := by decide +kernel
theorem d_W_law_397 : decode m_W_law.2.1 397 = .ok (.iadd, 1) := by decide +kernel
theorem d_W_law_398 : decode m_W_law.2.1 398 = .ok (.iaload, 1) := by decide +kernel
theorem d_W_law_399 : decode m_W_law.2.1 399 = .ok (.aload_n 0, 1) := by decide +kernel
theorem d_W_law_400 : decode m_W_law.2.1 400 = .ok (.iload_n 3, 1) := by decide +kernel
theorem d_W_law_401 : decode m_W_law.2.1 401 = .ok (.iconst 2, 1) := by decide +kernel
theorem d_W_law_402 : decode m_W_law.2.1 402 = .ok (.iadd, 1) := by decide +kernel
theorem d_W_law_403 : decode m_W_law.2.1 403 = .ok (.iaload, 1) := by decide +kernel
theorem d_W_law_404 : decode m_W_law.2.1 404 = .ok (.invokevirtual 66, 3) := by decide +kernel
theorem d_W_law_407 : decode m_W_law.2.1 407 = .ok (.if_icmp .eq 5, 3) := by decide +kernel
theorem d_W_law_410 : decode m_W_law.2.1 410 = .ok (.iconst 0, 1) := by decide +kernel
theorem d_W_law_411 : decode m_W_law.2.1 411 = .ok (.ireturn, 1) := by decide +kernel
theorem d_W_law_412 : decode m_W_law.2.1 412 = .ok (.iinc 3 5, 3) := by decide +kernel
theorem d_W_law_415 : decode m_W_law.2.1 415 = .ok (.goto (-387), 3) := by decide +kernel
theorem d_W_law_418 : decode m_W_law.2.1 418 = .ok (.iconst 1, 1) := by decide +kernel
theorem d_W_law_419 : decode m_W_law.2.1 419 = .ok (.ireturn, 1) := by decide +kernel
theorem d_J_floorMod_0 : decode m_J_floorMod.2.1 0 = .ok (.iload_n 0, 1) := by decide +kernel
theorem d_J_floorMod_1 : decode m_J_floorMod.2.1 1 = .ok (.iload_n 1, 1) := by decide +kernel
theorem d_J_floorMod_2 : decode m_J_floorMod.2.1 2 = .ok (.irem, 1) := by decide +kernel
theorem d_J_floorMod_3 : decode m_J_floorMod.2.1 3 = .ok (.istore_n 2, 1) := by decide +kernel
theorem d_J_floorMod_4 : decode m_J_floorMod.2.1 4 = .ok (.iload_n 0, 1) := by decide +kernel
theorem d_J_floorMod_5 : decode m_J_floorMod.2.1 5 = .ok (.iload_n 1, 1) := by decide +kernel
theorem d_J_floorMod_6 : decode m_J_floorMod.2.1 6 = .ok (.ixor, 1) := by decide +kernel
theorem d_J_floorMod_7 : decode m_J_floorMod.2.1 7 = .ok (.ifCond .ge 11, 3) := by decide +kernel
theorem d_J_floorMod_10 : decode m_J_floorMod.2.1 10 = .ok (.iload_n 2, 1) := by decide +kernel
theorem d_J_floorMod_11 : decode m_J_floorMod.2.1 11 = .ok (.ifCond .eq 7, 3) := by decide +kernel
theorem d_J_floorMod_14 : decode m_J_floorMod.2.1 14 = .ok (.iload_n 2, 1) := by decide +kernel
theorem d_J_floorMod_15 : decode m_J_floorMod.2.1 15 = .ok (.iload_n 1, 1) := by decide +kernel
theorem d_J_floorMod_16 : decode m_J_floorMod.2.1 16 = .ok (.iadd, 1) := by decide +kernel
theorem d_J_floorMod_17 : decode m_J_floorMod.2.1 17 = .ok (.ireturn, 1) := by decide +kernel
theorem d_J_floorMod_18 : decode m_J_floorMod.2.1 18 = .ok (.iload_n 2, 1) := by decide +kernel
theorem d_J_floorMod_19 : decode m_J_floorMod.2.1 19 = .ok (.ireturn, 1) := by decide +kernel
