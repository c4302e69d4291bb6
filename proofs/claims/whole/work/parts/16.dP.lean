theorem d_P_gate_0 : decode b_P_gate 0 = .ok (.iload_n 1, 1) := by decide +kernel
theorem d_P_gate_1 : decode b_P_gate 1 = .ok (.ifCond .eq 35, 3) := by decide +kernel
theorem d_P_gate_4 : decode b_P_gate 4 = .ok (.aload_n 0, 1) := by decide +kernel
theorem d_P_gate_5 : decode b_P_gate 5 = .ok (.getfield 10, 3) := by decide +kernel
theorem d_P_gate_8 : decode b_P_gate 8 = .ok (.iload_n 2, 1) := by decide +kernel
theorem d_P_gate_9 : decode b_P_gate 9 = .ok (.invokevirtual 39, 3) := by decide +kernel
theorem d_P_gate_12 : decode b_P_gate 12 = .ok (.ifCond .eq 14, 3) := by decide +kernel
theorem d_P_gate_15 : decode b_P_gate 15 = .ok (.aload_n 0, 1) := by decide +kernel
theorem d_P_gate_16 : decode b_P_gate 16 = .ok (.getfield 10, 3) := by decide +kernel
theorem d_P_gate_19 : decode b_P_gate 19 = .ok (.iload_n 3, 1) := by decide +kernel
theorem d_P_gate_20 : decode b_P_gate 20 = .ok (.invokevirtual 39, 3) := by decide +kernel
theorem d_P_gate_23 : decode b_P_gate 23 = .ok (.ifCond .ne 13, 3) := by decide +kernel
theorem d_P_gate_26 : decode b_P_gate 26 = .ok (.new 43, 3) := by decide +kernel
theorem d_P_gate_29 : decode b_P_gate 29 = .ok (.dup, 1) := by decide +kernel
theorem d_P_gate_30 : decode b_P_gate 30 = .ok (.ldc 45, 2) := by decide +kernel
theorem d_P_gate_32 : decode b_P_gate 32 = .ok (.invokespecial 47, 3) := by decide +kernel
theorem d_P_gate_35 : decode b_P_gate 35 = .ok (.athrow, 1) := by decide +kernel
theorem d_P_gate_36 : decode b_P_gate 36 = .ok (.iload_n 1, 1) := by decide +kernel
theorem d_P_gate_37 : decode b_P_gate 37 = .ok (.ifCond .eq 23, 3) := by decide +kernel
theorem d_P_gate_40 : decode b_P_gate 40 = .ok (.iload_n 1, 1) := by decide +kernel
theorem d_P_gate_41 : decode b_P_gate 41 = .ok (.iconst 1, 1) := by decide +kernel
theorem d_P_gate_42 : decode b_P_gate 42 = .ok (.if_icmp .eq 18, 3) := by decide +kernel
theorem d_P_gate_45 : decode b_P_gate 45 = .ok (.iload_n 1, 1) := by decide +kernel
theorem d_P_gate_46 : decode b_P_gate 46 = .ok (.iconst 2, 1) := by decide +kernel
theorem d_P_gate_47 : decode b_P_gate 47 = .ok (.if_icmp .eq 13, 3) := by decide +kernel
theorem d_P_gate_50 : decode b_P_gate 50 = .ok (.new 50, 3) := by decide +kernel
theorem d_P_gate_53 : decode b_P_gate 53 = .ok (.dup, 1) := by decide +kernel
theorem d_P_gate_54 : decode b_P_gate 54 = .ok (.ldc 52, 2) := by decide +kernel
theorem d_P_gate_56 : decode b_P_gate 56 = .ok (.invokespecial 54, 3) := by decide +kernel
theorem d_P_gate_59 : decode b_P_gate 59 = .ok (.athrow, 1) := by decide +kernel
theorem d_P_gate_60 : decode b_P_gate 60 = .ok (.aload_n 0, 1) := by decide +kernel
theorem d_P_gate_61 : decode b_P_gate 61 = .ok (.getfield 10, 3) := by decide +kernel
theorem d_P_gate_64 : decode b_P_gate 64 = .ok (.getfield 55, 3) := by decide +kernel
theorem d_P_gate_67 : decode b_P_gate 67 = .ok (.bipush 40, 2) := by decide +kernel
theorem d_P_gate_69 : decode b_P_gate 69 = .ok (.if_icmp .lt 13, 3) := by decide +kernel
theorem d_P_gate_72 : decode b_P_gate 72 = .ok (.new 59, 3) := by decide +kernel
theorem d_P_gate_75 : decode b_P_gate 75 = .ok (.dup, 1) := by decide +kernel
theorem d_P_gate_76 : decode b_P_gate 76 = .ok (.ldc 61, 2) := by decide +kernel
theorem d_P_gate_78 : decode b_P_gate 78 = .ok (.invokespecial 63, 3) := by decide +kernel
theorem d_P_gate_81 : decode b_P_gate 81 = .ok (.athrow, 1) := by decide +kernel
theorem d_P_gate_82 : decode b_P_gate 82 = .ok (.aload_n 0, 1) := by decide +kernel
theorem d_P_gate_83 : decode b_P_gate 83 = .ok (.getfield 10, 3) := by decide +kernel
theorem d_P_gate_86 : decode b_P_gate 86 = .ok (.iload_n 1, 1) := by decide +kernel
theorem d_P_gate_87 : decode b_P_gate 87 = .ok (.iload_n 2, 1) := by decide +kernel
theorem d_P_gate_88 : decode b_P_gate 88 = .ok (.iload_n 3, 1) := by decide +kernel
theorem d_P_gate_89 : decode b_P_gate 89 = .ok (.invokevirtual 64, 3) := by decide +kernel
theorem d_P_gate_92 : decode b_P_gate 92 = .ok (.ireturn, 1) := by decide +kernel
theorem d_P_line_0 : decode b_P_line 0 = .ok (.aload_n 0, 1) := by decide +kernel
theorem d_P_line_1 : decode b_P_line 1 = .ok (.getfield 19, 3) := by decide +kernel
theorem d_P_line_4 : decode b_P_line 4 = .ok (.invokevirtual 68, 3) := by decide +kernel
theorem d_P_line_7 : decode b_P_line 7 = .ok (.ifCond .eq 13, 3) := by decide +kernel
theorem d_P_line_10 : decode b_P_line 10 = .ok (.new 59, 3) := by decide +kernel
theorem d_P_line_13 : decode b_P_line 13 = .ok (.dup, 1) := by decide +kernel
theorem d_P_line_14 : decode b_P_line 14 = .ok (.ldc 72, 2) := by decide +kernel
theorem d_P_line_16 : decode b_P_line 16 = .ok (.invokespecial 63, 3) := by decide +kernel
theorem d_P_line_19 : decode b_P_line 19 = .ok (.athrow, 1) := by decide +kernel
theorem d_P_line_20 : decode b_P_line 20 = .ok (.aload_n 0, 1) := by decide +kernel
theorem d_P_line_21 : decode b_P_line 21 = .ok (.getfield 19, 3) := by decide +kernel
theorem d_P_line_24 : decode b_P_line 24 = .ok (.iconst 0, 1) := by decide +kernel
theorem d_P_line_25 : decode b_P_line 25 = .ok (.invokevirtual 74, 3) := by decide +kernel
theorem d_P_line_28 : decode b_P_line 28 = .ok (.ireturn, 1) := by decide +kernel
theorem d_P_literal_0 : decode b_P_literal 0 = .ok (.aload_n 0, 1) := by decide +kernel
theorem d_P_literal_1 : decode b_P_literal 1 = .ok (.getfield 19, 3) := by decide +kernel
theorem d_P_literal_4 : decode b_P_literal 4 = .ok (.iload_n 1, 1) := by decide +kernel
theorem d_P_literal_5 : decode b_P_literal 5 = .ok (.invokevirtual 77, 3) := by decide +kernel
theorem d_P_literal_8 : decode b_P_literal 8 = .ok (.ifCond .eq 14, 3) := by decide +kernel
theorem d_P_literal_11 : decode b_P_literal 11 = .ok (.aload_n 0, 1) := by decide +kernel
theorem d_P_literal_12 : decode b_P_literal 12 = .ok (.getfield 10, 3) := by decide +kernel
theorem d_P_literal_15 : decode b_P_literal 15 = .ok (.iload_n 2, 1) := by decide +kernel
theorem d_P_literal_16 : decode b_P_literal 16 = .ok (.invokevirtual 39, 3) := by decide +kernel
theorem d_P_literal_19 : decode b_P_literal 19 = .ok (.ifCond .ne 13, 3) := by decide +kernel
theorem d_P_literal_22 : decode b_P_literal 22 = .ok (.new 43, 3) := by decide +kernel
theorem d_P_literal_25 : decode b_P_literal 25 = .ok (.dup, 1) := by decide +kernel
theorem d_P_literal_26 : decode b_P_literal 26 = .ok (.ldc 80, 2) := by decide +kernel
theorem d_P_literal_28 : decode b_P_literal 28 = .ok (.invokespecial 47, 3) := by decide +kernel
theorem d_P_literal_31 : decode b_P_literal 31 = .ok (.athrow, 1) := by decide +kernel
theorem d_P_literal_32 : decode b_P_literal 32 = .ok (.aload_n 0, 1) := by decide +kernel
theorem d_P_literal_33 : decode b_P_literal 33 = .ok (.getfield 19, 3) := by decide +kernel
theorem d_P_literal_36 : decode b_P_literal 36 = .ok (.getfield 82, 3) := by decide +kernel
theorem d_P_literal_39 : decode b_P_literal 39 = .ok (.iload_n 1, 1) := by decide +kernel
theorem d_P_literal_40 : decode b_P_literal 40 = .ok (.iaload, 1) := by decide +kernel
theorem d_P_literal_41 : decode b_P_literal 41 = .ok (.iconst 1, 1) := by decide +kernel
theorem d_P_literal_42 : decode b_P_literal 42 = .ok (.if_icmp .ne 13, 3) := by decide +kernel
theorem d_P_literal_45 : decode b_P_literal 45 = .ok (.new 50, 3) := by decide +kernel
theorem d_P_literal_48 : decode b_P_literal 48 = .ok (.dup, 1) := by decide +kernel
theorem d_P_literal_49 : decode b_P_literal 49 = .ok (.ldc 86, 2) := by decide +kernel
theorem d_P_literal_51 : decode b_P_literal 51 = .ok (.invokespecial 54, 3) := by decide +kernel
theorem d_P_literal_54 : decode b_P_literal 54 = .ok (.athrow, 1) := by decide +kernel
theorem d_P_literal_55 : decode b_P_literal 55 = .ok (.aload_n 0, 1) := by decide +kernel
theorem d_P_literal_56 : decode b_P_literal 56 = .ok (.getfield 19, 3) := by decide +kernel
theorem d_P_literal_59 : decode b_P_literal 59 = .ok (.iload_n 1, 1) := by decide +kernel
theorem d_P_literal_60 : decode b_P_literal 60 = .ok (.iload_n 2, 1) := by decide +kernel
theorem d_P_literal_61 : decode b_P_literal 61 = .ok (.invokevirtual 88, 3) := by decide +kernel
theorem d_P_literal_64 : decode b_P_literal 64 = .ok (.ifCond .eq 5, 3) := by decide +kernel
theorem d_P_literal_67 : decode b_P_literal 67 = .ok (.iconst 0, 1) := by decide +kernel
theorem d_P_literal_68 : decode b_P_literal 68 = .ok (.ireturn, 1) := by decide +kernel
theorem d_P_literal_69 : decode b_P_literal 69 = .ok (.aload_n 0, 1) := by decide +kernel
theorem d_P_literal_70 : decode b_P_literal 70 = .ok (.getfield 19, 3) := by decide +kernel
theorem d_P_literal_73 : decode b_P_literal 73 = .ok (.iload_n 1, 1) := by decide +kernel
theorem d_P_literal_74 : decode b_P_literal 74 = .ok (.invokevirtual 92, 3) := by decide +kernel
theorem d_P_literal_77 : decode b_P_literal 77 = .ok (.ifCond .eq 13, 3) := by decide +kernel
theorem d_P_literal_80 : decode b_P_literal 80 = .ok (.new 59, 3) := by decide +kernel
theorem d_P_literal_83 : decode b_P_literal 83 = .ok (.dup, 1) := by decide +kernel
theorem d_P_literal_84 : decode b_P_literal 84 = .ok (.ldc 95, 2) := by decide +kernel
theorem d_P_literal_86 : decode b_P_literal 86 = .ok (.invokespecial 63, 3) := by decide +kernel
theorem d_P_literal_89 : decode b_P_literal 89 = .ok (.athrow, 1) := by decide +kernel
theorem d_P_literal_90 : decode b_P_literal 90 = .ok (.aload_n 0, 1) := by decide +kernel
theorem d_P_literal_91 : decode b_P_literal 91 = .ok (.getfield 19, 3) := by decide +kernel
theorem d_P_literal_94 : decode b_P_literal 94 = .ok (.iload_n 1, 1) := by decide +kernel
theorem d_P_literal_95 : decode b_P_literal 95 = .ok (.iload_n 2, 1) := by decide +kernel
theorem d_P_literal_96 : decode b_P_literal 96 = .ok (.invokevirtual 97, 3) := by decide +kernel
theorem d_P_literal_99 : decode b_P_literal 99 = .ok (.iconst 1, 1) := by decide +kernel
theorem d_P_literal_100 : decode b_P_literal 100 = .ok (.ireturn, 1) := by decide +kernel
theorem d_P_equalLine_0 : decode b_P_equalLine 0 = .ok (.aload_n 0, 1) := by decide +kernel
theorem d_P_equalLine_1 : decode b_P_equalLine 1 = .ok (.getfield 10, 3) := by decide +kernel
theorem d_P_equalLine_4 : decode b_P_equalLine 4 = .ok (.iload_n 1, 1) := by decide +kernel
theorem d_P_equalLine_5 : decode b_P_equalLine 5 = .ok (.invokevirtual 39, 3) := by decide +kernel
theorem d_P_equalLine_8 : decode b_P_equalLine 8 = .ok (.ifCond .eq 14, 3) := by decide +kernel
theorem d_P_equalLine_11 : decode b_P_equalLine 11 = .ok (.aload_n 0, 1) := by decide +kernel
theorem d_P_equalLine_12 : decode b_P_equalLine 12 = .ok (.getfield 10, 3) := by decide +kernel
theorem d_P_equalLine_15 : decode b_P_equalLine 15 = .ok (.iload_n 2, 1) := by decide +kernel
theorem d_P_equalLine_16 : decode b_P_equalLine 16 = .ok (.invokevirtual 39, 3) := by decide +kernel
theorem d_P_equalLine_19 : decode b_P_equalLine 19 = .ok (.ifCond .ne 13, 3) := by decide +kernel
theorem d_P_equalLine_22 : decode b_P_equalLine 22 = .ok (.new 43, 3) := by decide +kernel
theorem d_P_equalLine_25 : decode b_P_equalLine 25 = .ok (.dup, 1) := by decide +kernel
theorem d_P_equalLine_26 : decode b_P_equalLine 26 = .ok (.ldc 45, 2) := by decide +kernel
theorem d_P_equalLine_28 : decode b_P_equalLine 28 = .ok (.invokespecial 47, 3) := by decide +kernel
theorem d_P_equalLine_31 : decode b_P_equalLine 31 = .ok (.athrow, 1) := by decide +kernel
theorem d_P_equalLine_32 : decode b_P_equalLine 32 = .ok (.aload_n 0, 1) := by decide +kernel
theorem d_P_equalLine_33 : decode b_P_equalLine 33 = .ok (.getfield 19, 3) := by decide +kernel
theorem d_P_equalLine_36 : decode b_P_equalLine 36 = .ok (.invokevirtual 68, 3) := by decide +kernel
theorem d_P_equalLine_39 : decode b_P_equalLine 39 = .ok (.ifCond .eq 13, 3) := by decide +kernel
theorem d_P_equalLine_42 : decode b_P_equalLine 42 = .ok (.new 59, 3) := by decide +kernel
theorem d_P_equalLine_45 : decode b_P_equalLine 45 = .ok (.dup, 1) := by decide +kernel
theorem d_P_equalLine_46 : decode b_P_equalLine 46 = .ok (.ldc 72, 2) := by decide +kernel
theorem d_P_equalLine_48 : decode b_P_equalLine 48 = .ok (.invokespecial 63, 3) := by decide +kernel
theorem d_P_equalLine_51 : decode b_P_equalLine 51 = .ok (.athrow, 1) := by decide +kernel
theorem d_P_equalLine_52 : decode b_P_equalLine 52 = .ok (.aload_n 0, 1) := by decide +kernel
theorem d_P_equalLine_53 : decode b_P_equalLine 53 = .ok (.getfield 19, 3) := by decide +kernel
theorem d_P_equalLine_56 : decode b_P_equalLine 56 = .ok (.iconst 1, 1) := by decide +kernel
theorem d_P_equalLine_57 : decode b_P_equalLine 57 = .ok (.invokevirtual 74, 3) := by decide +kernel
theorem d_P_equalLine_60 : decode b_P_equalLine 60 = .ok (.istore_n 3, 1) := by decide +kernel
theorem d_P_equalLine_61 : decode b_P_equalLine 61 = .ok (.aload_n 0, 1) := by decide +kernel
theorem d_P_equalLine_62 : decode b_P_equalLine 62 = .ok (.getfield 19, 3) := by decide +kernel
theorem d_P_equalLine_65 : decode b_P_equalLine 65 = .ok (.iload_n 3, 1) := by decide +kernel
theorem d_P_equalLine_66 : decode b_P_equalLine 66 = .ok (.iload_n 1, 1) := by decide +kernel
theorem d_P_equalLine_67 : decode b_P_equalLine 67 = .ok (.invokevirtual 97, 3) := by decide +kernel
theorem d_P_equalLine_70 : decode b_P_equalLine 70 = .ok (.aload_n 0, 1) := by decide +kernel
theorem d_P_equalLine_71 : decode b_P_equalLine 71 = .ok (.getfield 19, 3) := by decide +kernel
theorem d_P_equalLine_74 : decode b_P_equalLine 74 = .ok (.iload_n 3, 1) := by decide +kernel
theorem d_P_equalLine_75 : decode b_P_equalLine 75 = .ok (.iload_n 2, 1) := by decide +kernel
theorem d_P_equalLine_76 : decode b_P_equalLine 76 = .ok (.invokevirtual 97, 3) := by decide +kernel
theorem d_P_equalLine_79 : decode b_P_equalLine 79 = .ok (.iload_n 3, 1) := by decide +kernel
theorem d_P_equalLine_80 : decode b_P_equalLine 80 = .ok (.ireturn, 1) := by decide +kernel
theorem d_P_firstBad_0 : decode b_P_firstBad 0 = .ok (.iload_n 1, 1) := by decide +kernel
theorem d_P_firstBad_1 : decode b_P_firstBad 1 = .ok (.istore_n 3, 1) := by decide +kernel
theorem d_P_firstBad_2 : decode b_P_firstBad 2 = .ok (.iload_n 3, 1) := by decide +kernel
theorem d_P_firstBad_3 : decode b_P_firstBad 3 = .ok (.aload_n 0, 1) := by decide +kernel
theorem d_P_firstBad_4 : decode b_P_firstBad 4 = .ok (.getfield 19, 3) := by decide +kernel
theorem d_P_firstBad_7 : decode b_P_firstBad 7 = .ok (.getfield 131, 3) := by decide +kernel
theorem d_P_firstBad_10 : decode b_P_firstBad 10 = .ok (.if_icmp .ge 36, 3) := by decide +kernel
theorem d_P_firstBad_13 : decode b_P_firstBad 13 = .ok (.aload_n 0, 1) := by decide +kernel
theorem d_P_firstBad_14 : decode b_P_firstBad 14 = .ok (.getfield 19, 3) := by decide +kernel
theorem d_P_firstBad_17 : decode b_P_firstBad 17 = .ok (.getfield 138, 3) := by decide +kernel
theorem d_P_firstBad_20 : decode b_P_firstBad 20 = .ok (.iload_n 3, 1) := by decide +kernel
theorem d_P_firstBad_21 : decode b_P_firstBad 21 = .ok (.baload, 1) := by decide +kernel
theorem d_P_firstBad_22 : decode b_P_firstBad 22 = .ok (.ifCond .ne 18, 3) := by decide +kernel
theorem d_P_firstBad_25 : decode b_P_firstBad 25 = .ok (.aload_n 0, 1) := by decide +kernel
theorem d_P_firstBad_26 : decode b_P_firstBad 26 = .ok (.getfield 28, 3) := by decide +kernel
theorem d_P_firstBad_29 : decode b_P_firstBad 29 = .ok (.iload_n 3, 1) := by decide +kernel
theorem d_P_firstBad_30 : decode b_P_firstBad 30 = .ok (.invokevirtual 107, 3) := by decide +kernel
theorem d_P_firstBad_33 : decode b_P_firstBad 33 = .ok (.ifCond .ne 7, 3) := by decide +kernel
theorem d_P_firstBad_36 : decode b_P_firstBad 36 = .ok (.iconst 1, 1) := by decide +kernel
theorem d_P_firstBad_37 : decode b_P_firstBad 37 = .ok (.iload_n 3, 1) := by decide +kernel
theorem d_P_firstBad_38 : decode b_P_firstBad 38 = .ok (.iadd, 1) := by decide +kernel
theorem d_P_firstBad_39 : decode b_P_firstBad 39 = .ok (.ireturn, 1) := by decide +kernel
theorem d_P_firstBad_40 : decode b_P_firstBad 40 = .ok (.iinc 3 1, 3) := by decide +kernel
theorem d_P_firstBad_43 : decode b_P_firstBad 43 = .ok (.goto (-41), 3) := by decide +kernel
theorem d_P_firstBad_46 : decode b_P_firstBad 46 = .ok (.aload_n 0, 1) := by decide +kernel
theorem d_P_firstBad_47 : decode b_P_firstBad 47 = .ok (.getfield 28, 3) := by decide +kernel
theorem d_P_firstBad_50 : decode b_P_firstBad 50 = .ok (.iload_n 2, 1) := by decide +kernel
theorem d_P_firstBad_51 : decode b_P_firstBad 51 = .ok (.invokevirtual 173, 3) := by decide +kernel
theorem d_P_firstBad_54 : decode b_P_firstBad 54 = .ok (.ifCond .eq 7, 3) := by decide +kernel
theorem d_P_firstBad_57 : decode b_P_firstBad 57 = .ok (.iconst 0, 1) := by decide +kernel
theorem d_P_firstBad_58 : decode b_P_firstBad 58 = .ok (.goto 12, 3) := by decide +kernel
theorem d_P_firstBad_61 : decode b_P_firstBad 61 = .ok (.iconst 1, 1) := by decide +kernel
theorem d_P_firstBad_62 : decode b_P_firstBad 62 = .ok (.aload_n 0, 1) := by decide +kernel
theorem d_P_firstBad_63 : decode b_P_firstBad 63 = .ok (.getfield 19, 3) := by decide +kernel
theorem d_P_firstBad_66 : decode b_P_firstBad 66 = .ok (.getfield 131, 3) := by decide +kernel
theorem d_P_firstBad_69 : decode b_P_firstBad 69 = .ok (.iadd, 1) := by decide +kernel
theorem d_P_firstBad_70 : decode b_P_firstBad 70 = .ok (.ireturn, 1) := by decide +kernel
theorem d_P_check_0 : decode b_P_check 0 = .ok (.aload_n 0, 1) := by decide +kernel
theorem d_P_check_1 : decode b_P_check 1 = .ok (.getfield 10, 3) := by decide +kernel
theorem d_P_check_4 : decode b_P_check 4 = .ok (.iload_n 1, 1) := by decide +kernel
theorem d_P_check_5 : decode b_P_check 5 = .ok (.invokevirtual 39, 3) := by decide +kernel
theorem d_P_check_8 : decode b_P_check 8 = .ok (.ifCond .ne 13, 3) := by decide +kernel
theorem d_P_check_11 : decode b_P_check 11 = .ok (.new 43, 3) := by decide +kernel
theorem d_P_check_14 : decode b_P_check 14 = .ok (.dup, 1) := by decide +kernel
theorem d_P_check_15 : decode b_P_check 15 = .ok (.ldc 45, 2) := by decide +kernel
theorem d_P_check_17 : decode b_P_check 17 = .ok (.invokespecial 47, 3) := by decide +kernel
theorem d_P_check_20 : decode b_P_check 20 = .ok (.athrow, 1) := by decide +kernel
theorem d_P_check_21 : decode b_P_check 21 = .ok (.aload_n 0, 1) := by decide +kernel
theorem d_P_check_22 : decode b_P_check 22 = .ok (.iconst 0, 1) := by decide +kernel
theorem d_P_check_23 : decode b_P_check 23 = .ok (.iload_n 1, 1) := by decide +kernel
theorem d_P_check_24 : decode b_P_check 24 = .ok (.invokevirtual 101, 3) := by decide +kernel
theorem d_P_check_27 : decode b_P_check 27 = .ok (.ireturn, 1) := by decide +kernel
theorem d_P_good_0 : decode b_P_good 0 = .ok (.aload_n 0, 1) := by decide +kernel
theorem d_P_good_1 : decode b_P_good 1 = .ok (.getfield 19, 3) := by decide +kernel
theorem d_P_good_4 : decode b_P_good 4 = .ok (.iload_n 1, 1) := by decide +kernel
theorem d_P_good_5 : decode b_P_good 5 = .ok (.invokevirtual 77, 3) := by decide +kernel
theorem d_P_good_8 : decode b_P_good 8 = .ok (.ifCond .ne 13, 3) := by decide +kernel
theorem d_P_good_11 : decode b_P_good 11 = .ok (.new 43, 3) := by decide +kernel
theorem d_P_good_14 : decode b_P_good 14 = .ok (.dup, 1) := by decide +kernel
theorem d_P_good_15 : decode b_P_good 15 = .ok (.ldc 105, 2) := by decide +kernel
theorem d_P_good_17 : decode b_P_good 17 = .ok (.invokespecial 47, 3) := by decide +kernel
theorem d_P_good_20 : decode b_P_good 20 = .ok (.athrow, 1) := by decide +kernel
theorem d_P_good_21 : decode b_P_good 21 = .ok (.aload_n 0, 1) := by decide +kernel
theorem d_P_good_22 : decode b_P_good 22 = .ok (.getfield 28, 3) := by decide +kernel
theorem d_P_good_25 : decode b_P_good 25 = .ok (.iload_n 1, 1) := by decide +kernel
theorem d_P_good_26 : decode b_P_good 26 = .ok (.invokevirtual 107, 3) := by decide +kernel
theorem d_P_good_29 : decode b_P_good 29 = .ok (.ireturn, 1) := by decide +kernel
theorem d_P_lineAt_0 : decode b_P_lineAt 0 = .ok (.aload_n 0, 1) := by decide +kernel
theorem d_P_lineAt_1 : decode b_P_lineAt 1 = .ok (.getfield 19, 3) := by decide +kernel
theorem d_P_lineAt_4 : decode b_P_lineAt 4 = .ok (.iload_n 1, 1) := by decide +kernel
theorem d_P_lineAt_5 : decode b_P_lineAt 5 = .ok (.invokevirtual 77, 3) := by decide +kernel
theorem d_P_lineAt_8 : decode b_P_lineAt 8 = .ok (.ifCond .eq 22, 3) := by decide +kernel
theorem d_P_lineAt_11 : decode b_P_lineAt 11 = .ok (.iload_n 2, 1) := by decide +kernel
theorem d_P_lineAt_12 : decode b_P_lineAt 12 = .ok (.ifCond .lt 18, 3) := by decide +kernel
theorem d_P_lineAt_15 : decode b_P_lineAt 15 = .ok (.iload_n 2, 1) := by decide +kernel
theorem d_P_lineAt_16 : decode b_P_lineAt 16 = .ok (.iconst 2, 1) := by decide +kernel
theorem d_P_lineAt_17 : decode b_P_lineAt 17 = .ok (.aload_n 0, 1) := by decide +kernel
theorem d_P_lineAt_18 : decode b_P_lineAt 18 = .ok (.getfield 19, 3) := by decide +kernel
theorem d_P_lineAt_21 : decode b_P_lineAt 21 = .ok (.getfield 110, 3) := by decide +kernel
theorem d_P_lineAt_24 : decode b_P_lineAt 24 = .ok (.iload_n 1, 1) := by decide +kernel
theorem d_P_lineAt_25 : decode b_P_lineAt 25 = .ok (.iaload, 1) := by decide +kernel
theorem d_P_lineAt_26 : decode b_P_lineAt 26 = .ok (.iadd, 1) := by decide +kernel
theorem d_P_lineAt_27 : decode b_P_lineAt 27 = .ok (.if_icmp .lt 13, 3) := by decide +kernel
theorem d_P_lineAt_30 : decode b_P_lineAt 30 = .ok (.new 43, 3) := by decide +kernel
theorem d_P_lineAt_33 : decode b_P_lineAt 33 = .ok (.dup, 1) := by decide +kernel
theorem d_P_lineAt_34 : decode b_P_lineAt 34 = .ok (.ldc 113, 2) := by decide +kernel
theorem d_P_lineAt_36 : decode b_P_lineAt 36 = .ok (.invokespecial 47, 3) := by decide +kernel
theorem d_P_lineAt_39 : decode b_P_lineAt 39 = .ok (.athrow, 1) := by decide +kernel
theorem d_P_lineAt_40 : decode b_P_lineAt 40 = .ok (.iload_n 2, 1) := by decide +kernel
theorem d_P_lineAt_41 : decode b_P_lineAt 41 = .ok (.ifCond .ne 13, 3) := by decide +kernel
theorem d_P_lineAt_44 : decode b_P_lineAt 44 = .ok (.aload_n 0, 1) := by decide +kernel
theorem d_P_lineAt_45 : decode b_P_lineAt 45 = .ok (.getfield 19, 3) := by decide +kernel
theorem d_P_lineAt_48 : decode b_P_lineAt 48 = .ok (.getfield 82, 3) := by decide +kernel
theorem d_P_lineAt_51 : decode b_P_lineAt 51 = .ok (.iload_n 1, 1) := by decide +kernel
theorem d_P_lineAt_52 : decode b_P_lineAt 52 = .ok (.iaload, 1) := by decide +kernel
theorem d_P_lineAt_53 : decode b_P_lineAt 53 = .ok (.ireturn, 1) := by decide +kernel
theorem d_P_lineAt_54 : decode b_P_lineAt 54 = .ok (.iload_n 2, 1) := by decide +kernel
theorem d_P_lineAt_55 : decode b_P_lineAt 55 = .ok (.iconst 1, 1) := by decide +kernel
theorem d_P_lineAt_56 : decode b_P_lineAt 56 = .ok (.if_icmp .ne 15, 3) := by decide +kernel
theorem d_P_lineAt_59 : decode b_P_lineAt 59 = .ok (.aload_n 0, 1) := by decide +kernel
theorem d_P_lineAt_60 : decode b_P_lineAt 60 = .ok (.getfield 19, 3) := by decide +kernel
theorem d_P_lineAt_63 : decode b_P_lineAt 63 = .ok (.getfield 110, 3) := by decide +kernel
theorem d_P_lineAt_66 : decode b_P_lineAt 66 = .ok (.iload_n 1, 1) := by decide +kernel
theorem d_P_lineAt_67 : decode b_P_lineAt 67 = .ok (.iaload, 1) := by decide +kernel
theorem d_P_lineAt_68 : decode b_P_lineAt 68 = .ok (.goto 14, 3) := by decide +kernel
theorem d_P_lineAt_71 : decode b_P_lineAt 71 = .ok (.aload_n 0, 1) := by decide +kernel
theorem d_P_lineAt_72 : decode b_P_lineAt 72 = .ok (.getfield 19, 3) := by decide +kernel
theorem d_P_lineAt_75 : decode b_P_lineAt 75 = .ok (.iload_n 1, 1) := by decide +kernel
theorem d_P_lineAt_76 : decode b_P_lineAt 76 = .ok (.iload_n 2, 1) := by decide +kernel
theorem d_P_lineAt_77 : decode b_P_lineAt 77 = .ok (.iconst 2, 1) := by decide +kernel
theorem d_P_lineAt_78 : decode b_P_lineAt 78 = .ok (.isub, 1) := by decide +kernel
theorem d_P_lineAt_79 : decode b_P_lineAt 79 = .ok (.invokevirtual 115, 3) := by decide +kernel
theorem d_P_lineAt_82 : decode b_P_lineAt 82 = .ok (.ireturn, 1) := by decide +kernel
theorem d_P_isNoneOrLiteral_0 : decode b_P_isNoneOrLiteral 0 = .ok (.iload_n 1, 1) := by decide +kernel
theorem d_P_isNoneOrLiteral_1 : decode b_P_isNoneOrLiteral 1 = .ok (.iconst (-1), 1) := by decide +kernel
theorem d_P_isNoneOrLiteral_2 : decode b_P_isNoneOrLiteral 2 = .ok (.if_icmp .eq 14, 3) := by decide +kernel
theorem d_P_isNoneOrLiteral_5 : decode b_P_isNoneOrLiteral 5 = .ok (.aload_n 0, 1) := by decide +kernel
theorem d_P_isNoneOrLiteral_6 : decode b_P_isNoneOrLiteral 6 = .ok (.getfield 10, 3) := by decide +kernel
theorem d_P_isNoneOrLiteral_9 : decode b_P_isNoneOrLiteral 9 = .ok (.iload_n 1, 1) := by decide +kernel
theorem d_P_isNoneOrLiteral_10 : decode b_P_isNoneOrLiteral 10 = .ok (.invokevirtual 39, 3) := by decide +kernel
theorem d_P_isNoneOrLiteral_13 : decode b_P_isNoneOrLiteral 13 = .ok (.ifCond .eq 7, 3) := by decide +kernel
theorem d_P_isNoneOrLiteral_16 : decode b_P_isNoneOrLiteral 16 = .ok (.iconst 1, 1) := by decide +kernel
theorem d_P_isNoneOrLiteral_17 : decode b_P_isNoneOrLiteral 17 = .ok (.goto 4, 3) := by decide +kernel
theorem d_P_isNoneOrLiteral_20 : decode b_P_isNoneOrLiteral 20 = .ok (.iconst 0, 1) := by decide +kernel
theorem d_P_isNoneOrLiteral_21 : decode b_P_isNoneOrLiteral 21 = .ok (.ireturn, 1) := by decide +kernel
theorem d_P_assumeUnlessNone_0 : decode b_P_assumeUnlessNone 0 = .ok (.iload_n 1, 1) := by decide +kernel
theorem d_P_assumeUnlessNone_1 : decode b_P_assumeUnlessNone 1 = .ok (.iconst (-1), 1) := by decide +kernel
theorem d_P_assumeUnlessNone_2 : decode b_P_assumeUnlessNone 2 = .ok (.if_icmp .eq 12, 3) := by decide +kernel
theorem d_P_assumeUnlessNone_5 : decode b_P_assumeUnlessNone 5 = .ok (.aload_n 0, 1) := by decide +kernel
theorem d_P_assumeUnlessNone_6 : decode b_P_assumeUnlessNone 6 = .ok (.getfield 28, 3) := by decide +kernel
theorem d_P_assumeUnlessNone_9 : decode b_P_assumeUnlessNone 9 = .ok (.iload_n 1, 1) := by decide +kernel
theorem d_P_assumeUnlessNone_10 : decode b_P_assumeUnlessNone 10 = .ok (.iconst 1, 1) := by decide +kernel
theorem d_P_assumeUnlessNone_11 : decode b_P_assumeUnlessNone 11 = .ok (.invokevirtual 176, 3) := by decide +kernel
theorem d_P_assumeUnlessNone_14 : decode b_P_assumeUnlessNone 14 = .ok (.return_, 1) := by decide +kernel
theorem d_P_implied_0 : decode b_P_implied 0 = .ok (.aload_n 0, 1) := by decide +kernel
theorem d_P_implied_1 : decode b_P_implied 1 = .ok (.iload_n 1, 1) := by decide +kernel
theorem d_P_implied_2 : decode b_P_implied 2 = .ok (.invokevirtual 118, 3) := by decide +kernel
theorem d_P_implied_5 : decode b_P_implied 5 = .ok (.ifCond .eq 31, 3) := by decide +kernel
theorem d_P_implied_8 : decode b_P_implied 8 = .ok (.aload_n 0, 1) := by decide +kernel
theorem d_P_implied_9 : decode b_P_implied 9 = .ok (.iload_n 2, 1) := by decide +kernel
theorem d_P_implied_10 : decode b_P_implied 10 = .ok (.invokevirtual 118, 3) := by decide +kernel
theorem d_P_implied_13 : decode b_P_implied 13 = .ok (.ifCond .eq 23, 3) := by decide +kernel
theorem d_P_implied_16 : decode b_P_implied 16 = .ok (.aload_n 0, 1) := by decide +kernel
theorem d_P_implied_17 : decode b_P_implied 17 = .ok (.iload_n 3, 1) := by decide +kernel
theorem d_P_implied_18 : decode b_P_implied 18 = .ok (.invokevirtual 118, 3) := by decide +kernel
theorem d_P_implied_21 : decode b_P_implied 21 = .ok (.ifCond .eq 15, 3) := by decide +kernel
theorem d_P_implied_24 : decode b_P_implied 24 = .ok (.aload_n 0, 1) := by decide +kernel
theorem d_P_implied_25 : decode b_P_implied 25 = .ok (.getfield 10, 3) := by decide +kernel
theorem d_P_implied_28 : decode b_P_implied 28 = .ok (.iload 4, 2) := by decide +kernel
theorem d_P_implied_30 : decode b_P_implied 30 = .ok (.invokevirtual 121, 3) := by decide +kernel
theorem d_P_implied_33 : decode b_P_implied 33 = .ok (.ifCond .ne 13, 3) := by decide +kernel
theorem d_P_implied_36 : decode b_P_implied 36 = .ok (.new 43, 3) := by decide +kernel
theorem d_P_implied_39 : decode b_P_implied 39 = .ok (.dup, 1) := by decide +kernel
theorem d_P_implied_40 : decode b_P_implied 40 = .ok (.ldc 122, 2) := by decide +kernel
theorem d_P_implied_42 : decode b_P_implied 42 = .ok (.invokespecial 47, 3) := by decide +kernel
theorem d_P_implied_45 : decode b_P_implied 45 = .ok (.athrow, 1) := by decide +kernel
theorem d_P_implied_46 : decode b_P_implied 46 = .ok (.aload_n 0, 1) := by decide +kernel
theorem d_P_implied_47 : decode b_P_implied 47 = .ok (.getfield 28, 3) := by decide +kernel
theorem d_P_implied_50 : decode b_P_implied 50 = .ok (.invokevirtual 124, 3) := by decide +kernel
theorem d_P_implied_53 : decode b_P_implied 53 = .ok (.aload_n 0, 1) := by decide +kernel
theorem d_P_implied_54 : decode b_P_implied 54 = .ok (.iload_n 1, 1) := by decide +kernel
theorem d_P_implied_55 : decode b_P_implied 55 = .ok (.invokevirtual 127, 3) := by decide +kernel
theorem d_P_implied_58 : decode b_P_implied 58 = .ok (.aload_n 0, 1) := by decide +kernel
theorem d_P_implied_59 : decode b_P_implied 59 = .ok (.iload_n 2, 1) := by decide +kernel
theorem d_P_implied_60 : decode b_P_implied 60 = .ok (.invokevirtual 127, 3) := by decide +kernel
theorem d_P_implied_63 : decode b_P_implied 63 = .ok (.aload_n 0, 1) := by decide +kernel
theorem d_P_implied_64 : decode b_P_implied 64 = .ok (.iload_n 3, 1) := by decide +kernel
theorem d_P_implied_65 : decode b_P_implied 65 = .ok (.invokevirtual 127, 3) := by decide +kernel
theorem d_P_implied_68 : decode b_P_implied 68 = .ok (.aload_n 0, 1) := by decide +kernel
theorem d_P_implied_69 : decode b_P_implied 69 = .ok (.getfield 28, 3) := by decide +kernel
theorem d_P_implied_72 : decode b_P_implied 72 = .ok (.aload_n 0, 1) := by decide +kernel
theorem d_P_implied_73 : decode b_P_implied 73 = .ok (.getfield 19, 3) := by decide +kernel
theorem d_P_implied_76 : decode b_P_implied 76 = .ok (.getfield 131, 3) := by decide +kernel
theorem d_P_implied_79 : decode b_P_implied 79 = .ok (.invokevirtual 132, 3) := by decide +kernel
theorem d_P_implied_82 : decode b_P_implied 82 = .ok (.ifCond .eq 7, 3) := by decide +kernel
theorem d_P_implied_85 : decode b_P_implied 85 = .ok (.iconst 3, 1) := by decide +kernel
theorem d_P_implied_86 : decode b_P_implied 86 = .ok (.goto 13, 3) := by decide +kernel
theorem d_P_implied_89 : decode b_P_implied 89 = .ok (.aload_n 0, 1) := by decide +kernel
theorem d_P_implied_90 : decode b_P_implied 90 = .ok (.getfield 28, 3) := by decide +kernel
theorem d_P_implied_93 : decode b_P_implied 93 = .ok (.getfield 135, 3) := by decide +kernel
theorem d_P_implied_96 : decode b_P_implied 96 = .ok (.iload 4, 2) := by decide +kernel
theorem d_P_implied_98 : decode b_P_implied 98 = .ok (.iaload, 1) := by decide +kernel
theorem d_P_implied_99 : decode b_P_implied 99 = .ok (.ireturn, 1) := by decide +kernel
theorem d_P_shorten_0 : decode b_P_shorten 0 = .ok (.aload_n 0, 1) := by decide +kernel
theorem d_P_shorten_1 : decode b_P_shorten 1 = .ok (.getfield 10, 3) := by decide +kernel
theorem d_P_shorten_4 : decode b_P_shorten 4 = .ok (.iload_n 1, 1) := by decide +kernel
theorem d_P_shorten_5 : decode b_P_shorten 5 = .ok (.invokevirtual 39, 3) := by decide +kernel
theorem d_P_shorten_8 : decode b_P_shorten 8 = .ok (.ifCond .ne 13, 3) := by decide +kernel
theorem d_P_shorten_11 : decode b_P_shorten 11 = .ok (.new 43, 3) := by decide +kernel
theorem d_P_shorten_14 : decode b_P_shorten 14 = .ok (.dup, 1) := by decide +kernel
theorem d_P_shorten_15 : decode b_P_shorten 15 = .ok (.ldc 45, 2) := by decide +kernel
theorem d_P_shorten_17 : decode b_P_shorten 17 = .ok (.invokespecial 47, 3) := by decide +kernel
theorem d_P_shorten_20 : decode b_P_shorten 20 = .ok (.athrow, 1) := by decide +kernel
theorem d_P_shorten_21 : decode b_P_shorten 21 = .ok (.aload_n 0, 1) := by decide +kernel
theorem d_P_shorten_22 : decode b_P_shorten 22 = .ok (.iconst 0, 1) := by decide +kernel
theorem d_P_shorten_23 : decode b_P_shorten 23 = .ok (.iload_n 1, 1) := by decide +kernel
theorem d_P_shorten_24 : decode b_P_shorten 24 = .ok (.invokevirtual 101, 3) := by decide +kernel
theorem d_P_shorten_27 : decode b_P_shorten 27 = .ok (.ifCond .eq 5, 3) := by decide +kernel
theorem d_P_shorten_30 : decode b_P_shorten 30 = .ok (.iconst (-1), 1) := by decide +kernel
theorem d_P_shorten_31 : decode b_P_shorten 31 = .ok (.ireturn, 1) := by decide +kernel
theorem d_P_shorten_32 : decode b_P_shorten 32 = .ok (.aload_n 0, 1) := by decide +kernel
theorem d_P_shorten_33 : decode b_P_shorten 33 = .ok (.getfield 19, 3) := by decide +kernel
theorem d_P_shorten_36 : decode b_P_shorten 36 = .ok (.getfield 131, 3) := by decide +kernel
theorem d_P_shorten_39 : decode b_P_shorten 39 = .ok (.iconst 1, 1) := by decide +kernel
theorem d_P_shorten_40 : decode b_P_shorten 40 = .ok (.isub, 1) := by decide +kernel
theorem d_P_shorten_41 : decode b_P_shorten 41 = .ok (.istore_n 2, 1) := by decide +kernel
theorem d_P_shorten_42 : decode b_P_shorten 42 = .ok (.iload_n 2, 1) := by decide +kernel
theorem d_P_shorten_43 : decode b_P_shorten 43 = .ok (.ifCond .lt 44, 3) := by decide +kernel
theorem d_P_shorten_46 : decode b_P_shorten 46 = .ok (.aload_n 0, 1) := by decide +kernel
theorem d_P_shorten_47 : decode b_P_shorten 47 = .ok (.getfield 19, 3) := by decide +kernel
theorem d_P_shorten_50 : decode b_P_shorten 50 = .ok (.getfield 138, 3) := by decide +kernel
theorem d_P_shorten_53 : decode b_P_shorten 53 = .ok (.iload_n 2, 1) := by decide +kernel
theorem d_P_shorten_54 : decode b_P_shorten 54 = .ok (.iconst 1, 1) := by decide +kernel
theorem d_P_shorten_55 : decode b_P_shorten 55 = .ok (.bastore, 1) := by decide +kernel
theorem d_P_shorten_56 : decode b_P_shorten 56 = .ok (.aload_n 0, 1) := by decide +kernel
theorem d_P_shorten_57 : decode b_P_shorten 57 = .ok (.getfield 19, 3) := by decide +kernel
theorem d_P_shorten_60 : decode b_P_shorten 60 = .ok (.getfield 138, 3) := by decide +kernel
theorem d_P_shorten_63 : decode b_P_shorten 63 = .ok (.iload_n 2, 1) := by decide +kernel
theorem d_P_shorten_64 : decode b_P_shorten 64 = .ok (.aload_n 0, 1) := by decide +kernel
theorem d_P_shorten_65 : decode b_P_shorten 65 = .ok (.iload_n 2, 1) := by decide +kernel
theorem d_P_shorten_66 : decode b_P_shorten 66 = .ok (.iconst 1, 1) := by decide +kernel
theorem d_P_shorten_67 : decode b_P_shorten 67 = .ok (.iadd, 1) := by decide +kernel
theorem d_P_shorten_68 : decode b_P_shorten 68 = .ok (.iload_n 1, 1) := by decide +kernel
theorem d_P_shorten_69 : decode b_P_shorten 69 = .ok (.invokevirtual 101, 3) := by decide +kernel
theorem d_P_shorten_72 : decode b_P_shorten 72 = .ok (.ifCond .ne 7, 3) := by decide +kernel
theorem d_P_shorten_75 : decode b_P_shorten 75 = .ok (.iconst 1, 1) := by decide +kernel
theorem d_P_shorten_76 : decode b_P_shorten 76 = .ok (.goto 4, 3) := by decide +kernel
theorem d_P_shorten_79 : decode b_P_shorten 79 = .ok (.iconst 0, 1) := by decide +kernel
theorem d_P_shorten_80 : decode b_P_shorten 80 = .ok (.bastore, 1) := by decide +kernel
theorem d_P_shorten_81 : decode b_P_shorten 81 = .ok (.iinc 2 (-1), 3) := by decide +kernel
theorem d_P_shorten_84 : decode b_P_shorten 84 = .ok (.goto (-42), 3) := by decide +kernel
theorem d_P_shorten_87 : decode b_P_shorten 87 = .ok (.aload_n 0, 1) := by decide +kernel
theorem d_P_shorten_88 : decode b_P_shorten 88 = .ok (.getfield 19, 3) := by decide +kernel
theorem d_P_shorten_91 : decode b_P_shorten 91 = .ok (.invokevirtual 142, 3) := by decide +kernel
theorem d_P_shorten_94 : decode b_P_shorten 94 = .ok (.aload_n 0, 1) := by decide +kernel
theorem d_P_shorten_95 : decode b_P_shorten 95 = .ok (.getfield 19, 3) := by decide +kernel
theorem d_P_shorten_98 : decode b_P_shorten 98 = .ok (.getfield 131, 3) := by decide +kernel
theorem d_P_shorten_101 : decode b_P_shorten 101 = .ok (.ireturn, 1) := by decide +kernel
theorem d_P_holds_0 : decode b_P_holds 0 = .ok (.aload_n 0, 1) := by decide +kernel
theorem d_P_holds_1 : decode b_P_holds 1 = .ok (.getfield 10, 3) := by decide +kernel
theorem d_P_holds_4 : decode b_P_holds 4 = .ok (.iload_n 1, 1) := by decide +kernel
theorem d_P_holds_5 : decode b_P_holds 5 = .ok (.invokevirtual 39, 3) := by decide +kernel
theorem d_P_holds_8 : decode b_P_holds 8 = .ok (.ifCond .ne 13, 3) := by decide +kernel
theorem d_P_holds_11 : decode b_P_holds 11 = .ok (.new 43, 3) := by decide +kernel
theorem d_P_holds_14 : decode b_P_holds 14 = .ok (.dup, 1) := by decide +kernel
theorem d_P_holds_15 : decode b_P_holds 15 = .ok (.ldc 45, 2) := by decide +kernel
theorem d_P_holds_17 : decode b_P_holds 17 = .ok (.invokespecial 47, 3) := by decide +kernel
theorem d_P_holds_20 : decode b_P_holds 20 = .ok (.athrow, 1) := by decide +kernel
theorem d_P_holds_21 : decode b_P_holds 21 = .ok (.aload_n 0, 1) := by decide +kernel
theorem d_P_holds_22 : decode b_P_holds 22 = .ok (.getfield 10, 3) := by decide +kernel
theorem d_P_holds_25 : decode b_P_holds 25 = .ok (.iload_n 1, 1) := by decide +kernel
theorem d_P_holds_26 : decode b_P_holds 26 = .ok (.lload_n 2, 1) := by decide +kernel
theorem d_P_holds_27 : decode b_P_holds 27 = .ok (.invokevirtual 145, 3) := by decide +kernel
theorem d_P_holds_30 : decode b_P_holds 30 = .ok (.ireturn, 1) := by decide +kernel
theorem d_P_text_0 : decode b_P_text 0 = .ok (.iload_n 1, 1) := by decide +kernel
theorem d_P_text_1 : decode b_P_text 1 = .ok (.ifCond .lt 14, 3) := by decide +kernel
theorem d_P_text_4 : decode b_P_text 4 = .ok (.iload_n 1, 1) := by decide +kernel
theorem d_P_text_5 : decode b_P_text 5 = .ok (.aload_n 0, 1) := by decide +kernel
theorem d_P_text_6 : decode b_P_text 6 = .ok (.getfield 19, 3) := by decide +kernel
theorem d_P_text_9 : decode b_P_text 9 = .ok (.invokestatic 149, 3) := by decide +kernel
theorem d_P_text_12 : decode b_P_text 12 = .ok (.if_icmp .lt 13, 3) := by decide +kernel
theorem d_P_text_15 : decode b_P_text 15 = .ok (.new 43, 3) := by decide +kernel
theorem d_P_text_18 : decode b_P_text 18 = .ok (.dup, 1) := by decide +kernel
theorem d_P_text_19 : decode b_P_text 19 = .ok (.ldc 155, 2) := by decide +kernel
theorem d_P_text_21 : decode b_P_text 21 = .ok (.invokespecial 47, 3) := by decide +kernel
theorem d_P_text_24 : decode b_P_text 24 = .ok (.athrow, 1) := by decide +kernel
theorem d_P_text_25 : decode b_P_text 25 = .ok (.aload_n 0, 1) := by decide +kernel
theorem d_P_text_26 : decode b_P_text 26 = .ok (.getfield 19, 3) := by decide +kernel
theorem d_P_text_29 : decode b_P_text 29 = .ok (.iload_n 1, 1) := by decide +kernel
theorem d_P_text_30 : decode b_P_text 30 = .ok (.invokestatic 157, 3) := by decide +kernel
theorem d_P_text_33 : decode b_P_text 33 = .ok (.ireturn, 1) := by decide +kernel
theorem d_P_unit_0 : decode b_P_unit 0 = .ok (.aload_n 0, 1) := by decide +kernel
theorem d_P_unit_1 : decode b_P_unit 1 = .ok (.getfield 35, 3) := by decide +kernel
theorem d_P_unit_4 : decode b_P_unit 4 = .ok (.iload_n 1, 1) := by decide +kernel
theorem d_P_unit_5 : decode b_P_unit 5 = .ok (.invokevirtual 161, 3) := by decide +kernel
theorem d_P_unit_8 : decode b_P_unit 8 = .ok (.ireturn, 1) := by decide +kernel
theorem d_P_read_0 : decode b_P_read 0 = .ok (.aload_n 0, 1) := by decide +kernel
theorem d_P_read_1 : decode b_P_read 1 = .ok (.getfield 19, 3) := by decide +kernel
theorem d_P_read_4 : decode b_P_read 4 = .ok (.getfield 131, 3) := by decide +kernel
theorem d_P_read_7 : decode b_P_read 7 = .ok (.istore_n 1, 1) := by decide +kernel
theorem d_P_read_8 : decode b_P_read 8 = .ok (.aload_n 0, 1) := by decide +kernel
theorem d_P_read_9 : decode b_P_read 9 = .ok (.getfield 35, 3) := by decide +kernel
theorem d_P_read_12 : decode b_P_read 12 = .ok (.invokevirtual 163, 3) := by decide +kernel
theorem d_P_read_15 : decode b_P_read 15 = .ok (.istore_n 2, 1) := by decide +kernel
theorem d_P_read_16 : decode b_P_read 16 = .ok (.iload_n 2, 1) := by decide +kernel
theorem d_P_read_17 : decode b_P_read 17 = .ok (.iconst (-1), 1) := by decide +kernel
theorem d_P_read_18 : decode b_P_read 18 = .ok (.if_icmp .ne 11, 3) := by decide +kernel
theorem d_P_read_21 : decode b_P_read 21 = .ok (.aload_n 0, 1) := by decide +kernel
theorem d_P_read_22 : decode b_P_read 22 = .ok (.getfield 19, 3) := by decide +kernel
theorem d_P_read_25 : decode b_P_read 25 = .ok (.getfield 131, 3) := by decide +kernel
theorem d_P_read_28 : decode b_P_read 28 = .ok (.ireturn, 1) := by decide +kernel
theorem d_P_read_29 : decode b_P_read 29 = .ok (.aload_n 0, 1) := by decide +kernel
theorem d_P_read_30 : decode b_P_read 30 = .ok (.getfield 19, 3) := by decide +kernel
theorem d_P_read_33 : decode b_P_read 33 = .ok (.iload_n 1, 1) := by decide +kernel
theorem d_P_read_34 : decode b_P_read 34 = .ok (.putfield 131, 3) := by decide +kernel
theorem d_P_read_37 : decode b_P_read 37 = .ok (.iconst (-1), 1) := by decide +kernel
theorem d_P_read_38 : decode b_P_read 38 = .ok (.iload_n 2, 1) := by decide +kernel
theorem d_P_read_39 : decode b_P_read 39 = .ok (.isub, 1) := by decide +kernel
theorem d_P_read_40 : decode b_P_read 40 = .ok (.ireturn, 1) := by decide +kernel
theorem d_P_count_0 : decode b_P_count 0 = .ok (.iload_n 1, 1) := by decide +kernel
theorem d_P_count_1 : decode b_P_count 1 = .ok (.tableswitch 75 0 4 #[35, 43, 51, 59, 67], 35) := by decide +kernel
theorem d_P_count_36 : decode b_P_count 36 = .ok (.aload_n 0, 1) := by decide +kernel
theorem d_P_count_37 : decode b_P_count 37 = .ok (.getfield 10, 3) := by decide +kernel
theorem d_P_count_40 : decode b_P_count 40 = .ok (.getfield 55, 3) := by decide +kernel
theorem d_P_count_43 : decode b_P_count 43 = .ok (.ireturn, 1) := by decide +kernel
theorem d_P_count_44 : decode b_P_count 44 = .ok (.aload_n 0, 1) := by decide +kernel
theorem d_P_count_45 : decode b_P_count 45 = .ok (.getfield 10, 3) := by decide +kernel
theorem d_P_count_48 : decode b_P_count 48 = .ok (.getfield 167, 3) := by decide +kernel
theorem d_P_count_51 : decode b_P_count 51 = .ok (.ireturn, 1) := by decide +kernel
theorem d_P_count_52 : decode b_P_count 52 = .ok (.aload_n 0, 1) := by decide +kernel
theorem d_P_count_53 : decode b_P_count 53 = .ok (.getfield 19, 3) := by decide +kernel
theorem d_P_count_56 : decode b_P_count 56 = .ok (.getfield 131, 3) := by decide +kernel
theorem d_P_count_59 : decode b_P_count 59 = .ok (.ireturn, 1) := by decide +kernel
theorem d_P_count_60 : decode b_P_count 60 = .ok (.aload_n 0, 1) := by decide +kernel
theorem d_P_count_61 : decode b_P_count 61 = .ok (.getfield 35, 3) := by decide +kernel
theorem d_P_count_64 : decode b_P_count 64 = .ok (.getfield 170, 3) := by decide +kernel
theorem d_P_count_67 : decode b_P_count 67 = .ok (.ireturn, 1) := by decide +kernel
theorem d_P_count_68 : decode b_P_count 68 = .ok (.aload_n 0, 1) := by decide +kernel
theorem d_P_count_69 : decode b_P_count 69 = .ok (.getfield 19, 3) := by decide +kernel
theorem d_P_count_72 : decode b_P_count 72 = .ok (.invokestatic 149, 3) := by decide +kernel
theorem d_P_count_75 : decode b_P_count 75 = .ok (.ireturn, 1) := by decide +kernel
theorem d_P_count_76 : decode b_P_count 76 = .ok (.new 43, 3) := by decide +kernel
theorem d_P_count_79 : decode b_P_count 79 = .ok (.dup, 1) := by decide +kernel
theorem d_P_count_80 : decode b_P_count 80 = .ok (.ldc 171, 2) := by decide +kernel
theorem d_P_count_82 : decode b_P_count 82 = .ok (.invokespecial 47, 3) := by decide +kernel
theorem d_P_count_85 : decode b_P_count 85 = .ok (.athrow, 1) := by decide +kernel
theorem d_P_clear_0 : decode b_P_clear 0 = .ok (.aload_n 0, 1) := by decide +kernel
theorem d_P_clear_1 : decode b_P_clear 1 = .ok (.getfield 19, 3) := by decide +kernel
theorem d_P_clear_4 : decode b_P_clear 4 = .ok (.iconst 0, 1) := by decide +kernel
theorem d_P_clear_5 : decode b_P_clear 5 = .ok (.putfield 131, 3) := by decide +kernel
theorem d_P_clear_8 : decode b_P_clear 8 = .ok (.return_, 1) := by decide +kernel
theorem d_P_new_0 : decode b_P_new 0 = .ok (.aload_n 0, 1) := by decide +kernel
theorem d_P_new_1 : decode b_P_new 1 = .ok (.invokespecial 1, 3) := by decide +kernel
theorem d_P_new_4 : decode b_P_new 4 = .ok (.aload_n 0, 1) := by decide +kernel
theorem d_P_new_5 : decode b_P_new 5 = .ok (.new 7, 3) := by decide +kernel
theorem d_P_new_8 : decode b_P_new 8 = .ok (.dup, 1) := by decide +kernel
theorem d_P_new_9 : decode b_P_new 9 = .ok (.invokespecial 9, 3) := by decide +kernel
theorem d_P_new_12 : decode b_P_new 12 = .ok (.putfield 10, 3) := by decide +kernel
theorem d_P_new_15 : decode b_P_new 15 = .ok (.aload_n 0, 1) := by decide +kernel
theorem d_P_new_16 : decode b_P_new 16 = .ok (.new 16, 3) := by decide +kernel
theorem d_P_new_19 : decode b_P_new 19 = .ok (.dup, 1) := by decide +kernel
theorem d_P_new_20 : decode b_P_new 20 = .ok (.invokespecial 18, 3) := by decide +kernel
theorem d_P_new_23 : decode b_P_new 23 = .ok (.putfield 19, 3) := by decide +kernel
theorem d_P_new_26 : decode b_P_new 26 = .ok (.aload_n 0, 1) := by decide +kernel
theorem d_P_new_27 : decode b_P_new 27 = .ok (.new 23, 3) := by decide +kernel
theorem d_P_new_30 : decode b_P_new 30 = .ok (.dup, 1) := by decide +kernel
theorem d_P_new_31 : decode b_P_new 31 = .ok (.aload_n 0, 1) := by decide +kernel
theorem d_P_new_32 : decode b_P_new 32 = .ok (.getfield 10, 3) := by decide +kernel
theorem d_P_new_35 : decode b_P_new 35 = .ok (.aload_n 0, 1) := by decide +kernel
theorem d_P_new_36 : decode b_P_new 36 = .ok (.getfield 19, 3) := by decide +kernel
theorem d_P_new_39 : decode b_P_new 39 = .ok (.invokespecial 25, 3) := by decide +kernel
theorem d_P_new_42 : decode b_P_new 42 = .ok (.putfield 28, 3) := by decide +kernel
theorem d_P_new_45 : decode b_P_new 45 = .ok (.aload_n 0, 1) := by decide +kernel
theorem d_P_new_46 : decode b_P_new 46 = .ok (.new 32, 3) := by decide +kernel
theorem d_P_new_49 : decode b_P_new 49 = .ok (.dup, 1) := by decide +kernel
theorem d_P_new_50 : decode b_P_new 50 = .ok (.aload_n 0, 1) := by decide +kernel
theorem d_P_new_51 : decode b_P_new 51 = .ok (.getfield 10, 3) := by decide +kernel
theorem d_P_new_54 : decode b_P_new 54 = .ok (.aload_n 0, 1) := by decide +kernel
theorem d_P_new_55 : decode b_P_new 55 = .ok (.getfield 19, 3) := by decide +kernel
theorem d_P_new_58 : decode b_P_new 58 = .ok (.invokespecial 34, 3) := by decide +kernel
theorem d_P_new_61 : decode b_P_new 61 = .ok (.putfield 35, 3) := by decide +kernel
theorem d_P_new_64 : decode b_P_new 64 = .ok (.return_, 1) := by decide +kernel
