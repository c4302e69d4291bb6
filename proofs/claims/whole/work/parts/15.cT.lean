theorem d_T_append_0 : decode b_T_append 0 = .ok (.aload_n 0, 1) := by decide +kernel
theorem d_T_append_1 : decode b_T_append 1 = .ok (.getfield 15, 3) := by decide +kernel
theorem d_T_append_4 : decode b_T_append 4 = .ok (.sipush 1000, 3) := by decide +kernel
theorem d_T_append_7 : decode b_T_append 7 = .ok (.if_icmp .lt 5, 3) := by decide +kernel
theorem d_T_append_10 : decode b_T_append 10 = .ok (.iconst 0, 1) := by decide +kernel
theorem d_T_append_11 : decode b_T_append 11 = .ok (.ireturn, 1) := by decide +kernel
theorem d_T_append_12 : decode b_T_append 12 = .ok (.aload_n 0, 1) := by decide +kernel
theorem d_T_append_13 : decode b_T_append 13 = .ok (.getfield 9, 3) := by decide +kernel
theorem d_T_append_16 : decode b_T_append 16 = .ok (.aload_n 0, 1) := by decide +kernel
theorem d_T_append_17 : decode b_T_append 17 = .ok (.getfield 15, 3) := by decide +kernel
theorem d_T_append_20 : decode b_T_append 20 = .ok (.iload_n 1, 1) := by decide +kernel
theorem d_T_append_21 : decode b_T_append 21 = .ok (.sipush 255, 3) := by decide +kernel
theorem d_T_append_24 : decode b_T_append 24 = .ok (.iand, 1) := by decide +kernel
theorem d_T_append_25 : decode b_T_append 25 = .ok (.iastore, 1) := by decide +kernel
theorem d_T_append_26 : decode b_T_append 26 = .ok (.aload_n 0, 1) := by decide +kernel
theorem d_T_append_27 : decode b_T_append 27 = .ok (.dup, 1) := by decide +kernel
theorem d_T_append_28 : decode b_T_append 28 = .ok (.getfield 15, 3) := by decide +kernel
theorem d_T_append_31 : decode b_T_append 31 = .ok (.iconst 1, 1) := by decide +kernel
theorem d_T_append_32 : decode b_T_append 32 = .ok (.iadd, 1) := by decide +kernel
theorem d_T_append_33 : decode b_T_append 33 = .ok (.putfield 15, 3) := by decide +kernel
theorem d_T_append_36 : decode b_T_append 36 = .ok (.iconst 1, 1) := by decide +kernel
theorem d_T_append_37 : decode b_T_append 37 = .ok (.ireturn, 1) := by decide +kernel
theorem d_T_here_0 : decode b_T_here 0 = .ok (.aload_n 0, 1) := by decide +kernel
theorem d_T_here_1 : decode b_T_here 1 = .ok (.getfield 19, 3) := by decide +kernel
theorem d_T_here_4 : decode b_T_here 4 = .ok (.aload_n 0, 1) := by decide +kernel
theorem d_T_here_5 : decode b_T_here 5 = .ok (.getfield 15, 3) := by decide +kernel
theorem d_T_here_8 : decode b_T_here 8 = .ok (.if_icmp .ge 15, 3) := by decide +kernel
theorem d_T_here_11 : decode b_T_here 11 = .ok (.aload_n 0, 1) := by decide +kernel
theorem d_T_here_12 : decode b_T_here 12 = .ok (.getfield 9, 3) := by decide +kernel
theorem d_T_here_15 : decode b_T_here 15 = .ok (.aload_n 0, 1) := by decide +kernel
theorem d_T_here_16 : decode b_T_here 16 = .ok (.getfield 19, 3) := by decide +kernel
theorem d_T_here_19 : decode b_T_here 19 = .ok (.iaload, 1) := by decide +kernel
theorem d_T_here_20 : decode b_T_here 20 = .ok (.goto 4, 3) := by decide +kernel
theorem d_T_here_23 : decode b_T_here 23 = .ok (.iconst (-1), 1) := by decide +kernel
theorem d_T_here_24 : decode b_T_here 24 = .ok (.ireturn, 1) := by decide +kernel
theorem d_T_isBlankHere_0 : decode b_T_isBlankHere 0 = .ok (.aload_n 0, 1) := by decide +kernel
theorem d_T_isBlankHere_1 : decode b_T_isBlankHere 1 = .ok (.invokevirtual 39, 3) := by decide +kernel
theorem d_T_isBlankHere_4 : decode b_T_isBlankHere 4 = .ok (.istore_n 1, 1) := by decide +kernel
theorem d_T_isBlankHere_5 : decode b_T_isBlankHere 5 = .ok (.iload_n 1, 1) := by decide +kernel
theorem d_T_isBlankHere_6 : decode b_T_isBlankHere 6 = .ok (.bipush 32, 2) := by decide +kernel
theorem d_T_isBlankHere_8 : decode b_T_isBlankHere 8 = .ok (.if_icmp .eq 15, 3) := by decide +kernel
theorem d_T_isBlankHere_11 : decode b_T_isBlankHere 11 = .ok (.iload_n 1, 1) := by decide +kernel
theorem d_T_isBlankHere_12 : decode b_T_isBlankHere 12 = .ok (.bipush 9, 2) := by decide +kernel
theorem d_T_isBlankHere_14 : decode b_T_isBlankHere 14 = .ok (.if_icmp .eq 9, 3) := by decide +kernel
theorem d_T_isBlankHere_17 : decode b_T_isBlankHere 17 = .ok (.iload_n 1, 1) := by decide +kernel
theorem d_T_isBlankHere_18 : decode b_T_isBlankHere 18 = .ok (.bipush 13, 2) := by decide +kernel
theorem d_T_isBlankHere_20 : decode b_T_isBlankHere 20 = .ok (.if_icmp .ne 7, 3) := by decide +kernel
theorem d_T_isBlankHere_23 : decode b_T_isBlankHere 23 = .ok (.iconst 1, 1) := by decide +kernel
theorem d_T_isBlankHere_24 : decode b_T_isBlankHere 24 = .ok (.goto 4, 3) := by decide +kernel
theorem d_T_isBlankHere_27 : decode b_T_isBlankHere 27 = .ok (.iconst 0, 1) := by decide +kernel
theorem d_T_isBlankHere_28 : decode b_T_isBlankHere 28 = .ok (.ireturn, 1) := by decide +kernel
theorem d_T_skipToLine_0 : decode b_T_skipToLine 0 = .ok (.aload_n 0, 1) := by decide +kernel
theorem d_T_skipToLine_1 : decode b_T_skipToLine 1 = .ok (.getfield 19, 3) := by decide +kernel
theorem d_T_skipToLine_4 : decode b_T_skipToLine 4 = .ok (.aload_n 0, 1) := by decide +kernel
theorem d_T_skipToLine_5 : decode b_T_skipToLine 5 = .ok (.getfield 15, 3) := by decide +kernel
theorem d_T_skipToLine_8 : decode b_T_skipToLine 8 = .ok (.if_icmp .ge 32, 3) := by decide +kernel
theorem d_T_skipToLine_11 : decode b_T_skipToLine 11 = .ok (.aload_n 0, 1) := by decide +kernel
theorem d_T_skipToLine_12 : decode b_T_skipToLine 12 = .ok (.invokevirtual 101, 3) := by decide +kernel
theorem d_T_skipToLine_15 : decode b_T_skipToLine 15 = .ok (.ifCond .ne 12, 3) := by decide +kernel
theorem d_T_skipToLine_18 : decode b_T_skipToLine 18 = .ok (.aload_n 0, 1) := by decide +kernel
theorem d_T_skipToLine_19 : decode b_T_skipToLine 19 = .ok (.invokevirtual 39, 3) := by decide +kernel
theorem d_T_skipToLine_22 : decode b_T_skipToLine 22 = .ok (.bipush 10, 2) := by decide +kernel
theorem d_T_skipToLine_24 : decode b_T_skipToLine 24 = .ok (.if_icmp .ne 16, 3) := by decide +kernel
theorem d_T_skipToLine_27 : decode b_T_skipToLine 27 = .ok (.aload_n 0, 1) := by decide +kernel
theorem d_T_skipToLine_28 : decode b_T_skipToLine 28 = .ok (.dup, 1) := by decide +kernel
theorem d_T_skipToLine_29 : decode b_T_skipToLine 29 = .ok (.getfield 19, 3) := by decide +kernel
theorem d_T_skipToLine_32 : decode b_T_skipToLine 32 = .ok (.iconst 1, 1) := by decide +kernel
theorem d_T_skipToLine_33 : decode b_T_skipToLine 33 = .ok (.iadd, 1) := by decide +kernel
theorem d_T_skipToLine_34 : decode b_T_skipToLine 34 = .ok (.putfield 19, 3) := by decide +kernel
theorem d_T_skipToLine_37 : decode b_T_skipToLine 37 = .ok (.goto (-37), 3) := by decide +kernel
theorem d_T_skipToLine_40 : decode b_T_skipToLine 40 = .ok (.return_, 1) := by decide +kernel
theorem d_T_skipBlanks_0 : decode b_T_skipBlanks 0 = .ok (.aload_n 0, 1) := by decide +kernel
theorem d_T_skipBlanks_1 : decode b_T_skipBlanks 1 = .ok (.getfield 19, 3) := by decide +kernel
theorem d_T_skipBlanks_4 : decode b_T_skipBlanks 4 = .ok (.aload_n 0, 1) := by decide +kernel
theorem d_T_skipBlanks_5 : decode b_T_skipBlanks 5 = .ok (.getfield 15, 3) := by decide +kernel
theorem d_T_skipBlanks_8 : decode b_T_skipBlanks 8 = .ok (.if_icmp .ge 23, 3) := by decide +kernel
theorem d_T_skipBlanks_11 : decode b_T_skipBlanks 11 = .ok (.aload_n 0, 1) := by decide +kernel
theorem d_T_skipBlanks_12 : decode b_T_skipBlanks 12 = .ok (.invokevirtual 101, 3) := by decide +kernel
theorem d_T_skipBlanks_15 : decode b_T_skipBlanks 15 = .ok (.ifCond .eq 16, 3) := by decide +kernel
theorem d_T_skipBlanks_18 : decode b_T_skipBlanks 18 = .ok (.aload_n 0, 1) := by decide +kernel
theorem d_T_skipBlanks_19 : decode b_T_skipBlanks 19 = .ok (.dup, 1) := by decide +kernel
theorem d_T_skipBlanks_20 : decode b_T_skipBlanks 20 = .ok (.getfield 19, 3) := by decide +kernel
theorem d_T_skipBlanks_23 : decode b_T_skipBlanks 23 = .ok (.iconst 1, 1) := by decide +kernel
theorem d_T_skipBlanks_24 : decode b_T_skipBlanks 24 = .ok (.iadd, 1) := by decide +kernel
theorem d_T_skipBlanks_25 : decode b_T_skipBlanks 25 = .ok (.putfield 19, 3) := by decide +kernel
theorem d_T_skipBlanks_28 : decode b_T_skipBlanks 28 = .ok (.goto (-28), 3) := by decide +kernel
theorem d_T_skipBlanks_31 : decode b_T_skipBlanks 31 = .ok (.return_, 1) := by decide +kernel
theorem d_T_isSignHere_0 : decode b_T_isSignHere 0 = .ok (.aload_n 0, 1) := by decide +kernel
theorem d_T_isSignHere_1 : decode b_T_isSignHere 1 = .ok (.invokevirtual 39, 3) := by decide +kernel
theorem d_T_isSignHere_4 : decode b_T_isSignHere 4 = .ok (.bipush 43, 2) := by decide +kernel
theorem d_T_isSignHere_6 : decode b_T_isSignHere 6 = .ok (.if_icmp .eq 12, 3) := by decide +kernel
theorem d_T_isSignHere_9 : decode b_T_isSignHere 9 = .ok (.aload_n 0, 1) := by decide +kernel
theorem d_T_isSignHere_10 : decode b_T_isSignHere 10 = .ok (.invokevirtual 39, 3) := by decide +kernel
theorem d_T_isSignHere_13 : decode b_T_isSignHere 13 = .ok (.bipush 45, 2) := by decide +kernel
theorem d_T_isSignHere_15 : decode b_T_isSignHere 15 = .ok (.if_icmp .ne 7, 3) := by decide +kernel
theorem d_T_isSignHere_18 : decode b_T_isSignHere 18 = .ok (.iconst 1, 1) := by decide +kernel
theorem d_T_isSignHere_19 : decode b_T_isSignHere 19 = .ok (.goto 4, 3) := by decide +kernel
theorem d_T_isSignHere_22 : decode b_T_isSignHere 22 = .ok (.iconst 0, 1) := by decide +kernel
theorem d_T_isSignHere_23 : decode b_T_isSignHere 23 = .ok (.ireturn, 1) := by decide +kernel
theorem d_T_isDigitHere_0 : decode b_T_isDigitHere 0 = .ok (.aload_n 0, 1) := by decide +kernel
theorem d_T_isDigitHere_1 : decode b_T_isDigitHere 1 = .ok (.invokevirtual 39, 3) := by decide +kernel
theorem d_T_isDigitHere_4 : decode b_T_isDigitHere 4 = .ok (.bipush 48, 2) := by decide +kernel
theorem d_T_isDigitHere_6 : decode b_T_isDigitHere 6 = .ok (.if_icmp .lt 16, 3) := by decide +kernel
theorem d_T_isDigitHere_9 : decode b_T_isDigitHere 9 = .ok (.aload_n 0, 1) := by decide +kernel
theorem d_T_isDigitHere_10 : decode b_T_isDigitHere 10 = .ok (.invokevirtual 39, 3) := by decide +kernel
theorem d_T_isDigitHere_13 : decode b_T_isDigitHere 13 = .ok (.bipush 57, 2) := by decide +kernel
theorem d_T_isDigitHere_15 : decode b_T_isDigitHere 15 = .ok (.if_icmp .gt 7, 3) := by decide +kernel
theorem d_T_isDigitHere_18 : decode b_T_isDigitHere 18 = .ok (.iconst 1, 1) := by decide +kernel
theorem d_T_isDigitHere_19 : decode b_T_isDigitHere 19 = .ok (.goto 4, 3) := by decide +kernel
theorem d_T_isDigitHere_22 : decode b_T_isDigitHere 22 = .ok (.iconst 0, 1) := by decide +kernel
theorem d_T_isDigitHere_23 : decode b_T_isDigitHere 23 = .ok (.ireturn, 1) := by decide +kernel
theorem d_T_readNumber_0 : decode b_T_readNumber 0 = .ok (.iconst (-1), 1) := by decide +kernel
theorem d_T_readNumber_1 : decode b_T_readNumber 1 = .ok (.istore_n 1, 1) := by decide +kernel
theorem d_T_readNumber_2 : decode b_T_readNumber 2 = .ok (.aload_n 0, 1) := by decide +kernel
theorem d_T_readNumber_3 : decode b_T_readNumber 3 = .ok (.getfield 19, 3) := by decide +kernel
theorem d_T_readNumber_6 : decode b_T_readNumber 6 = .ok (.aload_n 0, 1) := by decide +kernel
theorem d_T_readNumber_7 : decode b_T_readNumber 7 = .ok (.getfield 15, 3) := by decide +kernel
theorem d_T_readNumber_10 : decode b_T_readNumber 10 = .ok (.if_icmp .ge 45, 3) := by decide +kernel
theorem d_T_readNumber_13 : decode b_T_readNumber 13 = .ok (.aload_n 0, 1) := by decide +kernel
theorem d_T_readNumber_14 : decode b_T_readNumber 14 = .ok (.invokevirtual 89, 3) := by decide +kernel
theorem d_T_readNumber_17 : decode b_T_readNumber 17 = .ok (.ifCond .eq 38, 3) := by decide +kernel
theorem d_T_readNumber_20 : decode b_T_readNumber 20 = .ok (.iload_n 1, 1) := by decide +kernel
theorem d_T_readNumber_21 : decode b_T_readNumber 21 = .ok (.iconst 0, 1) := by decide +kernel
theorem d_T_readNumber_22 : decode b_T_readNumber 22 = .ok (.invokestatic 92, 3) := by decide +kernel
theorem d_T_readNumber_25 : decode b_T_readNumber 25 = .ok (.bipush 10, 2) := by decide +kernel
theorem d_T_readNumber_27 : decode b_T_readNumber 27 = .ok (.imul, 1) := by decide +kernel
theorem d_T_readNumber_28 : decode b_T_readNumber 28 = .ok (.aload_n 0, 1) := by decide +kernel
theorem d_T_readNumber_29 : decode b_T_readNumber 29 = .ok (.invokevirtual 39, 3) := by decide +kernel
theorem d_T_readNumber_32 : decode b_T_readNumber 32 = .ok (.iadd, 1) := by decide +kernel
theorem d_T_readNumber_33 : decode b_T_readNumber 33 = .ok (.bipush 48, 2) := by decide +kernel
theorem d_T_readNumber_35 : decode b_T_readNumber 35 = .ok (.isub, 1) := by decide +kernel
theorem d_T_readNumber_36 : decode b_T_readNumber 36 = .ok (.bipush 40, 2) := by decide +kernel
theorem d_T_readNumber_38 : decode b_T_readNumber 38 = .ok (.invokestatic 98, 3) := by decide +kernel
theorem d_T_readNumber_41 : decode b_T_readNumber 41 = .ok (.istore_n 1, 1) := by decide +kernel
theorem d_T_readNumber_42 : decode b_T_readNumber 42 = .ok (.aload_n 0, 1) := by decide +kernel
theorem d_T_readNumber_43 : decode b_T_readNumber 43 = .ok (.dup, 1) := by decide +kernel
theorem d_T_readNumber_44 : decode b_T_readNumber 44 = .ok (.getfield 19, 3) := by decide +kernel
theorem d_T_readNumber_47 : decode b_T_readNumber 47 = .ok (.iconst 1, 1) := by decide +kernel
theorem d_T_readNumber_48 : decode b_T_readNumber 48 = .ok (.iadd, 1) := by decide +kernel
theorem d_T_readNumber_49 : decode b_T_readNumber 49 = .ok (.putfield 19, 3) := by decide +kernel
theorem d_T_readNumber_52 : decode b_T_readNumber 52 = .ok (.goto (-50), 3) := by decide +kernel
theorem d_T_readNumber_55 : decode b_T_readNumber 55 = .ok (.iload_n 1, 1) := by decide +kernel
theorem d_T_readNumber_56 : decode b_T_readNumber 56 = .ok (.ireturn, 1) := by decide +kernel
theorem d_T_readLiteral_0 : decode b_T_readLiteral 0 = .ok (.aload_n 0, 1) := by decide +kernel
theorem d_T_readLiteral_1 : decode b_T_readLiteral 1 = .ok (.getfield 19, 3) := by decide +kernel
theorem d_T_readLiteral_4 : decode b_T_readLiteral 4 = .ok (.istore_n 2, 1) := by decide +kernel
theorem d_T_readLiteral_5 : decode b_T_readLiteral 5 = .ok (.aload_n 0, 1) := by decide +kernel
theorem d_T_readLiteral_6 : decode b_T_readLiteral 6 = .ok (.invokevirtual 39, 3) := by decide +kernel
theorem d_T_readLiteral_9 : decode b_T_readLiteral 9 = .ok (.bipush 45, 2) := by decide +kernel
theorem d_T_readLiteral_11 : decode b_T_readLiteral 11 = .ok (.if_icmp .ne 7, 3) := by decide +kernel
theorem d_T_readLiteral_14 : decode b_T_readLiteral 14 = .ok (.iconst 1, 1) := by decide +kernel
theorem d_T_readLiteral_15 : decode b_T_readLiteral 15 = .ok (.goto 4, 3) := by decide +kernel
theorem d_T_readLiteral_18 : decode b_T_readLiteral 18 = .ok (.iconst 0, 1) := by decide +kernel
theorem d_T_readLiteral_19 : decode b_T_readLiteral 19 = .ok (.istore_n 3, 1) := by decide +kernel
theorem d_T_readLiteral_20 : decode b_T_readLiteral 20 = .ok (.aload_n 0, 1) := by decide +kernel
theorem d_T_readLiteral_21 : decode b_T_readLiteral 21 = .ok (.dup, 1) := by decide +kernel
theorem d_T_readLiteral_22 : decode b_T_readLiteral 22 = .ok (.getfield 19, 3) := by decide +kernel
theorem d_T_readLiteral_25 : decode b_T_readLiteral 25 = .ok (.iconst 1, 1) := by decide +kernel
theorem d_T_readLiteral_26 : decode b_T_readLiteral 26 = .ok (.iadd, 1) := by decide +kernel
theorem d_T_readLiteral_27 : decode b_T_readLiteral 27 = .ok (.putfield 19, 3) := by decide +kernel
theorem d_T_readLiteral_30 : decode b_T_readLiteral 30 = .ok (.aload_n 0, 1) := by decide +kernel
theorem d_T_readLiteral_31 : decode b_T_readLiteral 31 = .ok (.invokevirtual 53, 3) := by decide +kernel
theorem d_T_readLiteral_34 : decode b_T_readLiteral 34 = .ok (.aload_n 0, 1) := by decide +kernel
theorem d_T_readLiteral_35 : decode b_T_readLiteral 35 = .ok (.invokevirtual 66, 3) := by decide +kernel
theorem d_T_readLiteral_38 : decode b_T_readLiteral 38 = .ok (.istore 4, 2) := by decide +kernel
theorem d_T_readLiteral_40 : decode b_T_readLiteral 40 = .ok (.aload_n 0, 1) := by decide +kernel
theorem d_T_readLiteral_41 : decode b_T_readLiteral 41 = .ok (.invokevirtual 53, 3) := by decide +kernel
theorem d_T_readLiteral_44 : decode b_T_readLiteral 44 = .ok (.aload_n 0, 1) := by decide +kernel
theorem d_T_readLiteral_45 : decode b_T_readLiteral 45 = .ok (.getfield 29, 3) := by decide +kernel
theorem d_T_readLiteral_48 : decode b_T_readLiteral 48 = .ok (.iload_n 1, 1) := by decide +kernel
theorem d_T_readLiteral_49 : decode b_T_readLiteral 49 = .ok (.invokevirtual 69, 3) := by decide +kernel
theorem d_T_readLiteral_52 : decode b_T_readLiteral 52 = .ok (.ifCond .ne 15, 3) := by decide +kernel
theorem d_T_readLiteral_55 : decode b_T_readLiteral 55 = .ok (.aload_n 0, 1) := by decide +kernel
theorem d_T_readLiteral_56 : decode b_T_readLiteral 56 = .ok (.getfield 25, 3) := by decide +kernel
theorem d_T_readLiteral_59 : decode b_T_readLiteral 59 = .ok (.iload 4, 2) := by decide +kernel
theorem d_T_readLiteral_61 : decode b_T_readLiteral 61 = .ok (.invokevirtual 73, 3) := by decide +kernel
theorem d_T_readLiteral_64 : decode b_T_readLiteral 64 = .ok (.ifCond .ne 9, 3) := by decide +kernel
theorem d_T_readLiteral_67 : decode b_T_readLiteral 67 = .ok (.aload_n 0, 1) := by decide +kernel
theorem d_T_readLiteral_68 : decode b_T_readLiteral 68 = .ok (.iload_n 2, 1) := by decide +kernel
theorem d_T_readLiteral_69 : decode b_T_readLiteral 69 = .ok (.putfield 22, 3) := by decide +kernel
theorem d_T_readLiteral_72 : decode b_T_readLiteral 72 = .ok (.return_, 1) := by decide +kernel
theorem d_T_readLiteral_73 : decode b_T_readLiteral 73 = .ok (.iconst 2, 1) := by decide +kernel
theorem d_T_readLiteral_74 : decode b_T_readLiteral 74 = .ok (.iload 4, 2) := by decide +kernel
theorem d_T_readLiteral_76 : decode b_T_readLiteral 76 = .ok (.imul, 1) := by decide +kernel
theorem d_T_readLiteral_77 : decode b_T_readLiteral 77 = .ok (.iload_n 3, 1) := by decide +kernel
theorem d_T_readLiteral_78 : decode b_T_readLiteral 78 = .ok (.iadd, 1) := by decide +kernel
theorem d_T_readLiteral_79 : decode b_T_readLiteral 79 = .ok (.istore 5, 2) := by decide +kernel
theorem d_T_readLiteral_81 : decode b_T_readLiteral 81 = .ok (.aload_n 0, 1) := by decide +kernel
theorem d_T_readLiteral_82 : decode b_T_readLiteral 82 = .ok (.getfield 29, 3) := by decide +kernel
theorem d_T_readLiteral_85 : decode b_T_readLiteral 85 = .ok (.getfield 78, 3) := by decide +kernel
theorem d_T_readLiteral_88 : decode b_T_readLiteral 88 = .ok (.iload_n 1, 1) := by decide +kernel
theorem d_T_readLiteral_89 : decode b_T_readLiteral 89 = .ok (.iaload, 1) := by decide +kernel
theorem d_T_readLiteral_90 : decode b_T_readLiteral 90 = .ok (.iconst 1, 1) := by decide +kernel
theorem d_T_readLiteral_91 : decode b_T_readLiteral 91 = .ok (.if_icmp .eq 16, 3) := by decide +kernel
theorem d_T_readLiteral_94 : decode b_T_readLiteral 94 = .ok (.aload_n 0, 1) := by decide +kernel
theorem d_T_readLiteral_95 : decode b_T_readLiteral 95 = .ok (.getfield 29, 3) := by decide +kernel
theorem d_T_readLiteral_98 : decode b_T_readLiteral 98 = .ok (.iload_n 1, 1) := by decide +kernel
theorem d_T_readLiteral_99 : decode b_T_readLiteral 99 = .ok (.iload 5, 2) := by decide +kernel
theorem d_T_readLiteral_101 : decode b_T_readLiteral 101 = .ok (.invokevirtual 81, 3) := by decide +kernel
theorem d_T_readLiteral_104 : decode b_T_readLiteral 104 = .ok (.ifCond .ne 13, 3) := by decide +kernel
theorem d_T_readLiteral_107 : decode b_T_readLiteral 107 = .ok (.aload_n 0, 1) := by decide +kernel
theorem d_T_readLiteral_108 : decode b_T_readLiteral 108 = .ok (.getfield 29, 3) := by decide +kernel
theorem d_T_readLiteral_111 : decode b_T_readLiteral 111 = .ok (.iload_n 1, 1) := by decide +kernel
theorem d_T_readLiteral_112 : decode b_T_readLiteral 112 = .ok (.iload 5, 2) := by decide +kernel
theorem d_T_readLiteral_114 : decode b_T_readLiteral 114 = .ok (.invokevirtual 85, 3) := by decide +kernel
theorem d_T_readLiteral_117 : decode b_T_readLiteral 117 = .ok (.return_, 1) := by decide +kernel
theorem d_T_endLine_0 : decode b_T_endLine 0 = .ok (.aload_n 0, 1) := by decide +kernel
theorem d_T_endLine_1 : decode b_T_endLine 1 = .ok (.getfield 29, 3) := by decide +kernel
theorem d_T_endLine_4 : decode b_T_endLine 4 = .ok (.getfield 78, 3) := by decide +kernel
theorem d_T_endLine_7 : decode b_T_endLine 7 = .ok (.iload_n 1, 1) := by decide +kernel
theorem d_T_endLine_8 : decode b_T_endLine 8 = .ok (.iaload, 1) := by decide +kernel
theorem d_T_endLine_9 : decode b_T_endLine 9 = .ok (.iconst 1, 1) := by decide +kernel
theorem d_T_endLine_10 : decode b_T_endLine 10 = .ok (.if_icmp .ne 18, 3) := by decide +kernel
theorem d_T_endLine_13 : decode b_T_endLine 13 = .ok (.aload_n 0, 1) := by decide +kernel
theorem d_T_endLine_14 : decode b_T_endLine 14 = .ok (.getfield 29, 3) := by decide +kernel
theorem d_T_endLine_17 : decode b_T_endLine 17 = .ok (.iload_n 1, 1) := by decide +kernel
theorem d_T_endLine_18 : decode b_T_endLine 18 = .ok (.invokevirtual 69, 3) := by decide +kernel
theorem d_T_endLine_21 : decode b_T_endLine 21 = .ok (.ifCond .ne 7, 3) := by decide +kernel
theorem d_T_endLine_24 : decode b_T_endLine 24 = .ok (.iconst 1, 1) := by decide +kernel
theorem d_T_endLine_25 : decode b_T_endLine 25 = .ok (.goto 4, 3) := by decide +kernel
theorem d_T_endLine_28 : decode b_T_endLine 28 = .ok (.iconst 0, 1) := by decide +kernel
theorem d_T_endLine_29 : decode b_T_endLine 29 = .ok (.istore_n 2, 1) := by decide +kernel
theorem d_T_endLine_30 : decode b_T_endLine 30 = .ok (.aload_n 0, 1) := by decide +kernel
theorem d_T_endLine_31 : decode b_T_endLine 31 = .ok (.getfield 19, 3) := by decide +kernel
theorem d_T_endLine_34 : decode b_T_endLine 34 = .ok (.aload_n 0, 1) := by decide +kernel
theorem d_T_endLine_35 : decode b_T_endLine 35 = .ok (.getfield 15, 3) := by decide +kernel
theorem d_T_endLine_38 : decode b_T_endLine 38 = .ok (.if_icmp .ge 12, 3) := by decide +kernel
theorem d_T_endLine_41 : decode b_T_endLine 41 = .ok (.aload_n 0, 1) := by decide +kernel
theorem d_T_endLine_42 : decode b_T_endLine 42 = .ok (.invokevirtual 39, 3) := by decide +kernel
theorem d_T_endLine_45 : decode b_T_endLine 45 = .ok (.bipush 10, 2) := by decide +kernel
theorem d_T_endLine_47 : decode b_T_endLine 47 = .ok (.if_icmp .ne 7, 3) := by decide +kernel
theorem d_T_endLine_50 : decode b_T_endLine 50 = .ok (.iconst 1, 1) := by decide +kernel
theorem d_T_endLine_51 : decode b_T_endLine 51 = .ok (.goto 4, 3) := by decide +kernel
theorem d_T_endLine_54 : decode b_T_endLine 54 = .ok (.iconst 0, 1) := by decide +kernel
theorem d_T_endLine_55 : decode b_T_endLine 55 = .ok (.istore_n 3, 1) := by decide +kernel
theorem d_T_endLine_56 : decode b_T_endLine 56 = .ok (.iload_n 2, 1) := by decide +kernel
theorem d_T_endLine_57 : decode b_T_endLine 57 = .ok (.ifCond .ne 7, 3) := by decide +kernel
theorem d_T_endLine_60 : decode b_T_endLine 60 = .ok (.iload_n 3, 1) := by decide +kernel
theorem d_T_endLine_61 : decode b_T_endLine 61 = .ok (.ifCond .ne 11, 3) := by decide +kernel
theorem d_T_endLine_64 : decode b_T_endLine 64 = .ok (.aload_n 0, 1) := by decide +kernel
theorem d_T_endLine_65 : decode b_T_endLine 65 = .ok (.aload_n 0, 1) := by decide +kernel
theorem d_T_endLine_66 : decode b_T_endLine 66 = .ok (.getfield 19, 3) := by decide +kernel
theorem d_T_endLine_69 : decode b_T_endLine 69 = .ok (.putfield 22, 3) := by decide +kernel
theorem d_T_endLine_72 : decode b_T_endLine 72 = .ok (.return_, 1) := by decide +kernel
theorem d_T_readLine_0 : decode b_T_readLine 0 = .ok (.aload_n 0, 1) := by decide +kernel
theorem d_T_readLine_1 : decode b_T_readLine 1 = .ok (.invokevirtual 39, 3) := by decide +kernel
theorem d_T_readLine_4 : decode b_T_readLine 4 = .ok (.istore_n 1, 1) := by decide +kernel
theorem d_T_readLine_5 : decode b_T_readLine 5 = .ok (.iload_n 1, 1) := by decide +kernel
theorem d_T_readLine_6 : decode b_T_readLine 6 = .ok (.bipush 99, 2) := by decide +kernel
theorem d_T_readLine_8 : decode b_T_readLine 8 = .ok (.if_icmp .eq 9, 3) := by decide +kernel
theorem d_T_readLine_11 : decode b_T_readLine 11 = .ok (.iload_n 1, 1) := by decide +kernel
theorem d_T_readLine_12 : decode b_T_readLine 12 = .ok (.bipush 61, 2) := by decide +kernel
theorem d_T_readLine_14 : decode b_T_readLine 14 = .ok (.if_icmp .ne 13, 3) := by decide +kernel
theorem d_T_readLine_17 : decode b_T_readLine 17 = .ok (.aload_n 0, 1) := by decide +kernel
theorem d_T_readLine_18 : decode b_T_readLine 18 = .ok (.getfield 29, 3) := by decide +kernel
theorem d_T_readLine_21 : decode b_T_readLine 21 = .ok (.invokevirtual 43, 3) := by decide +kernel
theorem d_T_readLine_24 : decode b_T_readLine 24 = .ok (.ifCond .eq 12, 3) := by decide +kernel
theorem d_T_readLine_27 : decode b_T_readLine 27 = .ok (.aload_n 0, 1) := by decide +kernel
theorem d_T_readLine_28 : decode b_T_readLine 28 = .ok (.aload_n 0, 1) := by decide +kernel
theorem d_T_readLine_29 : decode b_T_readLine 29 = .ok (.getfield 19, 3) := by decide +kernel
theorem d_T_readLine_32 : decode b_T_readLine 32 = .ok (.putfield 22, 3) := by decide +kernel
theorem d_T_readLine_35 : decode b_T_readLine 35 = .ok (.return_, 1) := by decide +kernel
theorem d_T_readLine_36 : decode b_T_readLine 36 = .ok (.aload_n 0, 1) := by decide +kernel
theorem d_T_readLine_37 : decode b_T_readLine 37 = .ok (.getfield 29, 3) := by decide +kernel
theorem d_T_readLine_40 : decode b_T_readLine 40 = .ok (.iload_n 1, 1) := by decide +kernel
theorem d_T_readLine_41 : decode b_T_readLine 41 = .ok (.bipush 61, 2) := by decide +kernel
theorem d_T_readLine_43 : decode b_T_readLine 43 = .ok (.if_icmp .ne 7, 3) := by decide +kernel
theorem d_T_readLine_46 : decode b_T_readLine 46 = .ok (.iconst 1, 1) := by decide +kernel
theorem d_T_readLine_47 : decode b_T_readLine 47 = .ok (.goto 4, 3) := by decide +kernel
theorem d_T_readLine_50 : decode b_T_readLine 50 = .ok (.iconst 0, 1) := by decide +kernel
theorem d_T_readLine_51 : decode b_T_readLine 51 = .ok (.invokevirtual 49, 3) := by decide +kernel
theorem d_T_readLine_54 : decode b_T_readLine 54 = .ok (.istore_n 2, 1) := by decide +kernel
theorem d_T_readLine_55 : decode b_T_readLine 55 = .ok (.aload_n 0, 1) := by decide +kernel
theorem d_T_readLine_56 : decode b_T_readLine 56 = .ok (.dup, 1) := by decide +kernel
theorem d_T_readLine_57 : decode b_T_readLine 57 = .ok (.getfield 19, 3) := by decide +kernel
theorem d_T_readLine_60 : decode b_T_readLine 60 = .ok (.iconst 1, 1) := by decide +kernel
theorem d_T_readLine_61 : decode b_T_readLine 61 = .ok (.iadd, 1) := by decide +kernel
theorem d_T_readLine_62 : decode b_T_readLine 62 = .ok (.putfield 19, 3) := by decide +kernel
theorem d_T_readLine_65 : decode b_T_readLine 65 = .ok (.aload_n 0, 1) := by decide +kernel
theorem d_T_readLine_66 : decode b_T_readLine 66 = .ok (.invokevirtual 53, 3) := by decide +kernel
theorem d_T_readLine_69 : decode b_T_readLine 69 = .ok (.iconst 0, 1) := by decide +kernel
theorem d_T_readLine_70 : decode b_T_readLine 70 = .ok (.istore_n 3, 1) := by decide +kernel
theorem d_T_readLine_71 : decode b_T_readLine 71 = .ok (.iload_n 3, 1) := by decide +kernel
theorem d_T_readLine_72 : decode b_T_readLine 72 = .ok (.sipush 1000, 3) := by decide +kernel
theorem d_T_readLine_75 : decode b_T_readLine 75 = .ok (.if_icmp .ge 29, 3) := by decide +kernel
theorem d_T_readLine_78 : decode b_T_readLine 78 = .ok (.aload_n 0, 1) := by decide +kernel
theorem d_T_readLine_79 : decode b_T_readLine 79 = .ok (.invokevirtual 56, 3) := by decide +kernel
theorem d_T_readLine_82 : decode b_T_readLine 82 = .ok (.ifCond .eq 22, 3) := by decide +kernel
theorem d_T_readLine_85 : decode b_T_readLine 85 = .ok (.aload_n 0, 1) := by decide +kernel
theorem d_T_readLine_86 : decode b_T_readLine 86 = .ok (.getfield 22, 3) := by decide +kernel
theorem d_T_readLine_89 : decode b_T_readLine 89 = .ok (.iconst (-1), 1) := by decide +kernel
theorem d_T_readLine_90 : decode b_T_readLine 90 = .ok (.if_icmp .ne 14, 3) := by decide +kernel
theorem d_T_readLine_93 : decode b_T_readLine 93 = .ok (.aload_n 0, 1) := by decide +kernel
theorem d_T_readLine_94 : decode b_T_readLine 94 = .ok (.iload_n 2, 1) := by decide +kernel
theorem d_T_readLine_95 : decode b_T_readLine 95 = .ok (.invokevirtual 59, 3) := by decide +kernel
theorem d_T_readLine_98 : decode b_T_readLine 98 = .ok (.iinc 3 1, 3) := by decide +kernel
theorem d_T_readLine_101 : decode b_T_readLine 101 = .ok (.goto (-30), 3) := by decide +kernel
theorem d_T_readLine_104 : decode b_T_readLine 104 = .ok (.aload_n 0, 1) := by decide +kernel
theorem d_T_readLine_105 : decode b_T_readLine 105 = .ok (.getfield 22, 3) := by decide +kernel
theorem d_T_readLine_108 : decode b_T_readLine 108 = .ok (.iconst (-1), 1) := by decide +kernel
theorem d_T_readLine_109 : decode b_T_readLine 109 = .ok (.if_icmp .ne 8, 3) := by decide +kernel
theorem d_T_readLine_112 : decode b_T_readLine 112 = .ok (.aload_n 0, 1) := by decide +kernel
theorem d_T_readLine_113 : decode b_T_readLine 113 = .ok (.iload_n 2, 1) := by decide +kernel
theorem d_T_readLine_114 : decode b_T_readLine 114 = .ok (.invokevirtual 63, 3) := by decide +kernel
theorem d_T_readLine_117 : decode b_T_readLine 117 = .ok (.return_, 1) := by decide +kernel
theorem d_T_readAll_0 : decode b_T_readAll 0 = .ok (.aload_n 0, 1) := by decide +kernel
theorem d_T_readAll_1 : decode b_T_readAll 1 = .ok (.iconst 0, 1) := by decide +kernel
theorem d_T_readAll_2 : decode b_T_readAll 2 = .ok (.putfield 19, 3) := by decide +kernel
theorem d_T_readAll_5 : decode b_T_readAll 5 = .ok (.aload_n 0, 1) := by decide +kernel
theorem d_T_readAll_6 : decode b_T_readAll 6 = .ok (.iconst (-1), 1) := by decide +kernel
theorem d_T_readAll_7 : decode b_T_readAll 7 = .ok (.putfield 22, 3) := by decide +kernel
theorem d_T_readAll_10 : decode b_T_readAll 10 = .ok (.aload_n 0, 1) := by decide +kernel
theorem d_T_readAll_11 : decode b_T_readAll 11 = .ok (.invokevirtual 33, 3) := by decide +kernel
theorem d_T_readAll_14 : decode b_T_readAll 14 = .ok (.iconst 0, 1) := by decide +kernel
theorem d_T_readAll_15 : decode b_T_readAll 15 = .ok (.istore_n 1, 1) := by decide +kernel
theorem d_T_readAll_16 : decode b_T_readAll 16 = .ok (.iload_n 1, 1) := by decide +kernel
theorem d_T_readAll_17 : decode b_T_readAll 17 = .ok (.bipush 24, 2) := by decide +kernel
theorem d_T_readAll_19 : decode b_T_readAll 19 = .ok (.if_icmp .gt 36, 3) := by decide +kernel
theorem d_T_readAll_22 : decode b_T_readAll 22 = .ok (.aload_n 0, 1) := by decide +kernel
theorem d_T_readAll_23 : decode b_T_readAll 23 = .ok (.getfield 19, 3) := by decide +kernel
theorem d_T_readAll_26 : decode b_T_readAll 26 = .ok (.aload_n 0, 1) := by decide +kernel
theorem d_T_readAll_27 : decode b_T_readAll 27 = .ok (.getfield 15, 3) := by decide +kernel
theorem d_T_readAll_30 : decode b_T_readAll 30 = .ok (.if_icmp .ge 25, 3) := by decide +kernel
theorem d_T_readAll_33 : decode b_T_readAll 33 = .ok (.aload_n 0, 1) := by decide +kernel
theorem d_T_readAll_34 : decode b_T_readAll 34 = .ok (.getfield 22, 3) := by decide +kernel
theorem d_T_readAll_37 : decode b_T_readAll 37 = .ok (.iconst (-1), 1) := by decide +kernel
theorem d_T_readAll_38 : decode b_T_readAll 38 = .ok (.if_icmp .ne 17, 3) := by decide +kernel
theorem d_T_readAll_41 : decode b_T_readAll 41 = .ok (.aload_n 0, 1) := by decide +kernel
theorem d_T_readAll_42 : decode b_T_readAll 42 = .ok (.invokevirtual 36, 3) := by decide +kernel
theorem d_T_readAll_45 : decode b_T_readAll 45 = .ok (.aload_n 0, 1) := by decide +kernel
theorem d_T_readAll_46 : decode b_T_readAll 46 = .ok (.invokevirtual 33, 3) := by decide +kernel
theorem d_T_readAll_49 : decode b_T_readAll 49 = .ok (.iinc 1 1, 3) := by decide +kernel
theorem d_T_readAll_52 : decode b_T_readAll 52 = .ok (.goto (-36), 3) := by decide +kernel
theorem d_T_readAll_55 : decode b_T_readAll 55 = .ok (.aload_n 0, 1) := by decide +kernel
theorem d_T_readAll_56 : decode b_T_readAll 56 = .ok (.iconst 0, 1) := by decide +kernel
theorem d_T_readAll_57 : decode b_T_readAll 57 = .ok (.putfield 15, 3) := by decide +kernel
theorem d_T_readAll_60 : decode b_T_readAll 60 = .ok (.aload_n 0, 1) := by decide +kernel
theorem d_T_readAll_61 : decode b_T_readAll 61 = .ok (.getfield 22, 3) := by decide +kernel
theorem d_T_readAll_64 : decode b_T_readAll 64 = .ok (.ireturn, 1) := by decide +kernel
theorem d_T_new_0 : decode b_T_new 0 = .ok (.aload_n 0, 1) := by decide +kernel
theorem d_T_new_1 : decode b_T_new 1 = .ok (.invokespecial 3, 3) := by decide +kernel
theorem d_T_new_4 : decode b_T_new 4 = .ok (.aload_n 0, 1) := by decide +kernel
theorem d_T_new_5 : decode b_T_new 5 = .ok (.sipush 1000, 3) := by decide +kernel
theorem d_T_new_8 : decode b_T_new 8 = .ok (.newarray .int, 2) := by decide +kernel
theorem d_T_new_10 : decode b_T_new 10 = .ok (.putfield 9, 3) := by decide +kernel
theorem d_T_new_13 : decode b_T_new 13 = .ok (.aload_n 0, 1) := by decide +kernel
theorem d_T_new_14 : decode b_T_new 14 = .ok (.iconst 0, 1) := by decide +kernel
theorem d_T_new_15 : decode b_T_new 15 = .ok (.putfield 15, 3) := by decide +kernel
theorem d_T_new_18 : decode b_T_new 18 = .ok (.aload_n 0, 1) := by decide +kernel
theorem d_T_new_19 : decode b_T_new 19 = .ok (.iconst 0, 1) := by decide +kernel
theorem d_T_new_20 : decode b_T_new 20 = .ok (.putfield 19, 3) := by decide +kernel
theorem d_T_new_23 : decode b_T_new 23 = .ok (.aload_n 0, 1) := by decide +kernel
theorem d_T_new_24 : decode b_T_new 24 = .ok (.iconst (-1), 1) := by decide +kernel
theorem d_T_new_25 : decode b_T_new 25 = .ok (.putfield 22, 3) := by decide +kernel
theorem d_T_new_28 : decode b_T_new 28 = .ok (.aload_n 0, 1) := by decide +kernel
theorem d_T_new_29 : decode b_T_new 29 = .ok (.aload_n 1, 1) := by decide +kernel
theorem d_T_new_30 : decode b_T_new 30 = .ok (.putfield 25, 3) := by decide +kernel
theorem d_T_new_33 : decode b_T_new 33 = .ok (.aload_n 0, 1) := by decide +kernel
theorem d_T_new_34 : decode b_T_new 34 = .ok (.aload_n 2, 1) := by decide +kernel
theorem d_T_new_35 : decode b_T_new 35 = .ok (.putfield 29, 3) := by decide +kernel
theorem d_T_new_38 : decode b_T_new 38 = .ok (.return_, 1) := by decide +kernel
def rm_T_append : Room := { frames := 0, cells := 0, slots := 0, locals := 0 }
set_option maxHeartbeats 4000000 in
set_option maxRecDepth 100000 in
theorem c_T_append (l : Launch) (D : va_G) (cA : Nat → ClassId) (ad : Nat → Nat) (sz : Nat) (T_size : Int32) (T_place : Int32) (T_fault : Int32) (T_bytes : (Nat → Int32)) (p1 : Int32) (post : Int32 → Int32 → (Nat → Int32) → Prop) (h : wp_T_append T_size T_bytes p1 post) : Met l y_T_append w_T_append rm_T_append (mPc D cA [.ref (ad 13), .int p1] [(k_T cA ad T_size T_place T_fault), (k_T_bytes cA ad T_bytes)] sz) (va_Qi (fun (r : Int32) (u : Int32 × (Nat → Int32)) => post r u.1 u.2) (mB D (va_A [(k_T cA ad T_size T_place T_fault), (k_T_bytes cA ad T_bytes)] sz) (fun (u : Int32 × (Nat → Int32)) => [(k_T cA ad u.1 T_place T_fault), (k_T_bytes cA ad u.2)])) (va_A [(k_T cA ad T_size T_place T_fault), (k_T_bytes cA ad T_bytes)] sz)) 0 0 (va_A [(k_T cA ad T_size T_place T_fault), (k_T_bytes cA ad T_bytes)] sz) := by
  refine m_methZ (by decide) rfl (Nat.le_of_ble_eq_true rfl) ?_
  intro p e s m below meth c A Q ls hx hb hml hown hts hK hA hw hl hE
  have hl : lv_has ls 2 [(0, .ref (ad 13)), (1, .int p1)] := hl
  have hown : s.vm.findClass R_T = some m.cls := hown
  have hg : ∀ {w : Cond}, w ∈ gw → w.before _ s = true := fun h => hts _ (List.mem_cons_of_mem _ h)
  unfold wp_T_append at h
  refine lv_aload_n hx hb d_T_append_0 rfl (lv_at hl 0 rfl) ?_
  refine va_get (D := D) (ci := 4) (v := .int T_size) (C := R_T) (T := T_T) (N := 6) hx hb hts (fun w h => List.mem_cons_of_mem _ (iw_T w h)) hown hK.1 hw.1 0 rfl rfl 3 (by decide) (hg gm_124) (fun _ h9 => h9) rfl d_T_append_1 ?_
  refine lv_sipush (v := 1000) hx hb d_T_append_4 (by decide) ?_
  refine lv_icmp_lt (tgt := 12) hx hb d_T_append_7 (by decide) (fun hc => ?_) (fun hc => ?_)
  · have h := h.1 hc
    refine lv_aload_n hx hb d_T_append_12 rfl (lv_at hl 0 rfl) ?_
    refine va_get (D := D) (ci := 4) (v := .ref (ad 14)) (C := R_T) (T := T_T) (N := 6) hx hb hts (fun w h => List.mem_cons_of_mem _ (iw_T w h)) hown hK.1 hw.1 0 rfl rfl 2 (by decide) (hg gm_123) (fun _ h9 => h9) rfl d_T_append_13 ?_
    refine lv_aload_n hx hb d_T_append_16 rfl (lv_at hl 0 rfl) ?_
    refine va_get (D := D) (ci := 4) (v := .int T_size) (C := R_T) (T := T_T) (N := 6) hx hb hts (fun w h => List.mem_cons_of_mem _ (iw_T w h)) hown hK.1 hw.1 0 rfl rfl 3 (by decide) (hg gm_124) (fun _ h9 => h9) rfl d_T_append_17 ?_
    refine lv_iload_n hx hb d_T_append_20 rfl (lv_at hl 1 rfl) ?_
    refine lv_sipush (v := 255) hx hb d_T_append_21 (by decide) ?_
    refine lv_iand hx hb d_T_append_24 ?_
    refine m_iast (ws' := [(k_T cA ad T_size T_place T_fault), (k_T_bytes cA ad (upd T_bytes T_size.toNatClampNeg (p1 &&& 255)))]) hx hb hK.1 hw 1 0 rfl rfl h.1 rfl d_T_append_25 (fun H locs hw => ?_)
    have h := h.2
    refine lv_aload_n hx hb d_T_append_26 rfl (lv_at hl 0 rfl) ?_
    refine lv_dup hx hb d_T_append_27 rfl ?_
    refine va_get (D := D) (ci := 4) (v := .int T_size) (C := R_T) (T := T_T) (N := 6) hx hb hts (fun w h => List.mem_cons_of_mem _ (iw_T w h)) hown hK.1 hw.1 0 rfl rfl 3 (by decide) (hg gm_124) (fun _ h9 => h9) rfl d_T_append_28 ?_
    refine lv_iconst (v := 1) hx hb d_T_append_31 (by decide) ?_
    refine lv_iadd hx hb d_T_append_32 ?_
    refine m_put (ws' := [(k_T cA ad (T_size + 1) T_place T_fault), (k_T_bytes cA ad (upd T_bytes T_size.toNatClampNeg (p1 &&& 255)))]) (ci := 4) (v := .int (T_size + 1)) (ty := .int) (C := R_T) (T := T_T) (N := 6) hx hb hts (fun w h => List.mem_cons_of_mem _ (iw_T w h)) ty_T tyok_T nm_T hown hK.1 hw 0 rfl rfl 3 (by decide) (hg gm_124) (fun _ h9 => h9) rfl (by decide +kernel) rfl rfl (Nat.le_of_ble_eq_true rfl) rfl d_T_append_33 (fun H locs hw => ?_)
    refine lv_iconst (v := 1) hx hb d_T_append_36 (by decide) ?_
    exact hE 1 ((T_size + 1), (upd T_bytes T_size.toNatClampNeg (p1 &&& 255))) _ _ _ _ h rfl hw d_T_append_37
  · have h := h.2 hc
    refine lv_iconst (v := 0) hx hb d_T_append_10 (by decide) ?_
    exact hE 0 (T_size, T_bytes) _ _ _ _ h rfl hw d_T_append_11
def rm_T_here : Room := { frames := 0, cells := 0, slots := 0, locals := 0 }
set_option maxHeartbeats 4000000 in
set_option maxRecDepth 100000 in
theorem c_T_here (l : Launch) (D : va_G) (cA : Nat → ClassId) (ad : Nat → Nat) (sz : Nat) (T_size : Int32) (T_place : Int32) (T_fault : Int32) (T_bytes : (Nat → Int32)) (post : Int32 → Prop) (h : wp_T_here T_size T_place T_bytes post) : Met l y_T_here w_T_here rm_T_here (mPc D cA [.ref (ad 13)] [(k_T cA ad T_size T_place T_fault), (k_T_bytes cA ad T_bytes)] sz) (va_Qi (fun (r : Int32) (_ : Unit) => post r) (mB D (va_A [(k_T cA ad T_size T_place T_fault), (k_T_bytes cA ad T_bytes)] sz) (fun (_ : Unit) => [(k_T cA ad T_size T_place T_fault), (k_T_bytes cA ad T_bytes)])) (va_A [(k_T cA ad T_size T_place T_fault), (k_T_bytes cA ad T_bytes)] sz)) 0 0 (va_A [(k_T cA ad T_size T_place T_fault), (k_T_bytes cA ad T_bytes)] sz) := by
  refine m_methI (by decide) rfl (Nat.le_of_ble_eq_true rfl) ?_
  intro p e s m below meth c A Q ls hx hb hml hown hts hK hA hw hl hE
  have hl : lv_has ls 1 [(0, .ref (ad 13))] := hl
  have hown : s.vm.findClass R_T = some m.cls := hown
  have hg : ∀ {w : Cond}, w ∈ gw → w.before _ s = true := fun h => hts _ (List.mem_cons_of_mem _ h)
  unfold wp_T_here at h
  refine lv_aload_n hx hb d_T_here_0 rfl (lv_at hl 0 rfl) ?_
  refine va_get (D := D) (ci := 4) (v := .int T_place) (C := R_T) (T := T_T) (N := 6) hx hb hts (fun w h => List.mem_cons_of_mem _ (iw_T w h)) hown hK.1 hw.1 0 rfl rfl 4 (by decide) (hg gm_126) (fun _ h9 => h9) rfl d_T_here_1 ?_
  refine lv_aload_n hx hb d_T_here_4 rfl (lv_at hl 0 rfl) ?_
  refine va_get (D := D) (ci := 4) (v := .int T_size) (C := R_T) (T := T_T) (N := 6) hx hb hts (fun w h => List.mem_cons_of_mem _ (iw_T w h)) hown hK.1 hw.1 0 rfl rfl 3 (by decide) (hg gm_124) (fun _ h9 => h9) rfl d_T_here_5 ?_
  refine lv_icmp_ge (tgt := 23) hx hb d_T_here_8 (by decide) (fun hc => ?_) (fun hc => ?_)
  · have h := h.1 hc
    refine lv_iconst (v := (-1)) hx hb d_T_here_23 (by decide) ?_
    exact hE (-1) () _ _ _ _ h hw d_T_here_24
  · have h := h.2 hc
    refine lv_aload_n hx hb d_T_here_11 rfl (lv_at hl 0 rfl) ?_
    refine va_get (D := D) (ci := 4) (v := .ref (ad 14)) (C := R_T) (T := T_T) (N := 6) hx hb hts (fun w h => List.mem_cons_of_mem _ (iw_T w h)) hown hK.1 hw.1 0 rfl rfl 2 (by decide) (hg gm_123) (fun _ h9 => h9) rfl d_T_here_12 ?_
    refine lv_aload_n hx hb d_T_here_15 rfl (lv_at hl 0 rfl) ?_
    refine va_get (D := D) (ci := 4) (v := .int T_place) (C := R_T) (T := T_T) (N := 6) hx hb hts (fun w h => List.mem_cons_of_mem _ (iw_T w h)) hown hK.1 hw.1 0 rfl rfl 4 (by decide) (hg gm_126) (fun _ h9 => h9) rfl d_T_here_16 ?_
    refine va_iald hx hb hK.1 hw.1 1 0 rfl rfl h.1 d_T_here_19 ?_
    have h := h.2
    refine lv_goto (tgt := 24) hx hb d_T_here_20 (by decide) ?_
    exact hE (T_bytes T_place.toNatClampNeg) () _ _ _ _ h hw d_T_here_24
def rm_T_isBlankHere : Room := { frames := 1, cells := 0, slots := 0, locals := 20 }
set_option maxHeartbeats 4000000 in
set_option maxRecDepth 100000 in
theorem c_T_isBlankHere (l : Launch) (D : va_G) (cA : Nat → ClassId) (ad : Nat → Nat) (sz : Nat) (T_size : Int32) (T_place : Int32) (T_fault : Int32) (T_bytes : (Nat → Int32)) (post : Int32 → Prop) (h : wp_T_isBlankHere T_size T_place T_bytes post) : Met l y_T_isBlankHere w_T_isBlankHere rm_T_isBlankHere (mPc D cA [.ref (ad 13)] [(k_T cA ad T_size T_place T_fault), (k_T_bytes cA ad T_bytes)] sz) (va_Qi (fun (r : Int32) (_ : Unit) => post r) (mB D (va_A [(k_T cA ad T_size T_place T_fault), (k_T_bytes cA ad T_bytes)] sz) (fun (_ : Unit) => [(k_T cA ad T_size T_place T_fault), (k_T_bytes cA ad T_bytes)])) (va_A [(k_T cA ad T_size T_place T_fault), (k_T_bytes cA ad T_bytes)] sz)) 0 0 (va_A [(k_T cA ad T_size T_place T_fault), (k_T_bytes cA ad T_bytes)] sz) := by
  refine m_methZ (by decide) rfl (Nat.le_of_ble_eq_true rfl) ?_
  intro p e s m below meth c A Q ls hx hb hml hown hts hK hA hw hl hE
  have hl : lv_has ls 2 [(0, .ref (ad 13))] := hl
  have hown : s.vm.findClass R_T = some m.cls := hown
  have hg : ∀ {w : Cond}, w ∈ gw → w.before _ s = true := fun h => hts _ (List.mem_cons_of_mem _ h)
  unfold wp_T_isBlankHere at h
  refine lv_aload_n hx hb d_T_isBlankHere_0 rfl (lv_at hl 0 rfl) ?_
  refine m_calli (hr := va_runV (As := []) (rest := []) ⟨hx, hb, hml, hown, hts⟩ (c_T_here l D cA ad _ T_size T_place T_fault T_bytes _ h) (cwV 0 hts (ginV gm_178 gm_180 gs_4 gm_5 gm_181) rfl rfl rfl (by decide +kernel) ⟨Nat.le_of_ble_eq_true rfl, Nat.le_of_ble_eq_true rfl⟩) (m_preV 4 0 rfl rfl hK hw [0, 1] rfl rfl) rfl rfl hl.1 rfl (lv_room (Nat.le_of_ble_eq_true rfl)) d_T_isBlankHere_1 ⟨Nat.zero_le _, Nat.zero_le _⟩) (w2 := (fun (_ : Unit) => [(k_T cA ad T_size T_place T_fault), (k_T_bytes cA ad T_bytes)])) (wr := []) hw hA [0, 1] [] [0, 1] rfl rfl (by decide) (by decide) (by decide) (fun _ => rfl) (fun r1 u H locs hw h => ?_)
  refine lv_istore_n (lv' := [(1, .int r1), (0, .ref (ad 13))]) hx hb d_T_isBlankHere_4 rfl hl (by decide) rfl (fun ls hl => ?_)
  refine lv_iload_n hx hb d_T_isBlankHere_5 rfl (lv_at hl 0 rfl) ?_
  refine lv_bipush (v := 32) hx hb d_T_isBlankHere_6 (by decide) ?_
  refine lv_icmp_eq (tgt := 23) hx hb d_T_isBlankHere_8 (by decide) (fun hc => ?_) (fun hc => ?_)
  · have h := h.1 hc
    refine lv_iconst (v := 1) hx hb d_T_isBlankHere_23 (by decide) ?_
    refine lv_goto (tgt := 28) hx hb d_T_isBlankHere_24 (by decide) ?_
    exact hE 1 () _ _ _ _ h rfl hw d_T_isBlankHere_28
  · have h := h.2 hc
    refine lv_iload_n hx hb d_T_isBlankHere_11 rfl (lv_at hl 0 rfl) ?_
    refine lv_bipush (v := 9) hx hb d_T_isBlankHere_12 (by decide) ?_
    refine lv_icmp_eq (tgt := 23) hx hb d_T_isBlankHere_14 (by decide) (fun hc => ?_) (fun hc => ?_)
    · have h := h.1 hc
      refine lv_iconst (v := 1) hx hb d_T_isBlankHere_23 (by decide) ?_
      refine lv_goto (tgt := 28) hx hb d_T_isBlankHere_24 (by decide) ?_
      exact hE 1 () _ _ _ _ h rfl hw d_T_isBlankHere_28
    · have h := h.2 hc
      refine lv_iload_n hx hb d_T_isBlankHere_17 rfl (lv_at hl 0 rfl) ?_
      refine lv_bipush (v := 13) hx hb d_T_isBlankHere_18 (by decide) ?_
      refine lv_icmp_ne (tgt := 27) hx hb d_T_isBlankHere_20 (by decide) (fun hc => ?_) (fun hc => ?_)
      · have h := h.2 hc
        refine lv_iconst (v := 0) hx hb d_T_isBlankHere_27 (by decide) ?_
        exact hE 0 () _ _ _ _ h rfl hw d_T_isBlankHere_28
      · have h := h.1 hc
        refine lv_iconst (v := 1) hx hb d_T_isBlankHere_23 (by decide) ?_
        refine lv_goto (tgt := 28) hx hb d_T_isBlankHere_24 (by decide) ?_
        exact hE 1 () _ _ _ _ h rfl hw d_T_isBlankHere_28
def rm_T_skipToLine : Room := { frames := 2, cells := 0, slots := 0, locals := 41 }
set_option maxHeartbeats 4000000 in
set_option maxRecDepth 100000 in
theorem c_T_skipToLine (l : Launch) (D : va_G) (cA : Nat → ClassId) (ad : Nat → Nat) (sz : Nat) (T_size : Int32) (T_place : Int32) (T_fault : Int32) (T_bytes : (Nat → Int32)) (post : Int32 → Prop) (h : wp_T_skipToLine T_size T_place T_bytes post) : Met l y_T_skipToLine w_T_skipToLine rm_T_skipToLine (mPc D cA [.ref (ad 13)] [(k_T cA ad T_size T_place T_fault), (k_T_bytes cA ad T_bytes)] sz) (va_Qv (fun (u : Int32) => post u) (mB D (va_A [(k_T cA ad T_size T_place T_fault), (k_T_bytes cA ad T_bytes)] sz) (fun (u : Int32) => [(k_T cA ad T_size u T_fault), (k_T_bytes cA ad T_bytes)])) (va_A [(k_T cA ad T_size T_place T_fault), (k_T_bytes cA ad T_bytes)] sz)) 0 0 (va_A [(k_T cA ad T_size T_place T_fault), (k_T_bytes cA ad T_bytes)] sz) := by
  refine m_methV (by decide) rfl (Nat.le_of_ble_eq_true rfl) ?_
  intro p e s m below meth c A Q ls hx hb hml hown hts hK hA hw hl hE
  have hl : lv_has ls 1 [(0, .ref (ad 13))] := hl
  have hown : s.vm.findClass R_T = some m.cls := hown
  have hg : ∀ {w : Cond}, w ∈ gw → w.before _ s = true := fun h => hts _ (List.mem_cons_of_mem _ h)
  obtain ⟨C0, hC0⟩ : ∃ C : Int32 → Prop, ∀ (T_place : Int32), C T_place ↔ (∀ (H : Heap) (locs : List Loc) (ls : Array Slot), mW D A s.heap [(k_T cA ad T_size T_place T_fault), (k_T_bytes cA ad T_bytes)] H locs → lv_has ls 1 [(0, .ref (ad 13))] → W p l e rm_T_skipToLine s m [.ref (ad 13)].toArray below meth c H locs 0 0 Q (F0 m 0 ls [])) := ⟨_, fun _ => Iff.rfl⟩
  have j27 : ∀ (T_place : Int32) (H : Heap) (locs : List Loc) (ls : Array Slot), s_T_skipToLine_27 T_size T_bytes C0 post T_place → mW D A s.heap [(k_T cA ad T_size T_place T_fault), (k_T_bytes cA ad T_bytes)] H locs → lv_has ls 1 [(0, .ref (ad 13))] → W p l e rm_T_skipToLine s m [.ref (ad 13)].toArray below meth c H locs 0 0 Q (F0 m 27 ls []) := by
    intro T_place H locs ls h hw hl
    unfold s_T_skipToLine_27 at h
    refine lv_aload_n hx hb d_T_skipToLine_27 rfl (lv_at hl 0 rfl) ?_
    refine lv_dup hx hb d_T_skipToLine_28 rfl ?_
    refine va_get (D := D) (ci := 4) (v := .int T_place) (C := R_T) (T := T_T) (N := 6) hx hb hts (fun w h => List.mem_cons_of_mem _ (iw_T w h)) hown hK.1 hw.1 0 rfl rfl 4 (by decide) (hg gm_126) (fun _ h9 => h9) rfl d_T_skipToLine_29 ?_
    refine lv_iconst (v := 1) hx hb d_T_skipToLine_32 (by decide) ?_
    refine lv_iadd hx hb d_T_skipToLine_33 ?_
    refine m_put (ws' := [(k_T cA ad T_size (T_place + 1) T_fault), (k_T_bytes cA ad T_bytes)]) (ci := 4) (v := .int (T_place + 1)) (ty := .int) (C := R_T) (T := T_T) (N := 6) hx hb hts (fun w h => List.mem_cons_of_mem _ (iw_T w h)) ty_T tyok_T nm_T hown hK.1 hw 0 rfl rfl 4 (by decide) (hg gm_126) (fun _ h9 => h9) rfl (by decide +kernel) rfl rfl (Nat.le_of_ble_eq_true rfl) rfl d_T_skipToLine_34 (fun H locs hw => ?_)
    refine lv_goto (tgt := 0) hx hb d_T_skipToLine_37 (by decide) ?_
    exact (hC0 _).1 h _ _ _ hw (lv_sub hl [0] rfl)
  have hc0 : ∀ (T_place : Int32), s_T_skipToLine_0 T_size T_bytes C0 post T_place → C0 T_place := by
    intro T_place h
    unfold s_T_skipToLine_0 at h
    refine (hC0 _).2 ?_
    intro H locs ls hw hl
    refine lv_aload_n hx hb d_T_skipToLine_0 rfl (lv_at hl 0 rfl) ?_
    refine va_get (D := D) (ci := 4) (v := .int T_place) (C := R_T) (T := T_T) (N := 6) hx hb hts (fun w h => List.mem_cons_of_mem _ (iw_T w h)) hown hK.1 hw.1 0 rfl rfl 4 (by decide) (hg gm_126) (fun _ h9 => h9) rfl d_T_skipToLine_1 ?_
    refine lv_aload_n hx hb d_T_skipToLine_4 rfl (lv_at hl 0 rfl) ?_
    refine va_get (D := D) (ci := 4) (v := .int T_size) (C := R_T) (T := T_T) (N := 6) hx hb hts (fun w h => List.mem_cons_of_mem _ (iw_T w h)) hown hK.1 hw.1 0 rfl rfl 3 (by decide) (hg gm_124) (fun _ h9 => h9) rfl d_T_skipToLine_5 ?_
    refine lv_icmp_ge (tgt := 40) hx hb d_T_skipToLine_8 (by decide) (fun hc => ?_) (fun hc => ?_)
    · have h := h.1 hc
      exact hE (T_place) _ _ _ _ h hw d_T_skipToLine_40
    · have h := h.2 hc
      refine lv_aload_n hx hb d_T_skipToLine_11 rfl (lv_at hl 0 rfl) ?_
      refine m_calli (hr := va_runV (As := []) (rest := []) ⟨hx, hb, hml, hown, hts⟩ (c_T_isBlankHere l D cA ad _ T_size T_place T_fault T_bytes _ h) (cwV 0 hts (ginV gm_174 gm_176 gs_3 gm_5 gm_177) rfl rfl rfl (by decide +kernel) ⟨Nat.le_of_ble_eq_true rfl, Nat.le_of_ble_eq_true rfl⟩) (m_preV 4 0 rfl rfl hK hw [0, 1] rfl rfl) rfl rfl hl.1 rfl (lv_room (Nat.le_of_ble_eq_true rfl)) d_T_skipToLine_12 ⟨Nat.zero_le _, Nat.zero_le _⟩) (w2 := (fun (_ : Unit) => [(k_T cA ad T_size T_place T_fault), (k_T_bytes cA ad T_bytes)])) (wr := []) hw hA [0, 1] [] [0, 1] rfl rfl (by decide) (by decide) (by decide) (fun _ => rfl) (fun r12 u H locs hw h => ?_)
      refine lv_if_ne (tgt := 27) hx hb d_T_skipToLine_15 (by decide) (fun hc => ?_) (fun hc => ?_)
      · have h := h.2 hc
        exact j27 _ _ _ _ h hw (lv_sub hl [0] rfl)
      · have h := h.1 hc
        refine lv_aload_n hx hb d_T_skipToLine_18 rfl (lv_at hl 0 rfl) ?_
        refine m_calli (hr := va_runV (As := []) (rest := []) ⟨hx, hb, hml, hown, hts⟩ (c_T_here l D cA ad _ T_size T_place T_fault T_bytes _ h) (cwV 0 hts (ginV gm_178 gm_180 gs_4 gm_5 gm_181) rfl rfl rfl (by decide +kernel) ⟨Nat.le_of_ble_eq_true rfl, Nat.le_of_ble_eq_true rfl⟩) (m_preV 4 0 rfl rfl hK hw [0, 1] rfl rfl) rfl rfl hl.1 rfl (lv_room (Nat.le_of_ble_eq_true rfl)) d_T_skipToLine_19 ⟨Nat.zero_le _, Nat.zero_le _⟩) (w2 := (fun (_ : Unit) => [(k_T cA ad T_size T_place T_fault), (k_T_bytes cA ad T_bytes)])) (wr := []) hw hA [0, 1] [] [0, 1] rfl rfl (by decide) (by decide) (by decide) (fun _ => rfl) (fun r19 u H locs hw h => ?_)
        refine lv_bipush (v := 10) hx hb d_T_skipToLine_22 (by decide) ?_
        refine lv_icmp_ne (tgt := 40) hx hb d_T_skipToLine_24 (by decide) (fun hc => ?_) (fun hc => ?_)
        · have h := h.2 hc
          exact hE (T_place) _ _ _ _ h hw d_T_skipToLine_40
        · have h := h.1 hc
          exact j27 _ _ _ _ h hw (lv_sub hl [0] rfl)
  unfold wp_T_skipToLine at h
  have h := h C0 hc0
  exact (hC0 _).1 h _ _ _ hw (lv_sub hl [0] rfl)
def rm_T_skipBlanks : Room := { frames := 2, cells := 0, slots := 0, locals := 41 }
set_option maxHeartbeats 4000000 in
set_option maxRecDepth 100000 in
theorem c_T_skipBlanks (l : Launch) (D : va_G) (cA : Nat → ClassId) (ad : Nat → Nat) (sz : Nat) (T_size : Int32) (T_place : Int32) (T_fault : Int32) (T_bytes : (Nat → Int32)) (post : Int32 → Prop) (h : wp_T_skipBlanks T_size T_place T_bytes post) : Met l y_T_skipBlanks w_T_skipBlanks rm_T_skipBlanks (mPc D cA [.ref (ad 13)] [(k_T cA ad T_size T_place T_fault), (k_T_bytes cA ad T_bytes)] sz) (va_Qv (fun (u : Int32) => post u) (mB D (va_A [(k_T cA ad T_size T_place T_fault), (k_T_bytes cA ad T_bytes)] sz) (fun (u : Int32) => [(k_T cA ad T_size u T_fault), (k_T_bytes cA ad T_bytes)])) (va_A [(k_T cA ad T_size T_place T_fault), (k_T_bytes cA ad T_bytes)] sz)) 0 0 (va_A [(k_T cA ad T_size T_place T_fault), (k_T_bytes cA ad T_bytes)] sz) := by
  refine m_methV (by decide) rfl (Nat.le_of_ble_eq_true rfl) ?_
  intro p e s m below meth c A Q ls hx hb hml hown hts hK hA hw hl hE
  have hl : lv_has ls 1 [(0, .ref (ad 13))] := hl
  have hown : s.vm.findClass R_T = some m.cls := hown
  have hg : ∀ {w : Cond}, w ∈ gw → w.before _ s = true := fun h => hts _ (List.mem_cons_of_mem _ h)
  obtain ⟨C0, hC0⟩ : ∃ C : Int32 → Prop, ∀ (T_place : Int32), C T_place ↔ (∀ (H : Heap) (locs : List Loc) (ls : Array Slot), mW D A s.heap [(k_T cA ad T_size T_place T_fault), (k_T_bytes cA ad T_bytes)] H locs → lv_has ls 1 [(0, .ref (ad 13))] → W p l e rm_T_skipBlanks s m [.ref (ad 13)].toArray below meth c H locs 0 0 Q (F0 m 0 ls [])) := ⟨_, fun _ => Iff.rfl⟩
  have hc0 : ∀ (T_place : Int32), s_T_skipBlanks_0 T_size T_bytes C0 post T_place → C0 T_place := by
    intro T_place h
    unfold s_T_skipBlanks_0 at h
    refine (hC0 _).2 ?_
    intro H locs ls hw hl
    refine lv_aload_n hx hb d_T_skipBlanks_0 rfl (lv_at hl 0 rfl) ?_
    refine va_get (D := D) (ci := 4) (v := .int T_place) (C := R_T) (T := T_T) (N := 6) hx hb hts (fun w h => List.mem_cons_of_mem _ (iw_T w h)) hown hK.1 hw.1 0 rfl rfl 4 (by decide) (hg gm_126) (fun _ h9 => h9) rfl d_T_skipBlanks_1 ?_
    refine lv_aload_n hx hb d_T_skipBlanks_4 rfl (lv_at hl 0 rfl) ?_
    refine va_get (D := D) (ci := 4) (v := .int T_size) (C := R_T) (T := T_T) (N := 6) hx hb hts (fun w h => List.mem_cons_of_mem _ (iw_T w h)) hown hK.1 hw.1 0 rfl rfl 3 (by decide) (hg gm_124) (fun _ h9 => h9) rfl d_T_skipBlanks_5 ?_
    refine lv_icmp_ge (tgt := 31) hx hb d_T_skipBlanks_8 (by decide) (fun hc => ?_) (fun hc => ?_)
    · have h := h.1 hc
      exact hE (T_place) _ _ _ _ h hw d_T_skipBlanks_31
    · have h := h.2 hc
      refine lv_aload_n hx hb d_T_skipBlanks_11 rfl (lv_at hl 0 rfl) ?_
      refine m_calli (hr := va_runV (As := []) (rest := []) ⟨hx, hb, hml, hown, hts⟩ (c_T_isBlankHere l D cA ad _ T_size T_place T_fault T_bytes _ h) (cwV 0 hts (ginV gm_174 gm_176 gs_3 gm_5 gm_177) rfl rfl rfl (by decide +kernel) ⟨Nat.le_of_ble_eq_true rfl, Nat.le_of_ble_eq_true rfl⟩) (m_preV 4 0 rfl rfl hK hw [0, 1] rfl rfl) rfl rfl hl.1 rfl (lv_room (Nat.le_of_ble_eq_true rfl)) d_T_skipBlanks_12 ⟨Nat.zero_le _, Nat.zero_le _⟩) (w2 := (fun (_ : Unit) => [(k_T cA ad T_size T_place T_fault), (k_T_bytes cA ad T_bytes)])) (wr := []) hw hA [0, 1] [] [0, 1] rfl rfl (by decide) (by decide) (by decide) (fun _ => rfl) (fun r12 u H locs hw h => ?_)
      refine lv_if_eq (tgt := 31) hx hb d_T_skipBlanks_15 (by decide) (fun hc => ?_) (fun hc => ?_)
      · have h := h.1 hc
        exact hE (T_place) _ _ _ _ h hw d_T_skipBlanks_31
      · have h := h.2 hc
        refine lv_aload_n hx hb d_T_skipBlanks_18 rfl (lv_at hl 0 rfl) ?_
        refine lv_dup hx hb d_T_skipBlanks_19 rfl ?_
        refine va_get (D := D) (ci := 4) (v := .int T_place) (C := R_T) (T := T_T) (N := 6) hx hb hts (fun w h => List.mem_cons_of_mem _ (iw_T w h)) hown hK.1 hw.1 0 rfl rfl 4 (by decide) (hg gm_126) (fun _ h9 => h9) rfl d_T_skipBlanks_20 ?_
        refine lv_iconst (v := 1) hx hb d_T_skipBlanks_23 (by decide) ?_
        refine lv_iadd hx hb d_T_skipBlanks_24 ?_
        refine m_put (ws' := [(k_T cA ad T_size (T_place + 1) T_fault), (k_T_bytes cA ad T_bytes)]) (ci := 4) (v := .int (T_place + 1)) (ty := .int) (C := R_T) (T := T_T) (N := 6) hx hb hts (fun w h => List.mem_cons_of_mem _ (iw_T w h)) ty_T tyok_T nm_T hown hK.1 hw 0 rfl rfl 4 (by decide) (hg gm_126) (fun _ h9 => h9) rfl (by decide +kernel) rfl rfl (Nat.le_of_ble_eq_true rfl) rfl d_T_skipBlanks_25 (fun H locs hw => ?_)
        refine lv_goto (tgt := 0) hx hb d_T_skipBlanks_28 (by decide) ?_
        exact (hC0 _).1 h _ _ _ hw (lv_sub hl [0] rfl)
  unfold wp_T_skipBlanks at h
  have h := h C0 hc0
  exact (hC0 _).1 h _ _ _ hw (lv_sub hl [0] rfl)
def rm_T_isSignHere : Room := { frames := 1, cells := 0, slots := 0, locals := 20 }
set_option maxHeartbeats 4000000 in
set_option maxRecDepth 100000 in
theorem c_T_isSignHere (l : Launch) (D : va_G) (cA : Nat → ClassId) (ad : Nat → Nat) (sz : Nat) (T_size : Int32) (T_place : Int32) (T_fault : Int32) (T_bytes : (Nat → Int32)) (post : Int32 → Prop) (h : wp_T_isSignHere T_size T_place T_bytes post) : Met l y_T_isSignHere w_T_isSignHere rm_T_isSignHere (mPc D cA [.ref (ad 13)] [(k_T cA ad T_size T_place T_fault), (k_T_bytes cA ad T_bytes)] sz) (va_Qi (fun (r : Int32) (_ : Unit) => post r) (mB D (va_A [(k_T cA ad T_size T_place T_fault), (k_T_bytes cA ad T_bytes)] sz) (fun (_ : Unit) => [(k_T cA ad T_size T_place T_fault), (k_T_bytes cA ad T_bytes)])) (va_A [(k_T cA ad T_size T_place T_fault), (k_T_bytes cA ad T_bytes)] sz)) 0 0 (va_A [(k_T cA ad T_size T_place T_fault), (k_T_bytes cA ad T_bytes)] sz) := by
  refine m_methZ (by decide) rfl (Nat.le_of_ble_eq_true rfl) ?_
  intro p e s m below meth c A Q ls hx hb hml hown hts hK hA hw hl hE
  have hl : lv_has ls 1 [(0, .ref (ad 13))] := hl
  have hown : s.vm.findClass R_T = some m.cls := hown
  have hg : ∀ {w : Cond}, w ∈ gw → w.before _ s = true := fun h => hts _ (List.mem_cons_of_mem _ h)
  unfold wp_T_isSignHere at h
  refine lv_aload_n hx hb d_T_isSignHere_0 rfl (lv_at hl 0 rfl) ?_
  refine m_calli (hr := va_runV (As := []) (rest := []) ⟨hx, hb, hml, hown, hts⟩ (c_T_here l D cA ad _ T_size T_place T_fault T_bytes _ h) (cwV 0 hts (ginV gm_178 gm_180 gs_4 gm_5 gm_181) rfl rfl rfl (by decide +kernel) ⟨Nat.le_of_ble_eq_true rfl, Nat.le_of_ble_eq_true rfl⟩) (m_preV 4 0 rfl rfl hK hw [0, 1] rfl rfl) rfl rfl hl.1 rfl (lv_room (Nat.le_of_ble_eq_true rfl)) d_T_isSignHere_1 ⟨Nat.zero_le _, Nat.zero_le _⟩) (w2 := (fun (_ : Unit) => [(k_T cA ad T_size T_place T_fault), (k_T_bytes cA ad T_bytes)])) (wr := []) hw hA [0, 1] [] [0, 1] rfl rfl (by decide) (by decide) (by decide) (fun _ => rfl) (fun r1 u H locs hw h => ?_)
  refine lv_bipush (v := 43) hx hb d_T_isSignHere_4 (by decide) ?_
  refine lv_icmp_eq (tgt := 18) hx hb d_T_isSignHere_6 (by decide) (fun hc => ?_) (fun hc => ?_)
  · have h := h.1 hc
    refine lv_iconst (v := 1) hx hb d_T_isSignHere_18 (by decide) ?_
    refine lv_goto (tgt := 23) hx hb d_T_isSignHere_19 (by decide) ?_
    exact hE 1 () _ _ _ _ h rfl hw d_T_isSignHere_23
  · have h := h.2 hc
    refine lv_aload_n hx hb d_T_isSignHere_9 rfl (lv_at hl 0 rfl) ?_
    refine m_calli (hr := va_runV (As := []) (rest := []) ⟨hx, hb, hml, hown, hts⟩ (c_T_here l D cA ad _ T_size T_place T_fault T_bytes _ h) (cwV 0 hts (ginV gm_178 gm_180 gs_4 gm_5 gm_181) rfl rfl rfl (by decide +kernel) ⟨Nat.le_of_ble_eq_true rfl, Nat.le_of_ble_eq_true rfl⟩) (m_preV 4 0 rfl rfl hK hw [0, 1] rfl rfl) rfl rfl hl.1 rfl (lv_room (Nat.le_of_ble_eq_true rfl)) d_T_isSignHere_10 ⟨Nat.zero_le _, Nat.zero_le _⟩) (w2 := (fun (_ : Unit) => [(k_T cA ad T_size T_place T_fault), (k_T_bytes cA ad T_bytes)])) (wr := []) hw hA [0, 1] [] [0, 1] rfl rfl (by decide) (by decide) (by decide) (fun _ => rfl) (fun r10 u H locs hw h => ?_)
    refine lv_bipush (v := 45) hx hb d_T_isSignHere_13 (by decide) ?_
    refine lv_icmp_ne (tgt := 22) hx hb d_T_isSignHere_15 (by decide) (fun hc => ?_) (fun hc => ?_)
    · have h := h.2 hc
      refine lv_iconst (v := 0) hx hb d_T_isSignHere_22 (by decide) ?_
      exact hE 0 () _ _ _ _ h rfl hw d_T_isSignHere_23
    · have h := h.1 hc
      refine lv_iconst (v := 1) hx hb d_T_isSignHere_18 (by decide) ?_
      refine lv_goto (tgt := 23) hx hb d_T_isSignHere_19 (by decide) ?_
      exact hE 1 () _ _ _ _ h rfl hw d_T_isSignHere_23
def rm_T_isDigitHere : Room := { frames := 1, cells := 0, slots := 0, locals := 20 }
set_option maxHeartbeats 4000000 in
set_option maxRecDepth 100000 in
theorem c_T_isDigitHere (l : Launch) (D : va_G) (cA : Nat → ClassId) (ad : Nat → Nat) (sz : Nat) (T_size : Int32) (T_place : Int32) (T_fault : Int32) (T_bytes : (Nat → Int32)) (post : Int32 → Prop) (h : wp_T_isDigitHere T_size T_place T_bytes post) : Met l y_T_isDigitHere w_T_isDigitHere rm_T_isDigitHere (mPc D cA [.ref (ad 13)] [(k_T cA ad T_size T_place T_fault), (k_T_bytes cA ad T_bytes)] sz) (va_Qi (fun (r : Int32) (_ : Unit) => post r) (mB D (va_A [(k_T cA ad T_size T_place T_fault), (k_T_bytes cA ad T_bytes)] sz) (fun (_ : Unit) => [(k_T cA ad T_size T_place T_fault), (k_T_bytes cA ad T_bytes)])) (va_A [(k_T cA ad T_size T_place T_fault), (k_T_bytes cA ad T_bytes)] sz)) 0 0 (va_A [(k_T cA ad T_size T_place T_fault), (k_T_bytes cA ad T_bytes)] sz) := by
  refine m_methZ (by decide) rfl (Nat.le_of_ble_eq_true rfl) ?_
  intro p e s m below meth c A Q ls hx hb hml hown hts hK hA hw hl hE
  have hl : lv_has ls 1 [(0, .ref (ad 13))] := hl
  have hown : s.vm.findClass R_T = some m.cls := hown
  have hg : ∀ {w : Cond}, w ∈ gw → w.before _ s = true := fun h => hts _ (List.mem_cons_of_mem _ h)
  unfold wp_T_isDigitHere at h
  refine lv_aload_n hx hb d_T_isDigitHere_0 rfl (lv_at hl 0 rfl) ?_
  refine m_calli (hr := va_runV (As := []) (rest := []) ⟨hx, hb, hml, hown, hts⟩ (c_T_here l D cA ad _ T_size T_place T_fault T_bytes _ h) (cwV 0 hts (ginV gm_178 gm_180 gs_4 gm_5 gm_181) rfl rfl rfl (by decide +kernel) ⟨Nat.le_of_ble_eq_true rfl, Nat.le_of_ble_eq_true rfl⟩) (m_preV 4 0 rfl rfl hK hw [0, 1] rfl rfl) rfl rfl hl.1 rfl (lv_room (Nat.le_of_ble_eq_true rfl)) d_T_isDigitHere_1 ⟨Nat.zero_le _, Nat.zero_le _⟩) (w2 := (fun (_ : Unit) => [(k_T cA ad T_size T_place T_fault), (k_T_bytes cA ad T_bytes)])) (wr := []) hw hA [0, 1] [] [0, 1] rfl rfl (by decide) (by decide) (by decide) (fun _ => rfl) (fun r1 u H locs hw h => ?_)
  refine lv_bipush (v := 48) hx hb d_T_isDigitHere_4 (by decide) ?_
  refine lv_icmp_lt (tgt := 22) hx hb d_T_isDigitHere_6 (by decide) (fun hc => ?_) (fun hc => ?_)
  · have h := h.1 hc
    refine lv_iconst (v := 0) hx hb d_T_isDigitHere_22 (by decide) ?_
    exact hE 0 () _ _ _ _ h rfl hw d_T_isDigitHere_23
  · have h := h.2 hc
    refine lv_aload_n hx hb d_T_isDigitHere_9 rfl (lv_at hl 0 rfl) ?_
    refine m_calli (hr := va_runV (As := []) (rest := []) ⟨hx, hb, hml, hown, hts⟩ (c_T_here l D cA ad _ T_size T_place T_fault T_bytes _ h) (cwV 0 hts (ginV gm_178 gm_180 gs_4 gm_5 gm_181) rfl rfl rfl (by decide +kernel) ⟨Nat.le_of_ble_eq_true rfl, Nat.le_of_ble_eq_true rfl⟩) (m_preV 4 0 rfl rfl hK hw [0, 1] rfl rfl) rfl rfl hl.1 rfl (lv_room (Nat.le_of_ble_eq_true rfl)) d_T_isDigitHere_10 ⟨Nat.zero_le _, Nat.zero_le _⟩) (w2 := (fun (_ : Unit) => [(k_T cA ad T_size T_place T_fault), (k_T_bytes cA ad T_bytes)])) (wr := []) hw hA [0, 1] [] [0, 1] rfl rfl (by decide) (by decide) (by decide) (fun _ => rfl) (fun r10 u H locs hw h => ?_)
    refine lv_bipush (v := 57) hx hb d_T_isDigitHere_13 (by decide) ?_
    refine lv_icmp_gt (tgt := 22) hx hb d_T_isDigitHere_15 (by decide) (fun hc => ?_) (fun hc => ?_)
    · have h := h.1 hc
      refine lv_iconst (v := 0) hx hb d_T_isDigitHere_22 (by decide) ?_
      exact hE 0 () _ _ _ _ h rfl hw d_T_isDigitHere_23
    · have h := h.2 hc
      refine lv_iconst (v := 1) hx hb d_T_isDigitHere_18 (by decide) ?_
      refine lv_goto (tgt := 23) hx hb d_T_isDigitHere_19 (by decide) ?_
      exact hE 1 () _ _ _ _ h rfl hw d_T_isDigitHere_23
def rm_T_readNumber : Room := { frames := 2, cells := 0, slots := 0, locals := 40 }
set_option maxHeartbeats 4000000 in
set_option maxRecDepth 100000 in
theorem c_T_readNumber (l : Launch) (D : va_G) (cA : Nat → ClassId) (ad : Nat → Nat) (sz : Nat) (T_size : Int32) (T_place : Int32) (T_fault : Int32) (T_bytes : (Nat → Int32)) (post : Int32 → Int32 → Prop) (h : wp_T_readNumber T_size T_place T_bytes post) : Met l y_T_readNumber w_T_readNumber rm_T_readNumber (mPc D cA [.ref (ad 13)] [(k_T cA ad T_size T_place T_fault), (k_T_bytes cA ad T_bytes)] sz) (va_Qi (fun (r : Int32) (u : Int32) => post r u) (mB D (va_A [(k_T cA ad T_size T_place T_fault), (k_T_bytes cA ad T_bytes)] sz) (fun (u : Int32) => [(k_T cA ad T_size u T_fault), (k_T_bytes cA ad T_bytes)])) (va_A [(k_T cA ad T_size T_place T_fault), (k_T_bytes cA ad T_bytes)] sz)) 0 0 (va_A [(k_T cA ad T_size T_place T_fault), (k_T_bytes cA ad T_bytes)] sz) := by
  refine m_methI (by decide) rfl (Nat.le_of_ble_eq_true rfl) ?_
  intro p e s m below meth c A Q ls hx hb hml hown hts hK hA hw hl hE
  have hl : lv_has ls 2 [(0, .ref (ad 13))] := hl
  have hown : s.vm.findClass R_T = some m.cls := hown
  have hg : ∀ {w : Cond}, w ∈ gw → w.before _ s = true := fun h => hts _ (List.mem_cons_of_mem _ h)
  obtain ⟨C2, hC2⟩ : ∃ C : Int32 → Int32 → Prop, ∀ (x1 : Int32) (T_place : Int32), C x1 T_place ↔ (∀ (H : Heap) (locs : List Loc) (ls : Array Slot), mW D A s.heap [(k_T cA ad T_size T_place T_fault), (k_T_bytes cA ad T_bytes)] H locs → lv_has ls 2 [(0, .ref (ad 13)), (1, .int x1)] → W p l e rm_T_readNumber s m [.ref (ad 13)].toArray below meth c H locs 0 0 Q (F0 m 2 ls [])) := ⟨_, fun _ _ => Iff.rfl⟩
  have hc2 : ∀ (x1 : Int32) (T_place : Int32), s_T_readNumber_2 T_size T_bytes C2 post x1 T_place → C2 x1 T_place := by
    intro x1 T_place h
    unfold s_T_readNumber_2 at h
    refine (hC2 _ _).2 ?_
    intro H locs ls hw hl
    refine lv_aload_n hx hb d_T_readNumber_2 rfl (lv_at hl 0 rfl) ?_
    refine va_get (D := D) (ci := 4) (v := .int T_place) (C := R_T) (T := T_T) (N := 6) hx hb hts (fun w h => List.mem_cons_of_mem _ (iw_T w h)) hown hK.1 hw.1 0 rfl rfl 4 (by decide) (hg gm_126) (fun _ h9 => h9) rfl d_T_readNumber_3 ?_
    refine lv_aload_n hx hb d_T_readNumber_6 rfl (lv_at hl 0 rfl) ?_
    refine va_get (D := D) (ci := 4) (v := .int T_size) (C := R_T) (T := T_T) (N := 6) hx hb hts (fun w h => List.mem_cons_of_mem _ (iw_T w h)) hown hK.1 hw.1 0 rfl rfl 3 (by decide) (hg gm_124) (fun _ h9 => h9) rfl d_T_readNumber_7 ?_
    refine lv_icmp_ge (tgt := 55) hx hb d_T_readNumber_10 (by decide) (fun hc => ?_) (fun hc => ?_)
    · have h := h.1 hc
      refine lv_iload_n hx hb d_T_readNumber_55 rfl (lv_at hl 1 rfl) ?_
      exact hE x1 (T_place) _ _ _ _ h hw d_T_readNumber_56
    · have h := h.2 hc
      refine lv_aload_n hx hb d_T_readNumber_13 rfl (lv_at hl 0 rfl) ?_
      refine m_calli (hr := va_runV (As := []) (rest := []) ⟨hx, hb, hml, hown, hts⟩ (c_T_isDigitHere l D cA ad _ T_size T_place T_fault T_bytes _ h) (cwV 0 hts (ginV gm_210 gm_212 gs_12 gm_5 gm_213) rfl rfl rfl (by decide +kernel) ⟨Nat.le_of_ble_eq_true rfl, Nat.le_of_ble_eq_true rfl⟩) (m_preV 4 0 rfl rfl hK hw [0, 1] rfl rfl) rfl rfl hl.1 rfl (lv_room (Nat.le_of_ble_eq_true rfl)) d_T_readNumber_14 ⟨Nat.zero_le _, Nat.zero_le _⟩) (w2 := (fun (_ : Unit) => [(k_T cA ad T_size T_place T_fault), (k_T_bytes cA ad T_bytes)])) (wr := []) hw hA [0, 1] [] [0, 1] rfl rfl (by decide) (by decide) (by decide) (fun _ => rfl) (fun r14 u H locs hw h => ?_)
      refine lv_if_eq (tgt := 55) hx hb d_T_readNumber_17 (by decide) (fun hc => ?_) (fun hc => ?_)
      · have h := h.1 hc
        refine lv_iload_n hx hb d_T_readNumber_55 rfl (lv_at hl 1 rfl) ?_
        exact hE x1 (T_place) _ _ _ _ h hw d_T_readNumber_56
      · have h := h.2 hc
        refine lv_iload_n hx hb d_T_readNumber_20 rfl (lv_at hl 1 rfl) ?_
        refine lv_iconst (v := 0) hx hb d_T_readNumber_21 (by decide) ?_
        refine va_mmax hx hb (hml.trans hl.1.symm) hown (hg gm_214) (hg gm_215) (hg gm_16) (hg gm_216) (Nat.le_of_ble_eq_true rfl) (Nat.le_of_ble_eq_true rfl) (Nat.zero_le _) (Nat.zero_le _) d_T_readNumber_22 ?_
        refine lv_bipush (v := 10) hx hb d_T_readNumber_25 (by decide) ?_
        refine lv_imul hx hb d_T_readNumber_27 ?_
        refine lv_aload_n hx hb d_T_readNumber_28 rfl (lv_at hl 0 rfl) ?_
        refine m_calli (hr := va_runV (As := []) (rest := [.int ((if x1 < 0 then 0 else x1) * 10)]) ⟨hx, hb, hml, hown, hts⟩ (c_T_here l D cA ad _ T_size T_place T_fault T_bytes _ h) (cwV 0 hts (ginV gm_178 gm_180 gs_4 gm_5 gm_181) rfl rfl rfl (by decide +kernel) ⟨Nat.le_of_ble_eq_true rfl, Nat.le_of_ble_eq_true rfl⟩) (m_preV 4 0 rfl rfl hK hw [0, 1] rfl rfl) rfl rfl hl.1 rfl (lv_room (Nat.le_of_ble_eq_true rfl)) d_T_readNumber_29 ⟨Nat.zero_le _, Nat.zero_le _⟩) (w2 := (fun (_ : Unit) => [(k_T cA ad T_size T_place T_fault), (k_T_bytes cA ad T_bytes)])) (wr := []) hw hA [0, 1] [] [0, 1] rfl rfl (by decide) (by decide) (by decide) (fun _ => rfl) (fun r29 u H locs hw h => ?_)
        refine lv_iadd hx hb d_T_readNumber_32 ?_
        refine lv_bipush (v := 48) hx hb d_T_readNumber_33 (by decide) ?_
        refine lv_isub hx hb d_T_readNumber_35 ?_
        refine lv_bipush (v := 40) hx hb d_T_readNumber_36 (by decide) ?_
        refine va_mmin hx hb (hml.trans hl.1.symm) hown (hg gm_217) (hg gm_218) (hg gm_16) (hg gm_219) (Nat.le_of_ble_eq_true rfl) (Nat.le_of_ble_eq_true rfl) (Nat.zero_le _) (Nat.zero_le _) d_T_readNumber_38 ?_
        refine lv_istore_n (lv' := [(1, .int (if 40 < ((((if x1 < 0 then 0 else x1) * 10) + r29) - 48) then 40 else ((((if x1 < 0 then 0 else x1) * 10) + r29) - 48))), (0, .ref (ad 13))]) hx hb d_T_readNumber_41 rfl hl (by decide) rfl (fun ls hl => ?_)
        refine lv_aload_n hx hb d_T_readNumber_42 rfl (lv_at hl 1 rfl) ?_
        refine lv_dup hx hb d_T_readNumber_43 rfl ?_
        refine va_get (D := D) (ci := 4) (v := .int T_place) (C := R_T) (T := T_T) (N := 6) hx hb hts (fun w h => List.mem_cons_of_mem _ (iw_T w h)) hown hK.1 hw.1 0 rfl rfl 4 (by decide) (hg gm_126) (fun _ h9 => h9) rfl d_T_readNumber_44 ?_
        refine lv_iconst (v := 1) hx hb d_T_readNumber_47 (by decide) ?_
        refine lv_iadd hx hb d_T_readNumber_48 ?_
        refine m_put (ws' := [(k_T cA ad T_size (T_place + 1) T_fault), (k_T_bytes cA ad T_bytes)]) (ci := 4) (v := .int (T_place + 1)) (ty := .int) (C := R_T) (T := T_T) (N := 6) hx hb hts (fun w h => List.mem_cons_of_mem _ (iw_T w h)) ty_T tyok_T nm_T hown hK.1 hw 0 rfl rfl 4 (by decide) (hg gm_126) (fun _ h9 => h9) rfl (by decide +kernel) rfl rfl (Nat.le_of_ble_eq_true rfl) rfl d_T_readNumber_49 (fun H locs hw => ?_)
        refine lv_goto (tgt := 2) hx hb d_T_readNumber_52 (by decide) ?_
        exact (hC2 _ _).1 h _ _ _ hw (lv_sub hl [1, 0] rfl)
  unfold wp_T_readNumber at h
  have h := h C2 hc2
  refine lv_iconst (v := (-1)) hx hb d_T_readNumber_0 (by decide) ?_
  refine lv_istore_n (lv' := [(1, .int (-1)), (0, .ref (ad 13))]) hx hb d_T_readNumber_1 rfl hl (by decide) rfl (fun ls hl => ?_)
  exact (hC2 _ _).1 h _ _ _ hw (lv_sub hl [1, 0] rfl)
def rm_T_readLiteral : Room := { frames := 3, cells := 0, slots := 0, locals := 61 }
set_option maxHeartbeats 4000000 in
set_option maxRecDepth 100000 in
theorem c_T_readLiteral (l : Launch) (D : va_G) (cA : Nat → ClassId) (ad : Nat → Nat) (sz : Nat) (G_size : Int32) (G_inputs : Int32) (F_size : Int32) (F_kinds : (Nat → Int32)) (F_sizes : (Nat → Int32)) (F_literals : (Nat → Int32)) (T_size : Int32) (T_place : Int32) (T_fault : Int32) (T_bytes : (Nat → Int32)) (p1 : Int32) (post : (Nat → Int32) → (Nat → Int32) → Int32 → Int32 → Prop) (h : wp_T_readLiteral G_size F_kinds F_sizes F_literals T_size T_place T_fault T_bytes p1 post) : Met l y_T_readLiteral w_T_readLiteral rm_T_readLiteral (mPc D cA [.ref (ad 13), .int p1] [(k_G cA ad G_size G_inputs), (k_F cA ad F_size), (k_F_kinds cA ad F_kinds), (k_F_sizes cA ad F_sizes), (k_F_literals cA ad F_literals), (k_T cA ad T_size T_place T_fault), (k_T_bytes cA ad T_bytes)] sz) (va_Qv (fun (u : (Nat → Int32) × (Nat → Int32) × Int32 × Int32) => post u.1 u.2.1 u.2.2.1 u.2.2.2) (mB D (va_A [(k_G cA ad G_size G_inputs), (k_F cA ad F_size), (k_F_kinds cA ad F_kinds), (k_F_sizes cA ad F_sizes), (k_F_literals cA ad F_literals), (k_T cA ad T_size T_place T_fault), (k_T_bytes cA ad T_bytes)] sz) (fun (u : (Nat → Int32) × (Nat → Int32) × Int32 × Int32) => [(k_G cA ad G_size G_inputs), (k_F cA ad F_size), (k_F_kinds cA ad F_kinds), (k_F_sizes cA ad u.1), (k_F_literals cA ad u.2.1), (k_T cA ad T_size u.2.2.1 u.2.2.2), (k_T_bytes cA ad T_bytes)])) (va_A [(k_G cA ad G_size G_inputs), (k_F cA ad F_size), (k_F_kinds cA ad F_kinds), (k_F_sizes cA ad F_sizes), (k_F_literals cA ad F_literals), (k_T cA ad T_size T_place T_fault), (k_T_bytes cA ad T_bytes)] sz)) 0 0 (va_A [(k_G cA ad G_size G_inputs), (k_F cA ad F_size), (k_F_kinds cA ad F_kinds), (k_F_sizes cA ad F_sizes), (k_F_literals cA ad F_literals), (k_T cA ad T_size T_place T_fault), (k_T_bytes cA ad T_bytes)] sz) := by
  refine m_methV (by decide) rfl (Nat.le_of_ble_eq_true rfl) ?_
  intro p e s m below meth c A Q ls hx hb hml hown hts hK hA hw hl hE
  have hl : lv_has ls 6 [(0, .ref (ad 13)), (1, .int p1)] := hl
  have hown : s.vm.findClass R_T = some m.cls := hown
  have hg : ∀ {w : Cond}, w ∈ gw → w.before _ s = true := fun h => hts _ (List.mem_cons_of_mem _ h)
  have j107 : ∀ (x5 : Int32) (F_sizes : (Nat → Int32)) (F_literals : (Nat → Int32)) (T_place : Int32) (T_fault : Int32) (H : Heap) (locs : List Loc) (ls : Array Slot), s_T_readLiteral_107 G_size F_kinds T_size T_bytes p1 post x5 F_sizes F_literals T_place T_fault → mW D A s.heap [(k_G cA ad G_size G_inputs), (k_F cA ad F_size), (k_F_kinds cA ad F_kinds), (k_F_sizes cA ad F_sizes), (k_F_literals cA ad F_literals), (k_T cA ad T_size T_place T_fault), (k_T_bytes cA ad T_bytes)] H locs → lv_has ls 6 [(0, .ref (ad 13)), (1, .int p1), (5, .int x5)] → W p l e rm_T_readLiteral s m [.ref (ad 13), .int p1].toArray below meth c H locs 0 0 Q (F0 m 107 ls []) := by
    intro x5 F_sizes F_literals T_place T_fault H locs ls h hw hl
    unfold s_T_readLiteral_107 at h
    refine lv_aload_n hx hb d_T_readLiteral_107 rfl (lv_at hl 0 rfl) ?_
    refine va_get (D := D) (ci := 4) (v := .ref (ad 6)) (C := R_T) (T := T_T) (N := 6) hx hb hts (fun w h => List.mem_cons_of_mem _ (iw_T w h)) hown hK.1 hw.1 5 rfl rfl 1 (by decide) (hg gm_122) (fun _ h9 => h9) rfl d_T_readLiteral_108 ?_
    refine lv_iload_n hx hb d_T_readLiteral_111 rfl (lv_at hl 1 rfl) ?_
    refine lv_iload hx hb d_T_readLiteral_112 (lv_at hl 2 rfl) ?_
    refine m_callv (hr := va_runVN (As := [.int p1, .int x5]) (rest := []) ⟨hx, hb, hml, hown, hts⟩ (c_F_append l D cA ad _ F_size F_sizes F_literals p1 x5 _ h) ⟨va_cnB 2 hts (gin gm_239) rfl rfl rfl (hK.2 _ nw_236) (hg gm_3) (by decide +kernel) ⟨Nat.le_of_ble_eq_true rfl, Nat.le_of_ble_eq_true rfl⟩, hg gm_238, hg gs_17⟩ (m_preV 2 1 rfl rfl hK hw [1, 3, 4] rfl rfl) rfl rfl hl.1 rfl (lv_room (Nat.le_of_ble_eq_true rfl)) d_T_readLiteral_114 ⟨Nat.zero_le _, Nat.zero_le _⟩) (w2 := (fun (u : (Nat → Int32) × (Nat → Int32)) => [(k_G cA ad G_size G_inputs), (k_F cA ad F_size), (k_F_kinds cA ad F_kinds), (k_F_sizes cA ad u.1), (k_F_literals cA ad u.2), (k_T cA ad T_size T_place T_fault), (k_T_bytes cA ad T_bytes)])) (wr := [(k_G cA ad G_size G_inputs), (k_F_kinds cA ad F_kinds), (k_T cA ad T_size T_place T_fault), (k_T_bytes cA ad T_bytes)]) hw hA [1, 3, 4] [0, 2, 5, 6] [0, 4, 1, 5, 6, 2, 3] rfl rfl (by decide) (by decide) (by decide) (fun _ => rfl) (fun u H locs hw h => ?_)
    obtain ⟨F_sizes_114, F_literals_114⟩ := u
    have hw : mW D A s.heap [(k_G cA ad G_size G_inputs), (k_F cA ad F_size), (k_F_kinds cA ad F_kinds), (k_F_sizes cA ad F_sizes_114), (k_F_literals cA ad F_literals_114), (k_T cA ad T_size T_place T_fault), (k_T_bytes cA ad T_bytes)] H locs := hw
    exact hE (F_sizes_114, F_literals_114, T_place, T_fault) _ _ _ _ h hw d_T_readLiteral_117
  have j67 : ∀ (x2 : Int32) (F_sizes : (Nat → Int32)) (F_literals : (Nat → Int32)) (T_place : Int32) (T_fault : Int32) (H : Heap) (locs : List Loc) (ls : Array Slot), s_T_readLiteral_67 G_size F_kinds T_size T_bytes p1 post x2 F_sizes F_literals T_place T_fault → mW D A s.heap [(k_G cA ad G_size G_inputs), (k_F cA ad F_size), (k_F_kinds cA ad F_kinds), (k_F_sizes cA ad F_sizes), (k_F_literals cA ad F_literals), (k_T cA ad T_size T_place T_fault), (k_T_bytes cA ad T_bytes)] H locs → lv_has ls 6 [(0, .ref (ad 13)), (2, .int x2)] → W p l e rm_T_readLiteral s m [.ref (ad 13), .int p1].toArray below meth c H locs 0 0 Q (F0 m 67 ls []) := by
    intro x2 F_sizes F_literals T_place T_fault H locs ls h hw hl
    unfold s_T_readLiteral_67 at h
    refine lv_aload_n hx hb d_T_readLiteral_67 rfl (lv_at hl 0 rfl) ?_
    refine lv_iload_n hx hb d_T_readLiteral_68 rfl (lv_at hl 1 rfl) ?_
    refine m_put (ws' := [(k_G cA ad G_size G_inputs), (k_F cA ad F_size), (k_F_kinds cA ad F_kinds), (k_F_sizes cA ad F_sizes), (k_F_literals cA ad F_literals), (k_T cA ad T_size T_place x2), (k_T_bytes cA ad T_bytes)]) (ci := 4) (v := .int x2) (ty := .int) (C := R_T) (T := T_T) (N := 6) hx hb hts (fun w h => List.mem_cons_of_mem _ (iw_T w h)) ty_T tyok_T nm_T hown hK.1 hw 5 rfl rfl 5 (by decide) (hg gm_127) (fun _ h9 => h9) rfl (by decide +kernel) rfl rfl (Nat.le_of_ble_eq_true rfl) rfl d_T_readLiteral_69 (fun H locs hw => ?_)
    exact hE (F_sizes, F_literals, T_place, x2) _ _ _ _ h hw d_T_readLiteral_72
  have j19 : ∀ (s0 : Int32) (x2 : Int32) (F_sizes : (Nat → Int32)) (F_literals : (Nat → Int32)) (T_place : Int32) (T_fault : Int32) (H : Heap) (locs : List Loc) (ls : Array Slot), s_T_readLiteral_19 G_size F_kinds T_size T_bytes p1 post s0 x2 F_sizes F_literals T_place T_fault → mW D A s.heap [(k_G cA ad G_size G_inputs), (k_F cA ad F_size), (k_F_kinds cA ad F_kinds), (k_F_sizes cA ad F_sizes), (k_F_literals cA ad F_literals), (k_T cA ad T_size T_place T_fault), (k_T_bytes cA ad T_bytes)] H locs → lv_has ls 6 [(0, .ref (ad 13)), (1, .int p1), (2, .int x2)] → W p l e rm_T_readLiteral s m [.ref (ad 13), .int p1].toArray below meth c H locs 0 0 Q (F0 m 19 ls [.int s0]) := by
    intro s0 x2 F_sizes F_literals T_place T_fault H locs ls h hw hl
    unfold s_T_readLiteral_19 at h
    refine lv_istore_n (lv' := [(3, .int s0), (0, .ref (ad 13)), (1, .int p1), (2, .int x2)]) hx hb d_T_readLiteral_19 rfl hl (by decide) rfl (fun ls hl => ?_)
    refine lv_aload_n hx hb d_T_readLiteral_20 rfl (lv_at hl 1 rfl) ?_
    refine lv_dup hx hb d_T_readLiteral_21 rfl ?_
    refine va_get (D := D) (ci := 4) (v := .int T_place) (C := R_T) (T := T_T) (N := 6) hx hb hts (fun w h => List.mem_cons_of_mem _ (iw_T w h)) hown hK.1 hw.1 5 rfl rfl 4 (by decide) (hg gm_126) (fun _ h9 => h9) rfl d_T_readLiteral_22 ?_
    refine lv_iconst (v := 1) hx hb d_T_readLiteral_25 (by decide) ?_
    refine lv_iadd hx hb d_T_readLiteral_26 ?_
    refine m_put (ws' := [(k_G cA ad G_size G_inputs), (k_F cA ad F_size), (k_F_kinds cA ad F_kinds), (k_F_sizes cA ad F_sizes), (k_F_literals cA ad F_literals), (k_T cA ad T_size (T_place + 1) T_fault), (k_T_bytes cA ad T_bytes)]) (ci := 4) (v := .int (T_place + 1)) (ty := .int) (C := R_T) (T := T_T) (N := 6) hx hb hts (fun w h => List.mem_cons_of_mem _ (iw_T w h)) ty_T tyok_T nm_T hown hK.1 hw 5 rfl rfl 4 (by decide) (hg gm_126) (fun _ h9 => h9) rfl (by decide +kernel) rfl rfl (Nat.le_of_ble_eq_true rfl) rfl d_T_readLiteral_27 (fun H locs hw => ?_)
    refine lv_aload_n hx hb d_T_readLiteral_30 rfl (lv_at hl 1 rfl) ?_
    refine m_callv (hr := va_runV (As := []) (rest := []) ⟨hx, hb, hml, hown, hts⟩ (c_T_skipBlanks l D cA ad _ T_size (T_place + 1) T_fault T_bytes _ h) (cwV 0 hts (ginV gm_194 gm_196 gs_8 gm_5 gm_197) rfl rfl rfl (by decide +kernel) ⟨Nat.le_of_ble_eq_true rfl, Nat.le_of_ble_eq_true rfl⟩) (m_preV 4 5 rfl rfl hK hw [5, 6] rfl rfl) rfl rfl hl.1 rfl (lv_room (Nat.le_of_ble_eq_true rfl)) d_T_readLiteral_31 ⟨Nat.zero_le _, Nat.zero_le _⟩) (w2 := (fun (u : Int32) => [(k_G cA ad G_size G_inputs), (k_F cA ad F_size), (k_F_kinds cA ad F_kinds), (k_F_sizes cA ad F_sizes), (k_F_literals cA ad F_literals), (k_T cA ad T_size u T_fault), (k_T_bytes cA ad T_bytes)])) (wr := [(k_G cA ad G_size G_inputs), (k_F cA ad F_size), (k_F_kinds cA ad F_kinds), (k_F_sizes cA ad F_sizes), (k_F_literals cA ad F_literals)]) hw hA [5, 6] [0, 1, 2, 3, 4] [0, 1, 2, 3, 4, 5, 6] rfl rfl (by decide) (by decide) (by decide) (fun _ => rfl) (fun u H locs hw h => ?_)
    obtain ⟨T_place_31, rfl⟩ : ∃ z, z = u := ⟨_, rfl⟩
    have hw : mW D A s.heap [(k_G cA ad G_size G_inputs), (k_F cA ad F_size), (k_F_kinds cA ad F_kinds), (k_F_sizes cA ad F_sizes), (k_F_literals cA ad F_literals), (k_T cA ad T_size T_place_31 T_fault), (k_T_bytes cA ad T_bytes)] H locs := hw
    refine lv_aload_n hx hb d_T_readLiteral_34 rfl (lv_at hl 1 rfl) ?_
    refine m_calli (hr := va_runV (As := []) (rest := []) ⟨hx, hb, hml, hown, hts⟩ (c_T_readNumber l D cA ad _ T_size T_place_31 T_fault T_bytes _ h) (cwV 0 hts (ginV gm_206 gm_208 gs_11 gm_5 gm_209) rfl rfl rfl (by decide +kernel) ⟨Nat.le_of_ble_eq_true rfl, Nat.le_of_ble_eq_true rfl⟩) (m_preV 4 5 rfl rfl hK hw [5, 6] rfl rfl) rfl rfl hl.1 rfl (lv_room (Nat.le_of_ble_eq_true rfl)) d_T_readLiteral_35 ⟨Nat.zero_le _, Nat.zero_le _⟩) (w2 := (fun (u : Int32) => [(k_G cA ad G_size G_inputs), (k_F cA ad F_size), (k_F_kinds cA ad F_kinds), (k_F_sizes cA ad F_sizes), (k_F_literals cA ad F_literals), (k_T cA ad T_size u T_fault), (k_T_bytes cA ad T_bytes)])) (wr := [(k_G cA ad G_size G_inputs), (k_F cA ad F_size), (k_F_kinds cA ad F_kinds), (k_F_sizes cA ad F_sizes), (k_F_literals cA ad F_literals)]) hw hA [5, 6] [0, 1, 2, 3, 4] [0, 1, 2, 3, 4, 5, 6] rfl rfl (by decide) (by decide) (by decide) (fun _ => rfl) (fun r35 u H locs hw h => ?_)
    obtain ⟨T_place_35, rfl⟩ : ∃ z, z = u := ⟨_, rfl⟩
    have hw : mW D A s.heap [(k_G cA ad G_size G_inputs), (k_F cA ad F_size), (k_F_kinds cA ad F_kinds), (k_F_sizes cA ad F_sizes), (k_F_literals cA ad F_literals), (k_T cA ad T_size T_place_35 T_fault), (k_T_bytes cA ad T_bytes)] H locs := hw
    refine lv_istore (lv' := [(4, .int r35), (3, .int s0), (0, .ref (ad 13)), (1, .int p1), (2, .int x2)]) hx hb d_T_readLiteral_38 hl (by decide) rfl (fun ls hl => ?_)
    refine lv_aload_n hx hb d_T_readLiteral_40 rfl (lv_at hl 2 rfl) ?_
    refine m_callv (hr := va_runV (As := []) (rest := []) ⟨hx, hb, hml, hown, hts⟩ (c_T_skipBlanks l D cA ad _ T_size T_place_35 T_fault T_bytes _ h) (cwV 0 hts (ginV gm_194 gm_196 gs_8 gm_5 gm_197) rfl rfl rfl (by decide +kernel) ⟨Nat.le_of_ble_eq_true rfl, Nat.le_of_ble_eq_true rfl⟩) (m_preV 4 5 rfl rfl hK hw [5, 6] rfl rfl) rfl rfl hl.1 rfl (lv_room (Nat.le_of_ble_eq_true rfl)) d_T_readLiteral_41 ⟨Nat.zero_le _, Nat.zero_le _⟩) (w2 := (fun (u : Int32) => [(k_G cA ad G_size G_inputs), (k_F cA ad F_size), (k_F_kinds cA ad F_kinds), (k_F_sizes cA ad F_sizes), (k_F_literals cA ad F_literals), (k_T cA ad T_size u T_fault), (k_T_bytes cA ad T_bytes)])) (wr := [(k_G cA ad G_size G_inputs), (k_F cA ad F_size), (k_F_kinds cA ad F_kinds), (k_F_sizes cA ad F_sizes), (k_F_literals cA ad F_literals)]) hw hA [5, 6] [0, 1, 2, 3, 4] [0, 1, 2, 3, 4, 5, 6] rfl rfl (by decide) (by decide) (by decide) (fun _ => rfl) (fun u H locs hw h => ?_)
    obtain ⟨T_place_41, rfl⟩ : ∃ z, z = u := ⟨_, rfl⟩
    have hw : mW D A s.heap [(k_G cA ad G_size G_inputs), (k_F cA ad F_size), (k_F_kinds cA ad F_kinds), (k_F_sizes cA ad F_sizes), (k_F_literals cA ad F_literals), (k_T cA ad T_size T_place_41 T_fault), (k_T_bytes cA ad T_bytes)] H locs := hw
    refine lv_aload_n hx hb d_T_readLiteral_44 rfl (lv_at hl 2 rfl) ?_
    refine va_get (D := D) (ci := 4) (v := .ref (ad 6)) (C := R_T) (T := T_T) (N := 6) hx hb hts (fun w h => List.mem_cons_of_mem _ (iw_T w h)) hown hK.1 hw.1 5 rfl rfl 1 (by decide) (hg gm_122) (fun _ h9 => h9) rfl d_T_readLiteral_45 ?_
    refine lv_iload_n hx hb d_T_readLiteral_48 rfl (lv_at hl 3 rfl) ?_
    refine m_calli (hr := va_runVN (As := [.int p1]) (rest := []) ⟨hx, hb, hml, hown, hts⟩ (c_F_isLineFull l D cA ad _ F_size F_kinds F_sizes p1 _ h) ⟨va_cnB 1 hts (gin gm_223) rfl rfl rfl (hK.2 _ nw_220) (hg gm_3) (by decide +kernel) ⟨Nat.le_of_ble_eq_true rfl, Nat.le_of_ble_eq_true rfl⟩, hg gm_222, hg gs_13⟩ (m_preV 2 1 rfl rfl hK hw [1, 2, 3] rfl rfl) rfl rfl hl.1 rfl (lv_room (Nat.le_of_ble_eq_true rfl)) d_T_readLiteral_49 ⟨Nat.zero_le _, Nat.zero_le _⟩) (w2 := (fun (_ : Unit) => [(k_G cA ad G_size G_inputs), (k_F cA ad F_size), (k_F_kinds cA ad F_kinds), (k_F_sizes cA ad F_sizes), (k_F_literals cA ad F_literals), (k_T cA ad T_size T_place_41 T_fault), (k_T_bytes cA ad T_bytes)])) (wr := [(k_G cA ad G_size G_inputs), (k_F_literals cA ad F_literals), (k_T cA ad T_size T_place_41 T_fault), (k_T_bytes cA ad T_bytes)]) hw hA [1, 2, 3] [0, 4, 5, 6] [0, 4, 5, 6, 1, 2, 3] rfl rfl (by decide) (by decide) (by decide) (fun _ => rfl) (fun r49 u H locs hw h => ?_)
    refine lv_if_ne (tgt := 67) hx hb d_T_readLiteral_52 (by decide) (fun hc => ?_) (fun hc => ?_)
    · have h := h.2 hc
      exact j67 _ _ _ _ _ _ _ _ h hw (lv_sub hl [2, 4] rfl)
    · have h := h.1 hc
      refine lv_aload_n hx hb d_T_readLiteral_55 rfl (lv_at hl 2 rfl) ?_
      refine va_get (D := D) (ci := 4) (v := .ref (ad 1)) (C := R_T) (T := T_T) (N := 6) hx hb hts (fun w h => List.mem_cons_of_mem _ (iw_T w h)) hown hK.1 hw.1 5 rfl rfl 0 (by decide) (hg gm_121) (fun _ h9 => h9) rfl d_T_readLiteral_56 ?_
      refine lv_iload hx hb d_T_readLiteral_59 (lv_at hl 0 rfl) ?_
      refine m_calli (hr := va_runVN (As := [.int r35]) (rest := []) ⟨hx, hb, hml, hown, hts⟩ (c_G_has l D cA ad _ G_size G_inputs r35 _ h) ⟨va_cnB 1 hts (gin gm_227) rfl rfl rfl (hK.2 _ nw_224) (hg gm_2) (by decide +kernel) ⟨Nat.le_of_ble_eq_true rfl, Nat.le_of_ble_eq_true rfl⟩, hg gm_226, hg gs_14⟩ (m_preV 1 0 rfl rfl hK hw [0] rfl rfl) rfl rfl hl.1 rfl (lv_room (Nat.le_of_ble_eq_true rfl)) d_T_readLiteral_61 ⟨Nat.zero_le _, Nat.zero_le _⟩) (w2 := (fun (_ : Unit) => [(k_G cA ad G_size G_inputs), (k_F cA ad F_size), (k_F_kinds cA ad F_kinds), (k_F_sizes cA ad F_sizes), (k_F_literals cA ad F_literals), (k_T cA ad T_size T_place_41 T_fault), (k_T_bytes cA ad T_bytes)])) (wr := [(k_F cA ad F_size), (k_F_kinds cA ad F_kinds), (k_F_sizes cA ad F_sizes), (k_F_literals cA ad F_literals), (k_T cA ad T_size T_place_41 T_fault), (k_T_bytes cA ad T_bytes)]) hw hA [0] [1, 2, 3, 4, 5, 6] [6, 0, 1, 2, 3, 4, 5] rfl rfl (by decide) (by decide) (by decide) (fun _ => rfl) (fun r61 u H locs hw h => ?_)
      refine lv_if_ne (tgt := 73) hx hb d_T_readLiteral_64 (by decide) (fun hc => ?_) (fun hc => ?_)
      · have h := h.2 hc
        refine lv_iconst (v := 2) hx hb d_T_readLiteral_73 (by decide) ?_
        refine lv_iload hx hb d_T_readLiteral_74 (lv_at hl 0 rfl) ?_
        refine lv_imul hx hb d_T_readLiteral_76 ?_
        refine lv_iload_n hx hb d_T_readLiteral_77 rfl (lv_at hl 1 rfl) ?_
        refine lv_iadd hx hb d_T_readLiteral_78 ?_
        refine lv_istore (lv' := [(5, .int ((2 * r35) + s0)), (4, .int r35), (3, .int s0), (0, .ref (ad 13)), (1, .int p1), (2, .int x2)]) hx hb d_T_readLiteral_79 hl (by decide) rfl (fun ls hl => ?_)
        refine lv_aload_n hx hb d_T_readLiteral_81 rfl (lv_at hl 3 rfl) ?_
        refine va_get (D := D) (ci := 4) (v := .ref (ad 6)) (C := R_T) (T := T_T) (N := 6) hx hb hts (fun w h => List.mem_cons_of_mem _ (iw_T w h)) hown hK.1 hw.1 5 rfl rfl 1 (by decide) (hg gm_122) (fun _ h9 => h9) rfl d_T_readLiteral_82 ?_
        refine va_getN (D := D) (ci := 2) (v := .ref (ad 7)) (C := R_F) (T := T_F) (N := 5) hx hb hts (fun w h => List.mem_cons_of_mem _ (iw_F w h)) hown hK.1 hw.1 1 rfl rfl 0 (by decide) (va_Nw.use rfl (hK.2 _ nw_68)) (fun _ h9 => h9) rfl d_T_readLiteral_85 ?_
        refine lv_iload_n hx hb d_T_readLiteral_88 rfl (lv_at hl 4 rfl) ?_
        refine va_iald hx hb hK.1 hw.1 2 0 rfl rfl h.1 d_T_readLiteral_89 ?_
        have h := h.2
        refine lv_iconst (v := 1) hx hb d_T_readLiteral_90 (by decide) ?_
        refine lv_icmp_eq (tgt := 107) hx hb d_T_readLiteral_91 (by decide) (fun hc => ?_) (fun hc => ?_)
        · have h := h.1 hc
          exact j107 _ _ _ _ _ _ _ _ h hw (lv_sub hl [3, 4, 0] rfl)
        · have h := h.2 hc
          refine lv_aload_n hx hb d_T_readLiteral_94 rfl (lv_at hl 3 rfl) ?_
          refine va_get (D := D) (ci := 4) (v := .ref (ad 6)) (C := R_T) (T := T_T) (N := 6) hx hb hts (fun w h => List.mem_cons_of_mem _ (iw_T w h)) hown hK.1 hw.1 5 rfl rfl 1 (by decide) (hg gm_122) (fun _ h9 => h9) rfl d_T_readLiteral_95 ?_
          refine lv_iload_n hx hb d_T_readLiteral_98 rfl (lv_at hl 4 rfl) ?_
          refine lv_iload hx hb d_T_readLiteral_99 (lv_at hl 0 rfl) ?_
          refine m_calli (hr := va_runVN (As := [.int p1, .int ((2 * r35) + s0)]) (rest := []) ⟨hx, hb, hml, hown, hts⟩ (c_F_contains l D cA ad _ F_size F_sizes F_literals p1 ((2 * r35) + s0) _ h) ⟨va_cnB 2 hts (gin gm_231) rfl rfl rfl (hK.2 _ nw_228) (hg gm_3) (by decide +kernel) ⟨Nat.le_of_ble_eq_true rfl, Nat.le_of_ble_eq_true rfl⟩, hg gm_230, hg gs_15⟩ (m_preV 2 1 rfl rfl hK hw [1, 3, 4] rfl rfl) rfl rfl hl.1 rfl (lv_room (Nat.le_of_ble_eq_true rfl)) d_T_readLiteral_101 ⟨Nat.zero_le _, Nat.zero_le _⟩) (w2 := (fun (_ : Unit) => [(k_G cA ad G_size G_inputs), (k_F cA ad F_size), (k_F_kinds cA ad F_kinds), (k_F_sizes cA ad F_sizes), (k_F_literals cA ad F_literals), (k_T cA ad T_size T_place_41 T_fault), (k_T_bytes cA ad T_bytes)])) (wr := [(k_G cA ad G_size G_inputs), (k_F_kinds cA ad F_kinds), (k_T cA ad T_size T_place_41 T_fault), (k_T_bytes cA ad T_bytes)]) hw hA [1, 3, 4] [0, 2, 5, 6] [0, 4, 1, 5, 6, 2, 3] rfl rfl (by decide) (by decide) (by decide) (fun _ => rfl) (fun r101 u H locs hw h => ?_)
          refine lv_if_ne (tgt := 117) hx hb d_T_readLiteral_104 (by decide) (fun hc => ?_) (fun hc => ?_)
          · have h := h.2 hc
            exact hE (F_sizes, F_literals, T_place_41, T_fault) _ _ _ _ h hw d_T_readLiteral_117
          · have h := h.1 hc
            exact j107 _ _ _ _ _ _ _ _ h hw (lv_sub hl [3, 4, 0] rfl)
      · have h := h.1 hc
        exact j67 _ _ _ _ _ _ _ _ h hw (lv_sub hl [2, 4] rfl)
  unfold wp_T_readLiteral at h
  refine lv_aload_n hx hb d_T_readLiteral_0 rfl (lv_at hl 0 rfl) ?_
  refine va_get (D := D) (ci := 4) (v := .int T_place) (C := R_T) (T := T_T) (N := 6) hx hb hts (fun w h => List.mem_cons_of_mem _ (iw_T w h)) hown hK.1 hw.1 5 rfl rfl 4 (by decide) (hg gm_126) (fun _ h9 => h9) rfl d_T_readLiteral_1 ?_
  refine lv_istore_n (lv' := [(2, .int T_place), (0, .ref (ad 13)), (1, .int p1)]) hx hb d_T_readLiteral_4 rfl hl (by decide) rfl (fun ls hl => ?_)
  refine lv_aload_n hx hb d_T_readLiteral_5 rfl (lv_at hl 1 rfl) ?_
  refine m_calli (hr := va_runV (As := []) (rest := []) ⟨hx, hb, hml, hown, hts⟩ (c_T_here l D cA ad _ T_size T_place T_fault T_bytes _ h) (cwV 0 hts (ginV gm_178 gm_180 gs_4 gm_5 gm_181) rfl rfl rfl (by decide +kernel) ⟨Nat.le_of_ble_eq_true rfl, Nat.le_of_ble_eq_true rfl⟩) (m_preV 4 5 rfl rfl hK hw [5, 6] rfl rfl) rfl rfl hl.1 rfl (lv_room (Nat.le_of_ble_eq_true rfl)) d_T_readLiteral_6 ⟨Nat.zero_le _, Nat.zero_le _⟩) (w2 := (fun (_ : Unit) => [(k_G cA ad G_size G_inputs), (k_F cA ad F_size), (k_F_kinds cA ad F_kinds), (k_F_sizes cA ad F_sizes), (k_F_literals cA ad F_literals), (k_T cA ad T_size T_place T_fault), (k_T_bytes cA ad T_bytes)])) (wr := [(k_G cA ad G_size G_inputs), (k_F cA ad F_size), (k_F_kinds cA ad F_kinds), (k_F_sizes cA ad F_sizes), (k_F_literals cA ad F_literals)]) hw hA [5, 6] [0, 1, 2, 3, 4] [0, 1, 2, 3, 4, 5, 6] rfl rfl (by decide) (by decide) (by decide) (fun _ => rfl) (fun r6 u H locs hw h => ?_)
  refine lv_bipush (v := 45) hx hb d_T_readLiteral_9 (by decide) ?_
  refine lv_icmp_ne (tgt := 18) hx hb d_T_readLiteral_11 (by decide) (fun hc => ?_) (fun hc => ?_)
  · have h := h.2 hc
    refine lv_iconst (v := 0) hx hb d_T_readLiteral_18 (by decide) ?_
    exact j19 _ _ _ _ _ _ _ _ _ h hw (lv_sub hl [1, 2, 0] rfl)
  · have h := h.1 hc
    refine lv_iconst (v := 1) hx hb d_T_readLiteral_14 (by decide) ?_
    refine lv_goto (tgt := 19) hx hb d_T_readLiteral_15 (by decide) ?_
    exact j19 _ _ _ _ _ _ _ _ _ h hw (lv_sub hl [1, 2, 0] rfl)
def rm_T_endLine : Room := { frames := 1, cells := 0, slots := 0, locals := 21 }
set_option maxHeartbeats 4000000 in
set_option maxRecDepth 100000 in
theorem c_T_endLine (l : Launch) (D : va_G) (cA : Nat → ClassId) (ad : Nat → Nat) (sz : Nat) (F_size : Int32) (F_kinds : (Nat → Int32)) (F_sizes : (Nat → Int32)) (T_size : Int32) (T_place : Int32) (T_fault : Int32) (T_bytes : (Nat → Int32)) (p1 : Int32) (post : Int32 → Prop) (h : wp_T_endLine F_kinds F_sizes T_size T_place T_fault T_bytes p1 post) : Met l y_T_endLine w_T_endLine rm_T_endLine (mPc D cA [.ref (ad 13), .int p1] [(k_F cA ad F_size), (k_F_kinds cA ad F_kinds), (k_F_sizes cA ad F_sizes), (k_T cA ad T_size T_place T_fault), (k_T_bytes cA ad T_bytes)] sz) (va_Qv (fun (u : Int32) => post u) (mB D (va_A [(k_F cA ad F_size), (k_F_kinds cA ad F_kinds), (k_F_sizes cA ad F_sizes), (k_T cA ad T_size T_place T_fault), (k_T_bytes cA ad T_bytes)] sz) (fun (u : Int32) => [(k_F cA ad F_size), (k_F_kinds cA ad F_kinds), (k_F_sizes cA ad F_sizes), (k_T cA ad T_size T_place u), (k_T_bytes cA ad T_bytes)])) (va_A [(k_F cA ad F_size), (k_F_kinds cA ad F_kinds), (k_F_sizes cA ad F_sizes), (k_T cA ad T_size T_place T_fault), (k_T_bytes cA ad T_bytes)] sz)) 0 0 (va_A [(k_F cA ad F_size), (k_F_kinds cA ad F_kinds), (k_F_sizes cA ad F_sizes), (k_T cA ad T_size T_place T_fault), (k_T_bytes cA ad T_bytes)] sz) := by
  refine m_methV (by decide) rfl (Nat.le_of_ble_eq_true rfl) ?_
  intro p e s m below meth c A Q ls hx hb hml hown hts hK hA hw hl hE
  have hl : lv_has ls 4 [(0, .ref (ad 13)), (1, .int p1)] := hl
  have hown : s.vm.findClass R_T = some m.cls := hown
  have hg : ∀ {w : Cond}, w ∈ gw → w.before _ s = true := fun h => hts _ (List.mem_cons_of_mem _ h)
  have j64 : ∀ (T_fault : Int32) (H : Heap) (locs : List Loc) (ls : Array Slot), s_T_endLine_64 F_kinds F_sizes T_size T_place T_bytes p1 post T_fault → mW D A s.heap [(k_F cA ad F_size), (k_F_kinds cA ad F_kinds), (k_F_sizes cA ad F_sizes), (k_T cA ad T_size T_place T_fault), (k_T_bytes cA ad T_bytes)] H locs → lv_has ls 4 [(0, .ref (ad 13))] → W p l e rm_T_endLine s m [.ref (ad 13), .int p1].toArray below meth c H locs 0 0 Q (F0 m 64 ls []) := by
    intro T_fault H locs ls h hw hl
    unfold s_T_endLine_64 at h
    refine lv_aload_n hx hb d_T_endLine_64 rfl (lv_at hl 0 rfl) ?_
    refine lv_aload_n hx hb d_T_endLine_65 rfl (lv_at hl 0 rfl) ?_
    refine va_get (D := D) (ci := 4) (v := .int T_place) (C := R_T) (T := T_T) (N := 6) hx hb hts (fun w h => List.mem_cons_of_mem _ (iw_T w h)) hown hK.1 hw.1 3 rfl rfl 4 (by decide) (hg gm_126) (fun _ h9 => h9) rfl d_T_endLine_66 ?_
    refine m_put (ws' := [(k_F cA ad F_size), (k_F_kinds cA ad F_kinds), (k_F_sizes cA ad F_sizes), (k_T cA ad T_size T_place T_place), (k_T_bytes cA ad T_bytes)]) (ci := 4) (v := .int T_place) (ty := .int) (C := R_T) (T := T_T) (N := 6) hx hb hts (fun w h => List.mem_cons_of_mem _ (iw_T w h)) ty_T tyok_T nm_T hown hK.1 hw 3 rfl rfl 5 (by decide) (hg gm_127) (fun _ h9 => h9) rfl (by decide +kernel) rfl rfl (Nat.le_of_ble_eq_true rfl) rfl d_T_endLine_69 (fun H locs hw => ?_)
    exact hE (T_place) _ _ _ _ h hw d_T_endLine_72
  have j55 : ∀ (s0 : Int32) (x2 : Int32) (T_fault : Int32) (H : Heap) (locs : List Loc) (ls : Array Slot), s_T_endLine_55 F_kinds F_sizes T_size T_place T_bytes p1 post s0 x2 T_fault → mW D A s.heap [(k_F cA ad F_size), (k_F_kinds cA ad F_kinds), (k_F_sizes cA ad F_sizes), (k_T cA ad T_size T_place T_fault), (k_T_bytes cA ad T_bytes)] H locs → lv_has ls 4 [(0, .ref (ad 13)), (2, .int x2)] → W p l e rm_T_endLine s m [.ref (ad 13), .int p1].toArray below meth c H locs 0 0 Q (F0 m 55 ls [.int s0]) := by
    intro s0 x2 T_fault H locs ls h hw hl
    unfold s_T_endLine_55 at h
    refine lv_istore_n (lv' := [(3, .int s0), (0, .ref (ad 13)), (2, .int x2)]) hx hb d_T_endLine_55 rfl hl (by decide) rfl (fun ls hl => ?_)
    refine lv_iload_n hx hb d_T_endLine_56 rfl (lv_at hl 2 rfl) ?_
    refine lv_if_ne (tgt := 64) hx hb d_T_endLine_57 (by decide) (fun hc => ?_) (fun hc => ?_)
    · have h := h.2 hc
      exact j64 _ _ _ _ h hw (lv_sub hl [1] rfl)
    · have h := h.1 hc
      refine lv_iload_n hx hb d_T_endLine_60 rfl (lv_at hl 0 rfl) ?_
      refine lv_if_ne (tgt := 72) hx hb d_T_endLine_61 (by decide) (fun hc => ?_) (fun hc => ?_)
      · have h := h.2 hc
        exact hE (T_fault) _ _ _ _ h hw d_T_endLine_72
      · have h := h.1 hc
        exact j64 _ _ _ _ h hw (lv_sub hl [1] rfl)
  have j50 : ∀ (x2 : Int32) (T_fault : Int32) (H : Heap) (locs : List Loc) (ls : Array Slot), s_T_endLine_50 F_kinds F_sizes T_size T_place T_bytes p1 post x2 T_fault → mW D A s.heap [(k_F cA ad F_size), (k_F_kinds cA ad F_kinds), (k_F_sizes cA ad F_sizes), (k_T cA ad T_size T_place T_fault), (k_T_bytes cA ad T_bytes)] H locs → lv_has ls 4 [(0, .ref (ad 13)), (2, .int x2)] → W p l e rm_T_endLine s m [.ref (ad 13), .int p1].toArray below meth c H locs 0 0 Q (F0 m 50 ls []) := by
    intro x2 T_fault H locs ls h hw hl
    unfold s_T_endLine_50 at h
    refine lv_iconst (v := 1) hx hb d_T_endLine_50 (by decide) ?_
    refine lv_goto (tgt := 55) hx hb d_T_endLine_51 (by decide) ?_
    exact j55 _ _ _ _ _ _ h hw (lv_sub hl [0, 1] rfl)
  have j29 : ∀ (s0 : Int32) (T_fault : Int32) (H : Heap) (locs : List Loc) (ls : Array Slot), s_T_endLine_29 F_kinds F_sizes T_size T_place T_bytes p1 post s0 T_fault → mW D A s.heap [(k_F cA ad F_size), (k_F_kinds cA ad F_kinds), (k_F_sizes cA ad F_sizes), (k_T cA ad T_size T_place T_fault), (k_T_bytes cA ad T_bytes)] H locs → lv_has ls 4 [(0, .ref (ad 13))] → W p l e rm_T_endLine s m [.ref (ad 13), .int p1].toArray below meth c H locs 0 0 Q (F0 m 29 ls [.int s0]) := by
    intro s0 T_fault H locs ls h hw hl
    unfold s_T_endLine_29 at h
    refine lv_istore_n (lv' := [(2, .int s0), (0, .ref (ad 13))]) hx hb d_T_endLine_29 rfl hl (by decide) rfl (fun ls hl => ?_)
    refine lv_aload_n hx hb d_T_endLine_30 rfl (lv_at hl 1 rfl) ?_
    refine va_get (D := D) (ci := 4) (v := .int T_place) (C := R_T) (T := T_T) (N := 6) hx hb hts (fun w h => List.mem_cons_of_mem _ (iw_T w h)) hown hK.1 hw.1 3 rfl rfl 4 (by decide) (hg gm_126) (fun _ h9 => h9) rfl d_T_endLine_31 ?_
    refine lv_aload_n hx hb d_T_endLine_34 rfl (lv_at hl 1 rfl) ?_
    refine va_get (D := D) (ci := 4) (v := .int T_size) (C := R_T) (T := T_T) (N := 6) hx hb hts (fun w h => List.mem_cons_of_mem _ (iw_T w h)) hown hK.1 hw.1 3 rfl rfl 3 (by decide) (hg gm_124) (fun _ h9 => h9) rfl d_T_endLine_35 ?_
    refine lv_icmp_ge (tgt := 50) hx hb d_T_endLine_38 (by decide) (fun hc => ?_) (fun hc => ?_)
    · have h := h.1 hc
      exact j50 _ _ _ _ _ h hw (lv_sub hl [1, 0] rfl)
    · have h := h.2 hc
      refine lv_aload_n hx hb d_T_endLine_41 rfl (lv_at hl 1 rfl) ?_
      refine m_calli (hr := va_runV (As := []) (rest := []) ⟨hx, hb, hml, hown, hts⟩ (c_T_here l D cA ad _ T_size T_place T_fault T_bytes _ h) (cwV 0 hts (ginV gm_178 gm_180 gs_4 gm_5 gm_181) rfl rfl rfl (by decide +kernel) ⟨Nat.le_of_ble_eq_true rfl, Nat.le_of_ble_eq_true rfl⟩) (m_preV 4 3 rfl rfl hK hw [3, 4] rfl rfl) rfl rfl hl.1 rfl (lv_room (Nat.le_of_ble_eq_true rfl)) d_T_endLine_42 ⟨Nat.zero_le _, Nat.zero_le _⟩) (w2 := (fun (_ : Unit) => [(k_F cA ad F_size), (k_F_kinds cA ad F_kinds), (k_F_sizes cA ad F_sizes), (k_T cA ad T_size T_place T_fault), (k_T_bytes cA ad T_bytes)])) (wr := [(k_F cA ad F_size), (k_F_kinds cA ad F_kinds), (k_F_sizes cA ad F_sizes)]) hw hA [3, 4] [0, 1, 2] [0, 1, 2, 3, 4] rfl rfl (by decide) (by decide) (by decide) (fun _ => rfl) (fun r42 u H locs hw h => ?_)
      refine lv_bipush (v := 10) hx hb d_T_endLine_45 (by decide) ?_
      refine lv_icmp_ne (tgt := 54) hx hb d_T_endLine_47 (by decide) (fun hc => ?_) (fun hc => ?_)
      · have h := h.2 hc
        refine lv_iconst (v := 0) hx hb d_T_endLine_54 (by decide) ?_
        exact j55 _ _ _ _ _ _ h hw (lv_sub hl [1, 0] rfl)
      · have h := h.1 hc
        exact j50 _ _ _ _ _ h hw (lv_sub hl [1, 0] rfl)
  have j28 : ∀ (T_fault : Int32) (H : Heap) (locs : List Loc) (ls : Array Slot), s_T_endLine_28 F_kinds F_sizes T_size T_place T_bytes p1 post T_fault → mW D A s.heap [(k_F cA ad F_size), (k_F_kinds cA ad F_kinds), (k_F_sizes cA ad F_sizes), (k_T cA ad T_size T_place T_fault), (k_T_bytes cA ad T_bytes)] H locs → lv_has ls 4 [(0, .ref (ad 13))] → W p l e rm_T_endLine s m [.ref (ad 13), .int p1].toArray below meth c H locs 0 0 Q (F0 m 28 ls []) := by
    intro T_fault H locs ls h hw hl
    unfold s_T_endLine_28 at h
    refine lv_iconst (v := 0) hx hb d_T_endLine_28 (by decide) ?_
    exact j29 _ _ _ _ _ h hw (lv_sub hl [0] rfl)
  unfold wp_T_endLine at h
  refine lv_aload_n hx hb d_T_endLine_0 rfl (lv_at hl 0 rfl) ?_
  refine va_get (D := D) (ci := 4) (v := .ref (ad 6)) (C := R_T) (T := T_T) (N := 6) hx hb hts (fun w h => List.mem_cons_of_mem _ (iw_T w h)) hown hK.1 hw.1 3 rfl rfl 1 (by decide) (hg gm_122) (fun _ h9 => h9) rfl d_T_endLine_1 ?_
  refine va_getN (D := D) (ci := 2) (v := .ref (ad 7)) (C := R_F) (T := T_F) (N := 5) hx hb hts (fun w h => List.mem_cons_of_mem _ (iw_F w h)) hown hK.1 hw.1 0 rfl rfl 0 (by decide) (va_Nw.use rfl (hK.2 _ nw_68)) (fun _ h9 => h9) rfl d_T_endLine_4 ?_
  refine lv_iload_n hx hb d_T_endLine_7 rfl (lv_at hl 1 rfl) ?_
  refine va_iald hx hb hK.1 hw.1 1 0 rfl rfl h.1 d_T_endLine_8 ?_
  have h := h.2
  refine lv_iconst (v := 1) hx hb d_T_endLine_9 (by decide) ?_
  refine lv_icmp_ne (tgt := 28) hx hb d_T_endLine_10 (by decide) (fun hc => ?_) (fun hc => ?_)
  · have h := h.2 hc
    exact j28 _ _ _ _ h hw (lv_sub hl [0] rfl)
  · have h := h.1 hc
    refine lv_aload_n hx hb d_T_endLine_13 rfl (lv_at hl 0 rfl) ?_
    refine va_get (D := D) (ci := 4) (v := .ref (ad 6)) (C := R_T) (T := T_T) (N := 6) hx hb hts (fun w h => List.mem_cons_of_mem _ (iw_T w h)) hown hK.1 hw.1 3 rfl rfl 1 (by decide) (hg gm_122) (fun _ h9 => h9) rfl d_T_endLine_14 ?_
    refine lv_iload_n hx hb d_T_endLine_17 rfl (lv_at hl 1 rfl) ?_
    refine m_calli (hr := va_runVN (As := [.int p1]) (rest := []) ⟨hx, hb, hml, hown, hts⟩ (c_F_isLineFull l D cA ad _ F_size F_kinds F_sizes p1 _ h) ⟨va_cnB 1 hts (gin gm_223) rfl rfl rfl (hK.2 _ nw_220) (hg gm_3) (by decide +kernel) ⟨Nat.le_of_ble_eq_true rfl, Nat.le_of_ble_eq_true rfl⟩, hg gm_222, hg gs_13⟩ (m_preV 2 0 rfl rfl hK hw [0, 1, 2] rfl rfl) rfl rfl hl.1 rfl (lv_room (Nat.le_of_ble_eq_true rfl)) d_T_endLine_18 ⟨Nat.zero_le _, Nat.zero_le _⟩) (w2 := (fun (_ : Unit) => [(k_F cA ad F_size), (k_F_kinds cA ad F_kinds), (k_F_sizes cA ad F_sizes), (k_T cA ad T_size T_place T_fault), (k_T_bytes cA ad T_bytes)])) (wr := [(k_T cA ad T_size T_place T_fault), (k_T_bytes cA ad T_bytes)]) hw hA [0, 1, 2] [3, 4] [2, 3, 4, 0, 1] rfl rfl (by decide) (by decide) (by decide) (fun _ => rfl) (fun r18 u H locs hw h => ?_)
    refine lv_if_ne (tgt := 28) hx hb d_T_endLine_21 (by decide) (fun hc => ?_) (fun hc => ?_)
    · have h := h.2 hc
      exact j28 _ _ _ _ h hw (lv_sub hl [0] rfl)
    · have h := h.1 hc
      refine lv_iconst (v := 1) hx hb d_T_endLine_24 (by decide) ?_
      refine lv_goto (tgt := 29) hx hb d_T_endLine_25 (by decide) ?_
      exact j29 _ _ _ _ _ h hw (lv_sub hl [0] rfl)
def rm_T_readLine : Room := { frames := 4, cells := 0, slots := 0, locals := 86 }
set_option maxHeartbeats 4000000 in
set_option maxRecDepth 100000 in
theorem c_T_readLine (l : Launch) (D : va_G) (cA : Nat → ClassId) (ad : Nat → Nat) (sz : Nat) (G_size : Int32) (G_inputs : Int32) (F_size : Int32) (F_kinds : (Nat → Int32)) (F_sizes : (Nat → Int32)) (F_literals : (Nat → Int32)) (T_size : Int32) (T_place : Int32) (T_fault : Int32) (T_bytes : (Nat → Int32)) (post : Int32 → (Nat → Int32) → (Nat → Int32) → (Nat → Int32) → Int32 → Int32 → Prop) (h : wp_T_readLine G_size F_size F_kinds F_sizes F_literals T_size T_place T_fault T_bytes post) : Met l y_T_readLine w_T_readLine rm_T_readLine (mPc D cA [.ref (ad 13)] [(k_G cA ad G_size G_inputs), (k_F cA ad F_size), (k_F_kinds cA ad F_kinds), (k_F_sizes cA ad F_sizes), (k_F_literals cA ad F_literals), (k_T cA ad T_size T_place T_fault), (k_T_bytes cA ad T_bytes)] sz) (va_Qv (fun (u : Int32 × (Nat → Int32) × (Nat → Int32) × (Nat → Int32) × Int32 × Int32) => post u.1 u.2.1 u.2.2.1 u.2.2.2.1 u.2.2.2.2.1 u.2.2.2.2.2) (mB D (va_A [(k_G cA ad G_size G_inputs), (k_F cA ad F_size), (k_F_kinds cA ad F_kinds), (k_F_sizes cA ad F_sizes), (k_F_literals cA ad F_literals), (k_T cA ad T_size T_place T_fault), (k_T_bytes cA ad T_bytes)] sz) (fun (u : Int32 × (Nat → Int32) × (Nat → Int32) × (Nat → Int32) × Int32 × Int32) => [(k_G cA ad G_size G_inputs), (k_F cA ad u.1), (k_F_kinds cA ad u.2.1), (k_F_sizes cA ad u.2.2.1), (k_F_literals cA ad u.2.2.2.1), (k_T cA ad T_size u.2.2.2.2.1 u.2.2.2.2.2), (k_T_bytes cA ad T_bytes)])) (va_A [(k_G cA ad G_size G_inputs), (k_F cA ad F_size), (k_F_kinds cA ad F_kinds), (k_F_sizes cA ad F_sizes), (k_F_literals cA ad F_literals), (k_T cA ad T_size T_place T_fault), (k_T_bytes cA ad T_bytes)] sz)) 0 0 (va_A [(k_G cA ad G_size G_inputs), (k_F cA ad F_size), (k_F_kinds cA ad F_kinds), (k_F_sizes cA ad F_sizes), (k_F_literals cA ad F_literals), (k_T cA ad T_size T_place T_fault), (k_T_bytes cA ad T_bytes)] sz) := by
  refine m_methV (by decide) rfl (Nat.le_of_ble_eq_true rfl) ?_
  intro p e s m below meth c A Q ls hx hb hml hown hts hK hA hw hl hE
  have hl : lv_has ls 4 [(0, .ref (ad 13))] := hl
  have hown : s.vm.findClass R_T = some m.cls := hown
  have hg : ∀ {w : Cond}, w ∈ gw → w.before _ s = true := fun h => hts _ (List.mem_cons_of_mem _ h)
  obtain ⟨C71, hC71⟩ : ∃ C : Int32 → Int32 → Int32 → (Nat → Int32) → (Nat → Int32) → (Nat → Int32) → Int32 → Int32 → Prop, ∀ (x2 : Int32) (x3 : Int32) (F_size : Int32) (F_kinds : (Nat → Int32)) (F_sizes : (Nat → Int32)) (F_literals : (Nat → Int32)) (T_place : Int32) (T_fault : Int32), C x2 x3 F_size F_kinds F_sizes F_literals T_place T_fault ↔ (∀ (H : Heap) (locs : List Loc) (ls : Array Slot), mW D A s.heap [(k_G cA ad G_size G_inputs), (k_F cA ad F_size), (k_F_kinds cA ad F_kinds), (k_F_sizes cA ad F_sizes), (k_F_literals cA ad F_literals), (k_T cA ad T_size T_place T_fault), (k_T_bytes cA ad T_bytes)] H locs → lv_has ls 4 [(0, .ref (ad 13)), (2, .int x2), (3, .int x3)] → W p l e rm_T_readLine s m [.ref (ad 13)].toArray below meth c H locs 0 0 Q (F0 m 71 ls [])) := ⟨_, fun _ _ _ _ _ _ _ _ => Iff.rfl⟩
  have j104 : ∀ (x2 : Int32) (F_size : Int32) (F_kinds : (Nat → Int32)) (F_sizes : (Nat → Int32)) (F_literals : (Nat → Int32)) (T_place : Int32) (T_fault : Int32) (H : Heap) (locs : List Loc) (ls : Array Slot), s_T_readLine_104 G_size T_size T_bytes C71 post x2 F_size F_kinds F_sizes F_literals T_place T_fault → mW D A s.heap [(k_G cA ad G_size G_inputs), (k_F cA ad F_size), (k_F_kinds cA ad F_kinds), (k_F_sizes cA ad F_sizes), (k_F_literals cA ad F_literals), (k_T cA ad T_size T_place T_fault), (k_T_bytes cA ad T_bytes)] H locs → lv_has ls 4 [(0, .ref (ad 13)), (2, .int x2)] → W p l e rm_T_readLine s m [.ref (ad 13)].toArray below meth c H locs 0 0 Q (F0 m 104 ls []) := by
    intro x2 F_size F_kinds F_sizes F_literals T_place T_fault H locs ls h hw hl
    unfold s_T_readLine_104 at h
    refine lv_aload_n hx hb d_T_readLine_104 rfl (lv_at hl 0 rfl) ?_
    refine va_get (D := D) (ci := 4) (v := .int T_fault) (C := R_T) (T := T_T) (N := 6) hx hb hts (fun w h => List.mem_cons_of_mem _ (iw_T w h)) hown hK.1 hw.1 5 rfl rfl 5 (by decide) (hg gm_127) (fun _ h9 => h9) rfl d_T_readLine_105 ?_
    refine lv_iconst (v := (-1)) hx hb d_T_readLine_108 (by decide) ?_
    refine lv_icmp_ne (tgt := 117) hx hb d_T_readLine_109 (by decide) (fun hc => ?_) (fun hc => ?_)
    · have h := h.2 hc
      exact hE (F_size, F_kinds, F_sizes, F_literals, T_place, T_fault) _ _ _ _ h hw d_T_readLine_117
    · have h := h.1 hc
      refine lv_aload_n hx hb d_T_readLine_112 rfl (lv_at hl 0 rfl) ?_
      refine lv_iload_n hx hb d_T_readLine_113 rfl (lv_at hl 1 rfl) ?_
      refine m_callv (hr := va_runV (As := [.int x2]) (rest := []) ⟨hx, hb, hml, hown, hts⟩ (c_T_endLine l D cA ad _ F_size F_kinds F_sizes T_size T_place T_fault T_bytes x2 _ h) (cwV 1 hts (ginV gm_240 gm_242 gs_18 gm_5 gm_243) rfl rfl rfl (by decide +kernel) ⟨Nat.le_of_ble_eq_true rfl, Nat.le_of_ble_eq_true rfl⟩) (m_preV 4 5 rfl rfl hK hw [1, 2, 3, 5, 6] rfl rfl) rfl rfl hl.1 rfl (lv_room (Nat.le_of_ble_eq_true rfl)) d_T_readLine_114 ⟨Nat.zero_le _, Nat.zero_le _⟩) (w2 := (fun (u : Int32) => [(k_G cA ad G_size G_inputs), (k_F cA ad F_size), (k_F_kinds cA ad F_kinds), (k_F_sizes cA ad F_sizes), (k_F_literals cA ad F_literals), (k_T cA ad T_size T_place u), (k_T_bytes cA ad T_bytes)])) (wr := [(k_G cA ad G_size G_inputs), (k_F_literals cA ad F_literals)]) hw hA [1, 2, 3, 5, 6] [0, 4] [0, 2, 3, 4, 1, 5, 6] rfl rfl (by decide) (by decide) (by decide) (fun _ => rfl) (fun u H locs hw h => ?_)
      obtain ⟨T_fault_114, rfl⟩ : ∃ z, z = u := ⟨_, rfl⟩
      have hw : mW D A s.heap [(k_G cA ad G_size G_inputs), (k_F cA ad F_size), (k_F_kinds cA ad F_kinds), (k_F_sizes cA ad F_sizes), (k_F_literals cA ad F_literals), (k_T cA ad T_size T_place T_fault_114), (k_T_bytes cA ad T_bytes)] H locs := hw
      exact hE (F_size, F_kinds, F_sizes, F_literals, T_place, T_fault_114) _ _ _ _ h hw d_T_readLine_117
  have j51 : ∀ (s0 : Int32) (F_size : Int32) (F_kinds : (Nat → Int32)) (F_sizes : (Nat → Int32)) (F_literals : (Nat → Int32)) (T_place : Int32) (T_fault : Int32) (H : Heap) (locs : List Loc) (ls : Array Slot), s_T_readLine_51 G_size T_size T_bytes C71 post s0 F_size F_kinds F_sizes F_literals T_place T_fault → mW D A s.heap [(k_G cA ad G_size G_inputs), (k_F cA ad F_size), (k_F_kinds cA ad F_kinds), (k_F_sizes cA ad F_sizes), (k_F_literals cA ad F_literals), (k_T cA ad T_size T_place T_fault), (k_T_bytes cA ad T_bytes)] H locs → lv_has ls 4 [(0, .ref (ad 13))] → W p l e rm_T_readLine s m [.ref (ad 13)].toArray below meth c H locs 0 0 Q (F0 m 51 ls [.int s0, .ref (ad 6)]) := by
    intro s0 F_size F_kinds F_sizes F_literals T_place T_fault H locs ls h hw hl
    unfold s_T_readLine_51 at h
    refine m_calli (hr := va_runVN (As := [.int s0]) (rest := []) ⟨hx, hb, hml, hown, hts⟩ (c_F_add l D cA ad _ F_size F_kinds F_sizes s0 _ h) ⟨va_cnB 1 hts (gin gm_193) rfl rfl rfl (hK.2 _ nw_190) (hg gm_3) (by decide +kernel) ⟨Nat.le_of_ble_eq_true rfl, Nat.le_of_ble_eq_true rfl⟩, hg gm_192, hg gs_7⟩ (m_preV 2 1 rfl rfl hK hw [1, 2, 3] rfl rfl) rfl rfl hl.1 rfl (lv_room (Nat.le_of_ble_eq_true rfl)) d_T_readLine_51 ⟨Nat.zero_le _, Nat.zero_le _⟩) (w2 := (fun (u : Int32 × (Nat → Int32) × (Nat → Int32)) => [(k_G cA ad G_size G_inputs), (k_F cA ad u.1), (k_F_kinds cA ad u.2.1), (k_F_sizes cA ad u.2.2), (k_F_literals cA ad F_literals), (k_T cA ad T_size T_place T_fault), (k_T_bytes cA ad T_bytes)])) (wr := [(k_G cA ad G_size G_inputs), (k_F_literals cA ad F_literals), (k_T cA ad T_size T_place T_fault), (k_T_bytes cA ad T_bytes)]) hw hA [1, 2, 3] [0, 4, 5, 6] [0, 4, 5, 6, 1, 2, 3] rfl rfl (by decide) (by decide) (by decide) (fun _ => rfl) (fun r51 u H locs hw h => ?_)
    obtain ⟨F_size_51, F_kinds_51, F_sizes_51⟩ := u
    have hw : mW D A s.heap [(k_G cA ad G_size G_inputs), (k_F cA ad F_size_51), (k_F_kinds cA ad F_kinds_51), (k_F_sizes cA ad F_sizes_51), (k_F_literals cA ad F_literals), (k_T cA ad T_size T_place T_fault), (k_T_bytes cA ad T_bytes)] H locs := hw
    refine lv_istore_n (lv' := [(2, .int r51), (0, .ref (ad 13))]) hx hb d_T_readLine_54 rfl hl (by decide) rfl (fun ls hl => ?_)
    refine lv_aload_n hx hb d_T_readLine_55 rfl (lv_at hl 1 rfl) ?_
    refine lv_dup hx hb d_T_readLine_56 rfl ?_
    refine va_get (D := D) (ci := 4) (v := .int T_place) (C := R_T) (T := T_T) (N := 6) hx hb hts (fun w h => List.mem_cons_of_mem _ (iw_T w h)) hown hK.1 hw.1 5 rfl rfl 4 (by decide) (hg gm_126) (fun _ h9 => h9) rfl d_T_readLine_57 ?_
    refine lv_iconst (v := 1) hx hb d_T_readLine_60 (by decide) ?_
    refine lv_iadd hx hb d_T_readLine_61 ?_
    refine m_put (ws' := [(k_G cA ad G_size G_inputs), (k_F cA ad F_size_51), (k_F_kinds cA ad F_kinds_51), (k_F_sizes cA ad F_sizes_51), (k_F_literals cA ad F_literals), (k_T cA ad T_size (T_place + 1) T_fault), (k_T_bytes cA ad T_bytes)]) (ci := 4) (v := .int (T_place + 1)) (ty := .int) (C := R_T) (T := T_T) (N := 6) hx hb hts (fun w h => List.mem_cons_of_mem _ (iw_T w h)) ty_T tyok_T nm_T hown hK.1 hw 5 rfl rfl 4 (by decide) (hg gm_126) (fun _ h9 => h9) rfl (by decide +kernel) rfl rfl (Nat.le_of_ble_eq_true rfl) rfl d_T_readLine_62 (fun H locs hw => ?_)
    refine lv_aload_n hx hb d_T_readLine_65 rfl (lv_at hl 1 rfl) ?_
    refine m_callv (hr := va_runV (As := []) (rest := []) ⟨hx, hb, hml, hown, hts⟩ (c_T_skipBlanks l D cA ad _ T_size (T_place + 1) T_fault T_bytes _ h) (cwV 0 hts (ginV gm_194 gm_196 gs_8 gm_5 gm_197) rfl rfl rfl (by decide +kernel) ⟨Nat.le_of_ble_eq_true rfl, Nat.le_of_ble_eq_true rfl⟩) (m_preV 4 5 rfl rfl hK hw [5, 6] rfl rfl) rfl rfl hl.1 rfl (lv_room (Nat.le_of_ble_eq_true rfl)) d_T_readLine_66 ⟨Nat.zero_le _, Nat.zero_le _⟩) (w2 := (fun (u : Int32) => [(k_G cA ad G_size G_inputs), (k_F cA ad F_size_51), (k_F_kinds cA ad F_kinds_51), (k_F_sizes cA ad F_sizes_51), (k_F_literals cA ad F_literals), (k_T cA ad T_size u T_fault), (k_T_bytes cA ad T_bytes)])) (wr := [(k_G cA ad G_size G_inputs), (k_F cA ad F_size_51), (k_F_kinds cA ad F_kinds_51), (k_F_sizes cA ad F_sizes_51), (k_F_literals cA ad F_literals)]) hw hA [5, 6] [0, 1, 2, 3, 4] [0, 1, 2, 3, 4, 5, 6] rfl rfl (by decide) (by decide) (by decide) (fun _ => rfl) (fun u H locs hw h => ?_)
    obtain ⟨T_place_66, rfl⟩ : ∃ z, z = u := ⟨_, rfl⟩
    have hw : mW D A s.heap [(k_G cA ad G_size G_inputs), (k_F cA ad F_size_51), (k_F_kinds cA ad F_kinds_51), (k_F_sizes cA ad F_sizes_51), (k_F_literals cA ad F_literals), (k_T cA ad T_size T_place_66 T_fault), (k_T_bytes cA ad T_bytes)] H locs := hw
    refine lv_iconst (v := 0) hx hb d_T_readLine_69 (by decide) ?_
    refine lv_istore_n (lv' := [(3, .int 0), (2, .int r51), (0, .ref (ad 13))]) hx hb d_T_readLine_70 rfl hl (by decide) rfl (fun ls hl => ?_)
    exact (hC71 _ _ _ _ _ _ _ _).1 h _ _ _ hw (lv_sub hl [2, 1, 0] rfl)
  have j27 : ∀ (F_size : Int32) (F_kinds : (Nat → Int32)) (F_sizes : (Nat → Int32)) (F_literals : (Nat → Int32)) (T_place : Int32) (T_fault : Int32) (H : Heap) (locs : List Loc) (ls : Array Slot), s_T_readLine_27 G_size T_size T_bytes C71 post F_size F_kinds F_sizes F_literals T_place T_fault → mW D A s.heap [(k_G cA ad G_size G_inputs), (k_F cA ad F_size), (k_F_kinds cA ad F_kinds), (k_F_sizes cA ad F_sizes), (k_F_literals cA ad F_literals), (k_T cA ad T_size T_place T_fault), (k_T_bytes cA ad T_bytes)] H locs → lv_has ls 4 [(0, .ref (ad 13))] → W p l e rm_T_readLine s m [.ref (ad 13)].toArray below meth c H locs 0 0 Q (F0 m 27 ls []) := by
    intro F_size F_kinds F_sizes F_literals T_place T_fault H locs ls h hw hl
    unfold s_T_readLine_27 at h
    refine lv_aload_n hx hb d_T_readLine_27 rfl (lv_at hl 0 rfl) ?_
    refine lv_aload_n hx hb d_T_readLine_28 rfl (lv_at hl 0 rfl) ?_
    refine va_get (D := D) (ci := 4) (v := .int T_place) (C := R_T) (T := T_T) (N := 6) hx hb hts (fun w h => List.mem_cons_of_mem _ (iw_T w h)) hown hK.1 hw.1 5 rfl rfl 4 (by decide) (hg gm_126) (fun _ h9 => h9) rfl d_T_readLine_29 ?_
    refine m_put (ws' := [(k_G cA ad G_size G_inputs), (k_F cA ad F_size), (k_F_kinds cA ad F_kinds), (k_F_sizes cA ad F_sizes), (k_F_literals cA ad F_literals), (k_T cA ad T_size T_place T_place), (k_T_bytes cA ad T_bytes)]) (ci := 4) (v := .int T_place) (ty := .int) (C := R_T) (T := T_T) (N := 6) hx hb hts (fun w h => List.mem_cons_of_mem _ (iw_T w h)) ty_T tyok_T nm_T hown hK.1 hw 5 rfl rfl 5 (by decide) (hg gm_127) (fun _ h9 => h9) rfl (by decide +kernel) rfl rfl (Nat.le_of_ble_eq_true rfl) rfl d_T_readLine_32 (fun H locs hw => ?_)
    exact hE (F_size, F_kinds, F_sizes, F_literals, T_place, T_place) _ _ _ _ h hw d_T_readLine_35
  have j17 : ∀ (x1 : Int32) (F_size : Int32) (F_kinds : (Nat → Int32)) (F_sizes : (Nat → Int32)) (F_literals : (Nat → Int32)) (T_place : Int32) (T_fault : Int32) (H : Heap) (locs : List Loc) (ls : Array Slot), s_T_readLine_17 G_size T_size T_bytes C71 post x1 F_size F_kinds F_sizes F_literals T_place T_fault → mW D A s.heap [(k_G cA ad G_size G_inputs), (k_F cA ad F_size), (k_F_kinds cA ad F_kinds), (k_F_sizes cA ad F_sizes), (k_F_literals cA ad F_literals), (k_T cA ad T_size T_place T_fault), (k_T_bytes cA ad T_bytes)] H locs → lv_has ls 4 [(0, .ref (ad 13)), (1, .int x1)] → W p l e rm_T_readLine s m [.ref (ad 13)].toArray below meth c H locs 0 0 Q (F0 m 17 ls []) := by
    intro x1 F_size F_kinds F_sizes F_literals T_place T_fault H locs ls h hw hl
    unfold s_T_readLine_17 at h
    refine lv_aload_n hx hb d_T_readLine_17 rfl (lv_at hl 0 rfl) ?_
    refine va_get (D := D) (ci := 4) (v := .ref (ad 6)) (C := R_T) (T := T_T) (N := 6) hx hb hts (fun w h => List.mem_cons_of_mem _ (iw_T w h)) hown hK.1 hw.1 5 rfl rfl 1 (by decide) (hg gm_122) (fun _ h9 => h9) rfl d_T_readLine_18 ?_
    refine m_calli (hr := va_runVN (As := []) (rest := []) ⟨hx, hb, hml, hown, hts⟩ (c_F_isFull l D cA ad _ F_size _ h) ⟨va_cnB 0 hts (gin gm_189) rfl rfl rfl (hK.2 _ nw_186) (hg gm_3) (by decide +kernel) ⟨Nat.le_of_ble_eq_true rfl, Nat.le_of_ble_eq_true rfl⟩, hg gm_188, hg gs_6⟩ (m_preV 2 1 rfl rfl hK hw [1] rfl rfl) rfl rfl hl.1 rfl (lv_room (Nat.le_of_ble_eq_true rfl)) d_T_readLine_21 ⟨Nat.zero_le _, Nat.zero_le _⟩) (w2 := (fun (_ : Unit) => [(k_G cA ad G_size G_inputs), (k_F cA ad F_size), (k_F_kinds cA ad F_kinds), (k_F_sizes cA ad F_sizes), (k_F_literals cA ad F_literals), (k_T cA ad T_size T_place T_fault), (k_T_bytes cA ad T_bytes)])) (wr := [(k_G cA ad G_size G_inputs), (k_F_kinds cA ad F_kinds), (k_F_sizes cA ad F_sizes), (k_F_literals cA ad F_literals), (k_T cA ad T_size T_place T_fault), (k_T_bytes cA ad T_bytes)]) hw hA [1] [0, 2, 3, 4, 5, 6] [0, 6, 1, 2, 3, 4, 5] rfl rfl (by decide) (by decide) (by decide) (fun _ => rfl) (fun r21 u H locs hw h => ?_)
    refine lv_if_eq (tgt := 36) hx hb d_T_readLine_24 (by decide) (fun hc => ?_) (fun hc => ?_)
    · have h := h.1 hc
      refine lv_aload_n hx hb d_T_readLine_36 rfl (lv_at hl 0 rfl) ?_
      refine va_get (D := D) (ci := 4) (v := .ref (ad 6)) (C := R_T) (T := T_T) (N := 6) hx hb hts (fun w h => List.mem_cons_of_mem _ (iw_T w h)) hown hK.1 hw.1 5 rfl rfl 1 (by decide) (hg gm_122) (fun _ h9 => h9) rfl d_T_readLine_37 ?_
      refine lv_iload_n hx hb d_T_readLine_40 rfl (lv_at hl 1 rfl) ?_
      refine lv_bipush (v := 61) hx hb d_T_readLine_41 (by decide) ?_
      refine lv_icmp_ne (tgt := 50) hx hb d_T_readLine_43 (by decide) (fun hc => ?_) (fun hc => ?_)
      · have h := h.2 hc
        refine lv_iconst (v := 0) hx hb d_T_readLine_50 (by decide) ?_
        exact j51 _ _ _ _ _ _ _ _ _ _ h hw (lv_sub hl [0] rfl)
      · have h := h.1 hc
        refine lv_iconst (v := 1) hx hb d_T_readLine_46 (by decide) ?_
        refine lv_goto (tgt := 51) hx hb d_T_readLine_47 (by decide) ?_
        exact j51 _ _ _ _ _ _ _ _ _ _ h hw (lv_sub hl [0] rfl)
    · have h := h.2 hc
      exact j27 _ _ _ _ _ _ _ _ _ h hw (lv_sub hl [0] rfl)
  have hc71 : ∀ (x2 : Int32) (x3 : Int32) (F_size : Int32) (F_kinds : (Nat → Int32)) (F_sizes : (Nat → Int32)) (F_literals : (Nat → Int32)) (T_place : Int32) (T_fault : Int32), s_T_readLine_71 G_size T_size T_bytes C71 post x2 x3 F_size F_kinds F_sizes F_literals T_place T_fault → C71 x2 x3 F_size F_kinds F_sizes F_literals T_place T_fault := by
    intro x2 x3 F_size F_kinds F_sizes F_literals T_place T_fault h
    unfold s_T_readLine_71 at h
    refine (hC71 _ _ _ _ _ _ _ _).2 ?_
    intro H locs ls hw hl
    refine lv_iload_n hx hb d_T_readLine_71 rfl (lv_at hl 2 rfl) ?_
    refine lv_sipush (v := 1000) hx hb d_T_readLine_72 (by decide) ?_
    refine lv_icmp_ge (tgt := 104) hx hb d_T_readLine_75 (by decide) (fun hc => ?_) (fun hc => ?_)
    · have h := h.1 hc
      exact j104 _ _ _ _ _ _ _ _ _ _ h hw (lv_sub hl [0, 1] rfl)
    · have h := h.2 hc
      refine lv_aload_n hx hb d_T_readLine_78 rfl (lv_at hl 0 rfl) ?_
      refine m_calli (hr := va_runV (As := []) (rest := []) ⟨hx, hb, hml, hown, hts⟩ (c_T_isSignHere l D cA ad _ T_size T_place T_fault T_bytes _ h) (cwV 0 hts (ginV gm_198 gm_200 gs_9 gm_5 gm_201) rfl rfl rfl (by decide +kernel) ⟨Nat.le_of_ble_eq_true rfl, Nat.le_of_ble_eq_true rfl⟩) (m_preV 4 5 rfl rfl hK hw [5, 6] rfl rfl) rfl rfl hl.1 rfl (lv_room (Nat.le_of_ble_eq_true rfl)) d_T_readLine_79 ⟨Nat.zero_le _, Nat.zero_le _⟩) (w2 := (fun (_ : Unit) => [(k_G cA ad G_size G_inputs), (k_F cA ad F_size), (k_F_kinds cA ad F_kinds), (k_F_sizes cA ad F_sizes), (k_F_literals cA ad F_literals), (k_T cA ad T_size T_place T_fault), (k_T_bytes cA ad T_bytes)])) (wr := [(k_G cA ad G_size G_inputs), (k_F cA ad F_size), (k_F_kinds cA ad F_kinds), (k_F_sizes cA ad F_sizes), (k_F_literals cA ad F_literals)]) hw hA [5, 6] [0, 1, 2, 3, 4] [0, 1, 2, 3, 4, 5, 6] rfl rfl (by decide) (by decide) (by decide) (fun _ => rfl) (fun r79 u H locs hw h => ?_)
      refine lv_if_eq (tgt := 104) hx hb d_T_readLine_82 (by decide) (fun hc => ?_) (fun hc => ?_)
      · have h := h.1 hc
        exact j104 _ _ _ _ _ _ _ _ _ _ h hw (lv_sub hl [0, 1] rfl)
      · have h := h.2 hc
        refine lv_aload_n hx hb d_T_readLine_85 rfl (lv_at hl 0 rfl) ?_
        refine va_get (D := D) (ci := 4) (v := .int T_fault) (C := R_T) (T := T_T) (N := 6) hx hb hts (fun w h => List.mem_cons_of_mem _ (iw_T w h)) hown hK.1 hw.1 5 rfl rfl 5 (by decide) (hg gm_127) (fun _ h9 => h9) rfl d_T_readLine_86 ?_
        refine lv_iconst (v := (-1)) hx hb d_T_readLine_89 (by decide) ?_
        refine lv_icmp_ne (tgt := 104) hx hb d_T_readLine_90 (by decide) (fun hc => ?_) (fun hc => ?_)
        · have h := h.2 hc
          exact j104 _ _ _ _ _ _ _ _ _ _ h hw (lv_sub hl [0, 1] rfl)
        · have h := h.1 hc
          refine lv_aload_n hx hb d_T_readLine_93 rfl (lv_at hl 0 rfl) ?_
          refine lv_iload_n hx hb d_T_readLine_94 rfl (lv_at hl 1 rfl) ?_
          refine m_callv (hr := va_runV (As := [.int x2]) (rest := []) ⟨hx, hb, hml, hown, hts⟩ (c_T_readLiteral l D cA ad _ G_size G_inputs F_size F_kinds F_sizes F_literals T_size T_place T_fault T_bytes x2 _ h) (cwV 1 hts (ginV gm_202 gm_204 gs_10 gm_5 gm_205) rfl rfl rfl (by decide +kernel) ⟨Nat.le_of_ble_eq_true rfl, Nat.le_of_ble_eq_true rfl⟩) (m_preV 4 5 rfl rfl hK hw [0, 1, 2, 3, 4, 5, 6] rfl rfl) rfl rfl hl.1 rfl (lv_room (Nat.le_of_ble_eq_true rfl)) d_T_readLine_95 ⟨Nat.zero_le _, Nat.zero_le _⟩) (w2 := (fun (u : (Nat → Int32) × (Nat → Int32) × Int32 × Int32) => [(k_G cA ad G_size G_inputs), (k_F cA ad F_size), (k_F_kinds cA ad F_kinds), (k_F_sizes cA ad u.1), (k_F_literals cA ad u.2.1), (k_T cA ad T_size u.2.2.1 u.2.2.2), (k_T_bytes cA ad T_bytes)])) (wr := []) hw hA [0, 1, 2, 3, 4, 5, 6] [] [0, 1, 2, 3, 4, 5, 6] rfl rfl (by decide) (by decide) (by decide) (fun _ => rfl) (fun u H locs hw h => ?_)
          obtain ⟨F_sizes_95, F_literals_95, T_place_95, T_fault_95⟩ := u
          have hw : mW D A s.heap [(k_G cA ad G_size G_inputs), (k_F cA ad F_size), (k_F_kinds cA ad F_kinds), (k_F_sizes cA ad F_sizes_95), (k_F_literals cA ad F_literals_95), (k_T cA ad T_size T_place_95 T_fault_95), (k_T_bytes cA ad T_bytes)] H locs := hw
          refine lv_iinc (v := (x3 + 1)) (lv' := [(3, .int (x3 + 1)), (0, .ref (ad 13)), (2, .int x2)]) hx hb d_T_readLine_98 hl (k := 2) rfl rfl (by decide) rfl (fun ls hl => ?_)
          refine lv_goto (tgt := 71) hx hb d_T_readLine_101 (by decide) ?_
          exact (hC71 _ _ _ _ _ _ _ _).1 h _ _ _ hw (lv_sub hl [1, 2, 0] rfl)
  unfold wp_T_readLine at h
  have h := h C71 hc71
  refine lv_aload_n hx hb d_T_readLine_0 rfl (lv_at hl 0 rfl) ?_
  refine m_calli (hr := va_runV (As := []) (rest := []) ⟨hx, hb, hml, hown, hts⟩ (c_T_here l D cA ad _ T_size T_place T_fault T_bytes _ h) (cwV 0 hts (ginV gm_178 gm_180 gs_4 gm_5 gm_181) rfl rfl rfl (by decide +kernel) ⟨Nat.le_of_ble_eq_true rfl, Nat.le_of_ble_eq_true rfl⟩) (m_preV 4 5 rfl rfl hK hw [5, 6] rfl rfl) rfl rfl hl.1 rfl (lv_room (Nat.le_of_ble_eq_true rfl)) d_T_readLine_1 ⟨Nat.zero_le _, Nat.zero_le _⟩) (w2 := (fun (_ : Unit) => [(k_G cA ad G_size G_inputs), (k_F cA ad F_size), (k_F_kinds cA ad F_kinds), (k_F_sizes cA ad F_sizes), (k_F_literals cA ad F_literals), (k_T cA ad T_size T_place T_fault), (k_T_bytes cA ad T_bytes)])) (wr := [(k_G cA ad G_size G_inputs), (k_F cA ad F_size), (k_F_kinds cA ad F_kinds), (k_F_sizes cA ad F_sizes), (k_F_literals cA ad F_literals)]) hw hA [5, 6] [0, 1, 2, 3, 4] [0, 1, 2, 3, 4, 5, 6] rfl rfl (by decide) (by decide) (by decide) (fun _ => rfl) (fun r1 u H locs hw h => ?_)
  refine lv_istore_n (lv' := [(1, .int r1), (0, .ref (ad 13))]) hx hb d_T_readLine_4 rfl hl (by decide) rfl (fun ls hl => ?_)
  refine lv_iload_n hx hb d_T_readLine_5 rfl (lv_at hl 0 rfl) ?_
  refine lv_bipush (v := 99) hx hb d_T_readLine_6 (by decide) ?_
  refine lv_icmp_eq (tgt := 17) hx hb d_T_readLine_8 (by decide) (fun hc => ?_) (fun hc => ?_)
  · have h := h.1 hc
    exact j17 _ _ _ _ _ _ _ _ _ _ h hw (lv_sub hl [1, 0] rfl)
  · have h := h.2 hc
    refine lv_iload_n hx hb d_T_readLine_11 rfl (lv_at hl 0 rfl) ?_
    refine lv_bipush (v := 61) hx hb d_T_readLine_12 (by decide) ?_
    refine lv_icmp_ne (tgt := 27) hx hb d_T_readLine_14 (by decide) (fun hc => ?_) (fun hc => ?_)
    · have h := h.2 hc
      exact j27 _ _ _ _ _ _ _ _ _ h hw (lv_sub hl [1] rfl)
    · have h := h.1 hc
      exact j17 _ _ _ _ _ _ _ _ _ _ h hw (lv_sub hl [1, 0] rfl)
def rm_T_readAll : Room := { frames := 5, cells := 0, slots := 0, locals := 109 }
set_option maxHeartbeats 4000000 in
set_option maxRecDepth 100000 in
theorem c_T_readAll (l : Launch) (D : va_G) (cA : Nat → ClassId) (ad : Nat → Nat) (sz : Nat) (G_size : Int32) (G_inputs : Int32) (F_size : Int32) (F_kinds : (Nat → Int32)) (F_sizes : (Nat → Int32)) (F_literals : (Nat → Int32)) (T_size : Int32) (T_place : Int32) (T_fault : Int32) (T_bytes : (Nat → Int32)) (post : Int32 → Int32 → (Nat → Int32) → (Nat → Int32) → (Nat → Int32) → Int32 → Int32 → Int32 → Prop) (h : wp_T_readAll G_size F_size F_kinds F_sizes F_literals T_size T_place T_fault T_bytes post) : Met l y_T_readAll w_T_readAll rm_T_readAll (mPc D cA [.ref (ad 13)] [(k_G cA ad G_size G_inputs), (k_F cA ad F_size), (k_F_kinds cA ad F_kinds), (k_F_sizes cA ad F_sizes), (k_F_literals cA ad F_literals), (k_T cA ad T_size T_place T_fault), (k_T_bytes cA ad T_bytes)] sz) (va_Qi (fun (r : Int32) (u : Int32 × (Nat → Int32) × (Nat → Int32) × (Nat → Int32) × Int32 × Int32 × Int32) => post r u.1 u.2.1 u.2.2.1 u.2.2.2.1 u.2.2.2.2.1 u.2.2.2.2.2.1 u.2.2.2.2.2.2) (mB D (va_A [(k_G cA ad G_size G_inputs), (k_F cA ad F_size), (k_F_kinds cA ad F_kinds), (k_F_sizes cA ad F_sizes), (k_F_literals cA ad F_literals), (k_T cA ad T_size T_place T_fault), (k_T_bytes cA ad T_bytes)] sz) (fun (u : Int32 × (Nat → Int32) × (Nat → Int32) × (Nat → Int32) × Int32 × Int32 × Int32) => [(k_G cA ad G_size G_inputs), (k_F cA ad u.1), (k_F_kinds cA ad u.2.1), (k_F_sizes cA ad u.2.2.1), (k_F_literals cA ad u.2.2.2.1), (k_T cA ad u.2.2.2.2.1 u.2.2.2.2.2.1 u.2.2.2.2.2.2), (k_T_bytes cA ad T_bytes)])) (va_A [(k_G cA ad G_size G_inputs), (k_F cA ad F_size), (k_F_kinds cA ad F_kinds), (k_F_sizes cA ad F_sizes), (k_F_literals cA ad F_literals), (k_T cA ad T_size T_place T_fault), (k_T_bytes cA ad T_bytes)] sz)) 0 0 (va_A [(k_G cA ad G_size G_inputs), (k_F cA ad F_size), (k_F_kinds cA ad F_kinds), (k_F_sizes cA ad F_sizes), (k_F_literals cA ad F_literals), (k_T cA ad T_size T_place T_fault), (k_T_bytes cA ad T_bytes)] sz) := by
  refine m_methI (by decide) rfl (Nat.le_of_ble_eq_true rfl) ?_
  intro p e s m below meth c A Q ls hx hb hml hown hts hK hA hw hl hE
  have hl : lv_has ls 2 [(0, .ref (ad 13))] := hl
  have hown : s.vm.findClass R_T = some m.cls := hown
  have hg : ∀ {w : Cond}, w ∈ gw → w.before _ s = true := fun h => hts _ (List.mem_cons_of_mem _ h)
  obtain ⟨C16, hC16⟩ : ∃ C : Int32 → Int32 → (Nat → Int32) → (Nat → Int32) → (Nat → Int32) → Int32 → Int32 → Int32 → Prop, ∀ (x1 : Int32) (F_size : Int32) (F_kinds : (Nat → Int32)) (F_sizes : (Nat → Int32)) (F_literals : (Nat → Int32)) (T_size : Int32) (T_place : Int32) (T_fault : Int32), C x1 F_size F_kinds F_sizes F_literals T_size T_place T_fault ↔ (∀ (H : Heap) (locs : List Loc) (ls : Array Slot), mW D A s.heap [(k_G cA ad G_size G_inputs), (k_F cA ad F_size), (k_F_kinds cA ad F_kinds), (k_F_sizes cA ad F_sizes), (k_F_literals cA ad F_literals), (k_T cA ad T_size T_place T_fault), (k_T_bytes cA ad T_bytes)] H locs → lv_has ls 2 [(0, .ref (ad 13)), (1, .int x1)] → W p l e rm_T_readAll s m [.ref (ad 13)].toArray below meth c H locs 0 0 Q (F0 m 16 ls [])) := ⟨_, fun _ _ _ _ _ _ _ _ => Iff.rfl⟩
  have j55 : ∀ (F_size : Int32) (F_kinds : (Nat → Int32)) (F_sizes : (Nat → Int32)) (F_literals : (Nat → Int32)) (T_size : Int32) (T_place : Int32) (T_fault : Int32) (H : Heap) (locs : List Loc) (ls : Array Slot), s_T_readAll_55 G_size T_bytes C16 post F_size F_kinds F_sizes F_literals T_size T_place T_fault → mW D A s.heap [(k_G cA ad G_size G_inputs), (k_F cA ad F_size), (k_F_kinds cA ad F_kinds), (k_F_sizes cA ad F_sizes), (k_F_literals cA ad F_literals), (k_T cA ad T_size T_place T_fault), (k_T_bytes cA ad T_bytes)] H locs → lv_has ls 2 [(0, .ref (ad 13))] → W p l e rm_T_readAll s m [.ref (ad 13)].toArray below meth c H locs 0 0 Q (F0 m 55 ls []) := by
    intro F_size F_kinds F_sizes F_literals T_size T_place T_fault H locs ls h hw hl
    unfold s_T_readAll_55 at h
    refine lv_aload_n hx hb d_T_readAll_55 rfl (lv_at hl 0 rfl) ?_
    refine lv_iconst (v := 0) hx hb d_T_readAll_56 (by decide) ?_
    refine m_put (ws' := [(k_G cA ad G_size G_inputs), (k_F cA ad F_size), (k_F_kinds cA ad F_kinds), (k_F_sizes cA ad F_sizes), (k_F_literals cA ad F_literals), (k_T cA ad 0 T_place T_fault), (k_T_bytes cA ad T_bytes)]) (ci := 4) (v := .int 0) (ty := .int) (C := R_T) (T := T_T) (N := 6) hx hb hts (fun w h => List.mem_cons_of_mem _ (iw_T w h)) ty_T tyok_T nm_T hown hK.1 hw 5 rfl rfl 3 (by decide) (hg gm_124) (fun _ h9 => h9) rfl (by decide +kernel) rfl rfl (Nat.le_of_ble_eq_true rfl) rfl d_T_readAll_57 (fun H locs hw => ?_)
    refine lv_aload_n hx hb d_T_readAll_60 rfl (lv_at hl 0 rfl) ?_
    refine va_get (D := D) (ci := 4) (v := .int T_fault) (C := R_T) (T := T_T) (N := 6) hx hb hts (fun w h => List.mem_cons_of_mem _ (iw_T w h)) hown hK.1 hw.1 5 rfl rfl 5 (by decide) (hg gm_127) (fun _ h9 => h9) rfl d_T_readAll_61 ?_
    exact hE T_fault (F_size, F_kinds, F_sizes, F_literals, 0, T_place, T_fault) _ _ _ _ h hw d_T_readAll_64
  have hc16 : ∀ (x1 : Int32) (F_size : Int32) (F_kinds : (Nat → Int32)) (F_sizes : (Nat → Int32)) (F_literals : (Nat → Int32)) (T_size : Int32) (T_place : Int32) (T_fault : Int32), s_T_readAll_16 G_size T_bytes C16 post x1 F_size F_kinds F_sizes F_literals T_size T_place T_fault → C16 x1 F_size F_kinds F_sizes F_literals T_size T_place T_fault := by
    intro x1 F_size F_kinds F_sizes F_literals T_size T_place T_fault h
    unfold s_T_readAll_16 at h
    refine (hC16 _ _ _ _ _ _ _ _).2 ?_
    intro H locs ls hw hl
    refine lv_iload_n hx hb d_T_readAll_16 rfl (lv_at hl 1 rfl) ?_
    refine lv_bipush (v := 24) hx hb d_T_readAll_17 (by decide) ?_
    refine lv_icmp_gt (tgt := 55) hx hb d_T_readAll_19 (by decide) (fun hc => ?_) (fun hc => ?_)
    · have h := h.1 hc
      exact j55 _ _ _ _ _ _ _ _ _ _ h hw (lv_sub hl [0] rfl)
    · have h := h.2 hc
      refine lv_aload_n hx hb d_T_readAll_22 rfl (lv_at hl 0 rfl) ?_
      refine va_get (D := D) (ci := 4) (v := .int T_place) (C := R_T) (T := T_T) (N := 6) hx hb hts (fun w h => List.mem_cons_of_mem _ (iw_T w h)) hown hK.1 hw.1 5 rfl rfl 4 (by decide) (hg gm_126) (fun _ h9 => h9) rfl d_T_readAll_23 ?_
      refine lv_aload_n hx hb d_T_readAll_26 rfl (lv_at hl 0 rfl) ?_
      refine va_get (D := D) (ci := 4) (v := .int T_size) (C := R_T) (T := T_T) (N := 6) hx hb hts (fun w h => List.mem_cons_of_mem _ (iw_T w h)) hown hK.1 hw.1 5 rfl rfl 3 (by decide) (hg gm_124) (fun _ h9 => h9) rfl d_T_readAll_27 ?_
      refine lv_icmp_ge (tgt := 55) hx hb d_T_readAll_30 (by decide) (fun hc => ?_) (fun hc => ?_)
      · have h := h.1 hc
        exact j55 _ _ _ _ _ _ _ _ _ _ h hw (lv_sub hl [0] rfl)
      · have h := h.2 hc
        refine lv_aload_n hx hb d_T_readAll_33 rfl (lv_at hl 0 rfl) ?_
        refine va_get (D := D) (ci := 4) (v := .int T_fault) (C := R_T) (T := T_T) (N := 6) hx hb hts (fun w h => List.mem_cons_of_mem _ (iw_T w h)) hown hK.1 hw.1 5 rfl rfl 5 (by decide) (hg gm_127) (fun _ h9 => h9) rfl d_T_readAll_34 ?_
        refine lv_iconst (v := (-1)) hx hb d_T_readAll_37 (by decide) ?_
        refine lv_icmp_ne (tgt := 55) hx hb d_T_readAll_38 (by decide) (fun hc => ?_) (fun hc => ?_)
        · have h := h.2 hc
          exact j55 _ _ _ _ _ _ _ _ _ _ h hw (lv_sub hl [0] rfl)
        · have h := h.1 hc
          refine lv_aload_n hx hb d_T_readAll_41 rfl (lv_at hl 0 rfl) ?_
          refine m_callv (hr := va_runV (As := []) (rest := []) ⟨hx, hb, hml, hown, hts⟩ (c_T_readLine l D cA ad _ G_size G_inputs F_size F_kinds F_sizes F_literals T_size T_place T_fault T_bytes _ h) (cwV 0 hts (ginV gm_182 gm_184 gs_5 gm_5 gm_185) rfl rfl rfl (by decide +kernel) ⟨Nat.le_of_ble_eq_true rfl, Nat.le_of_ble_eq_true rfl⟩) (m_preV 4 5 rfl rfl hK hw [0, 1, 2, 3, 4, 5, 6] rfl rfl) rfl rfl hl.1 rfl (lv_room (Nat.le_of_ble_eq_true rfl)) d_T_readAll_42 ⟨Nat.zero_le _, Nat.zero_le _⟩) (w2 := (fun (u : Int32 × (Nat → Int32) × (Nat → Int32) × (Nat → Int32) × Int32 × Int32) => [(k_G cA ad G_size G_inputs), (k_F cA ad u.1), (k_F_kinds cA ad u.2.1), (k_F_sizes cA ad u.2.2.1), (k_F_literals cA ad u.2.2.2.1), (k_T cA ad T_size u.2.2.2.2.1 u.2.2.2.2.2), (k_T_bytes cA ad T_bytes)])) (wr := []) hw hA [0, 1, 2, 3, 4, 5, 6] [] [0, 1, 2, 3, 4, 5, 6] rfl rfl (by decide) (by decide) (by decide) (fun _ => rfl) (fun u H locs hw h => ?_)
          obtain ⟨F_size_42, F_kinds_42, F_sizes_42, F_literals_42, T_place_42, T_fault_42⟩ := u
          have hw : mW D A s.heap [(k_G cA ad G_size G_inputs), (k_F cA ad F_size_42), (k_F_kinds cA ad F_kinds_42), (k_F_sizes cA ad F_sizes_42), (k_F_literals cA ad F_literals_42), (k_T cA ad T_size T_place_42 T_fault_42), (k_T_bytes cA ad T_bytes)] H locs := hw
          refine lv_aload_n hx hb d_T_readAll_45 rfl (lv_at hl 0 rfl) ?_
          refine m_callv (hr := va_runV (As := []) (rest := []) ⟨hx, hb, hml, hown, hts⟩ (c_T_skipToLine l D cA ad _ T_size T_place_42 T_fault_42 T_bytes _ h) (cwV 0 hts (ginV gm_170 gm_172 gs_2 gm_5 gm_173) rfl rfl rfl (by decide +kernel) ⟨Nat.le_of_ble_eq_true rfl, Nat.le_of_ble_eq_true rfl⟩) (m_preV 4 5 rfl rfl hK hw [5, 6] rfl rfl) rfl rfl hl.1 rfl (lv_room (Nat.le_of_ble_eq_true rfl)) d_T_readAll_46 ⟨Nat.zero_le _, Nat.zero_le _⟩) (w2 := (fun (u : Int32) => [(k_G cA ad G_size G_inputs), (k_F cA ad F_size_42), (k_F_kinds cA ad F_kinds_42), (k_F_sizes cA ad F_sizes_42), (k_F_literals cA ad F_literals_42), (k_T cA ad T_size u T_fault_42), (k_T_bytes cA ad T_bytes)])) (wr := [(k_G cA ad G_size G_inputs), (k_F cA ad F_size_42), (k_F_kinds cA ad F_kinds_42), (k_F_sizes cA ad F_sizes_42), (k_F_literals cA ad F_literals_42)]) hw hA [5, 6] [0, 1, 2, 3, 4] [0, 1, 2, 3, 4, 5, 6] rfl rfl (by decide) (by decide) (by decide) (fun _ => rfl) (fun u H locs hw h => ?_)
          obtain ⟨T_place_46, rfl⟩ : ∃ z, z = u := ⟨_, rfl⟩
          have hw : mW D A s.heap [(k_G cA ad G_size G_inputs), (k_F cA ad F_size_42), (k_F_kinds cA ad F_kinds_42), (k_F_sizes cA ad F_sizes_42), (k_F_literals cA ad F_literals_42), (k_T cA ad T_size T_place_46 T_fault_42), (k_T_bytes cA ad T_bytes)] H locs := hw
          refine lv_iinc (v := (x1 + 1)) (lv' := [(1, .int (x1 + 1)), (0, .ref (ad 13))]) hx hb d_T_readAll_49 hl (k := 1) rfl rfl (by decide) rfl (fun ls hl => ?_)
          refine lv_goto (tgt := 16) hx hb d_T_readAll_52 (by decide) ?_
          exact (hC16 _ _ _ _ _ _ _ _).1 h _ _ _ hw (lv_sub hl [1, 0] rfl)
  unfold wp_T_readAll at h
  have h := h C16 hc16
  refine lv_aload_n hx hb d_T_readAll_0 rfl (lv_at hl 0 rfl) ?_
  refine lv_iconst (v := 0) hx hb d_T_readAll_1 (by decide) ?_
  refine m_put (ws' := [(k_G cA ad G_size G_inputs), (k_F cA ad F_size), (k_F_kinds cA ad F_kinds), (k_F_sizes cA ad F_sizes), (k_F_literals cA ad F_literals), (k_T cA ad T_size 0 T_fault), (k_T_bytes cA ad T_bytes)]) (ci := 4) (v := .int 0) (ty := .int) (C := R_T) (T := T_T) (N := 6) hx hb hts (fun w h => List.mem_cons_of_mem _ (iw_T w h)) ty_T tyok_T nm_T hown hK.1 hw 5 rfl rfl 4 (by decide) (hg gm_126) (fun _ h9 => h9) rfl (by decide +kernel) rfl rfl (Nat.le_of_ble_eq_true rfl) rfl d_T_readAll_2 (fun H locs hw => ?_)
  refine lv_aload_n hx hb d_T_readAll_5 rfl (lv_at hl 0 rfl) ?_
  refine lv_iconst (v := (-1)) hx hb d_T_readAll_6 (by decide) ?_
  refine m_put (ws' := [(k_G cA ad G_size G_inputs), (k_F cA ad F_size), (k_F_kinds cA ad F_kinds), (k_F_sizes cA ad F_sizes), (k_F_literals cA ad F_literals), (k_T cA ad T_size 0 (-1)), (k_T_bytes cA ad T_bytes)]) (ci := 4) (v := .int (-1)) (ty := .int) (C := R_T) (T := T_T) (N := 6) hx hb hts (fun w h => List.mem_cons_of_mem _ (iw_T w h)) ty_T tyok_T nm_T hown hK.1 hw 5 rfl rfl 5 (by decide) (hg gm_127) (fun _ h9 => h9) rfl (by decide +kernel) rfl rfl (Nat.le_of_ble_eq_true rfl) rfl d_T_readAll_7 (fun H locs hw => ?_)
  refine lv_aload_n hx hb d_T_readAll_10 rfl (lv_at hl 0 rfl) ?_
  refine m_callv (hr := va_runV (As := []) (rest := []) ⟨hx, hb, hml, hown, hts⟩ (c_T_skipToLine l D cA ad _ T_size 0 (-1) T_bytes _ h) (cwV 0 hts (ginV gm_170 gm_172 gs_2 gm_5 gm_173) rfl rfl rfl (by decide +kernel) ⟨Nat.le_of_ble_eq_true rfl, Nat.le_of_ble_eq_true rfl⟩) (m_preV 4 5 rfl rfl hK hw [5, 6] rfl rfl) rfl rfl hl.1 rfl (lv_room (Nat.le_of_ble_eq_true rfl)) d_T_readAll_11 ⟨Nat.zero_le _, Nat.zero_le _⟩) (w2 := (fun (u : Int32) => [(k_G cA ad G_size G_inputs), (k_F cA ad F_size), (k_F_kinds cA ad F_kinds), (k_F_sizes cA ad F_sizes), (k_F_literals cA ad F_literals), (k_T cA ad T_size u (-1)), (k_T_bytes cA ad T_bytes)])) (wr := [(k_G cA ad G_size G_inputs), (k_F cA ad F_size), (k_F_kinds cA ad F_kinds), (k_F_sizes cA ad F_sizes), (k_F_literals cA ad F_literals)]) hw hA [5, 6] [0, 1, 2, 3, 4] [0, 1, 2, 3, 4, 5, 6] rfl rfl (by decide) (by decide) (by decide) (fun _ => rfl) (fun u H locs hw h => ?_)
  obtain ⟨T_place_11, rfl⟩ : ∃ z, z = u := ⟨_, rfl⟩
  have hw : mW D A s.heap [(k_G cA ad G_size G_inputs), (k_F cA ad F_size), (k_F_kinds cA ad F_kinds), (k_F_sizes cA ad F_sizes), (k_F_literals cA ad F_literals), (k_T cA ad T_size T_place_11 (-1)), (k_T_bytes cA ad T_bytes)] H locs := hw
  refine lv_iconst (v := 0) hx hb d_T_readAll_14 (by decide) ?_
  refine lv_istore_n (lv' := [(1, .int 0), (0, .ref (ad 13))]) hx hb d_T_readAll_15 rfl hl (by decide) rfl (fun ls hl => ?_)
  exact (hC16 _ _ _ _ _ _ _ _).1 h _ _ _ hw (lv_sub hl [1, 0] rfl)
