theorem d_M_thrown_0 : decode b_M_thrown 0 = .ok (.aload_n 0, 1) := by decide +kernel
theorem d_M_thrown_1 : decode b_M_thrown 1 = .ok (.getfield 45, 3) := by decide +kernel
theorem d_M_thrown_4 : decode b_M_thrown 4 = .ok (.ireturn, 1) := by decide +kernel
theorem d_M_isLiteral_0 : decode b_M_isLiteral 0 = .ok (.iload_n 1, 1) := by decide +kernel
theorem d_M_isLiteral_1 : decode b_M_isLiteral 1 = .ok (.ifCond .lt 17, 3) := by decide +kernel
theorem d_M_isLiteral_4 : decode b_M_isLiteral 4 = .ok (.iload_n 1, 1) := by decide +kernel
theorem d_M_isLiteral_5 : decode b_M_isLiteral 5 = .ok (.iconst 2, 1) := by decide +kernel
theorem d_M_isLiteral_6 : decode b_M_isLiteral 6 = .ok (.idiv, 1) := by decide +kernel
theorem d_M_isLiteral_7 : decode b_M_isLiteral 7 = .ok (.aload_n 0, 1) := by decide +kernel
theorem d_M_isLiteral_8 : decode b_M_isLiteral 8 = .ok (.getfield 41, 3) := by decide +kernel
theorem d_M_isLiteral_11 : decode b_M_isLiteral 11 = .ok (.if_icmp .ge 7, 3) := by decide +kernel
theorem d_M_isLiteral_14 : decode b_M_isLiteral 14 = .ok (.iconst 1, 1) := by decide +kernel
theorem d_M_isLiteral_15 : decode b_M_isLiteral 15 = .ok (.goto 4, 3) := by decide +kernel
theorem d_M_isLiteral_18 : decode b_M_isLiteral 18 = .ok (.iconst 0, 1) := by decide +kernel
theorem d_M_isLiteral_19 : decode b_M_isLiteral 19 = .ok (.ireturn, 1) := by decide +kernel
theorem d_M_isLine_0 : decode b_M_isLine 0 = .ok (.iload_n 1, 1) := by decide +kernel
theorem d_M_isLine_1 : decode b_M_isLine 1 = .ok (.ifCond .lt 15, 3) := by decide +kernel
theorem d_M_isLine_4 : decode b_M_isLine 4 = .ok (.iload_n 1, 1) := by decide +kernel
theorem d_M_isLine_5 : decode b_M_isLine 5 = .ok (.aload_n 0, 1) := by decide +kernel
theorem d_M_isLine_6 : decode b_M_isLine 6 = .ok (.getfield 48, 3) := by decide +kernel
theorem d_M_isLine_9 : decode b_M_isLine 9 = .ok (.if_icmp .ge 7, 3) := by decide +kernel
theorem d_M_isLine_12 : decode b_M_isLine 12 = .ok (.iconst 1, 1) := by decide +kernel
theorem d_M_isLine_13 : decode b_M_isLine 13 = .ok (.goto 4, 3) := by decide +kernel
theorem d_M_isLine_16 : decode b_M_isLine 16 = .ok (.iconst 0, 1) := by decide +kernel
theorem d_M_isLine_17 : decode b_M_isLine 17 = .ok (.ireturn, 1) := by decide +kernel
theorem d_M_gate_0 : decode b_M_gate 0 = .ok (.iload_n 1, 1) := by decide +kernel
theorem d_M_gate_1 : decode b_M_gate 1 = .ok (.ifCond .eq 19, 3) := by decide +kernel
theorem d_M_gate_4 : decode b_M_gate 4 = .ok (.aload_n 0, 1) := by decide +kernel
theorem d_M_gate_5 : decode b_M_gate 5 = .ok (.iload_n 2, 1) := by decide +kernel
theorem d_M_gate_6 : decode b_M_gate 6 = .ok (.invokevirtual 51, 3) := by decide +kernel
theorem d_M_gate_9 : decode b_M_gate 9 = .ok (.ifCond .eq 15, 3) := by decide +kernel
theorem d_M_gate_12 : decode b_M_gate 12 = .ok (.aload_n 0, 1) := by decide +kernel
theorem d_M_gate_13 : decode b_M_gate 13 = .ok (.iload_n 3, 1) := by decide +kernel
theorem d_M_gate_14 : decode b_M_gate 14 = .ok (.invokevirtual 51, 3) := by decide +kernel
theorem d_M_gate_17 : decode b_M_gate 17 = .ok (.ifCond .eq 7, 3) := by decide +kernel
theorem d_M_gate_20 : decode b_M_gate 20 = .ok (.iconst 1, 1) := by decide +kernel
theorem d_M_gate_21 : decode b_M_gate 21 = .ok (.goto 4, 3) := by decide +kernel
theorem d_M_gate_24 : decode b_M_gate 24 = .ok (.iconst 0, 1) := by decide +kernel
theorem d_M_gate_25 : decode b_M_gate 25 = .ok (.istore 4, 2) := by decide +kernel
theorem d_M_gate_27 : decode b_M_gate 27 = .ok (.aload_n 0, 1) := by decide +kernel
theorem d_M_gate_28 : decode b_M_gate 28 = .ok (.iload 4, 2) := by decide +kernel
theorem d_M_gate_30 : decode b_M_gate 30 = .ok (.ifCond .ne 7, 3) := by decide +kernel
theorem d_M_gate_33 : decode b_M_gate 33 = .ok (.iconst 1, 1) := by decide +kernel
theorem d_M_gate_34 : decode b_M_gate 34 = .ok (.goto 30, 3) := by decide +kernel
theorem d_M_gate_37 : decode b_M_gate 37 = .ok (.iload_n 1, 1) := by decide +kernel
theorem d_M_gate_38 : decode b_M_gate 38 = .ok (.ifCond .lt 8, 3) := by decide +kernel
theorem d_M_gate_41 : decode b_M_gate 41 = .ok (.iload_n 1, 1) := by decide +kernel
theorem d_M_gate_42 : decode b_M_gate 42 = .ok (.iconst 2, 1) := by decide +kernel
theorem d_M_gate_43 : decode b_M_gate 43 = .ok (.if_icmp .le 7, 3) := by decide +kernel
theorem d_M_gate_46 : decode b_M_gate 46 = .ok (.iconst 2, 1) := by decide +kernel
theorem d_M_gate_47 : decode b_M_gate 47 = .ok (.goto 17, 3) := by decide +kernel
theorem d_M_gate_50 : decode b_M_gate 50 = .ok (.aload_n 0, 1) := by decide +kernel
theorem d_M_gate_51 : decode b_M_gate 51 = .ok (.getfield 41, 3) := by decide +kernel
theorem d_M_gate_54 : decode b_M_gate 54 = .ok (.bipush 40, 2) := by decide +kernel
theorem d_M_gate_56 : decode b_M_gate 56 = .ok (.if_icmp .ne 7, 3) := by decide +kernel
theorem d_M_gate_59 : decode b_M_gate 59 = .ok (.iconst 3, 1) := by decide +kernel
theorem d_M_gate_60 : decode b_M_gate 60 = .ok (.goto 4, 3) := by decide +kernel
theorem d_M_gate_63 : decode b_M_gate 63 = .ok (.iconst 0, 1) := by decide +kernel
theorem d_M_gate_64 : decode b_M_gate 64 = .ok (.putfield 45, 3) := by decide +kernel
theorem d_M_gate_67 : decode b_M_gate 67 = .ok (.aload_n 0, 1) := by decide +kernel
theorem d_M_gate_68 : decode b_M_gate 68 = .ok (.getfield 45, 3) := by decide +kernel
theorem d_M_gate_71 : decode b_M_gate 71 = .ok (.ifCond .le 5, 3) := by decide +kernel
theorem d_M_gate_74 : decode b_M_gate 74 = .ok (.iconst 0, 1) := by decide +kernel
theorem d_M_gate_75 : decode b_M_gate 75 = .ok (.ireturn, 1) := by decide +kernel
theorem d_M_gate_76 : decode b_M_gate 76 = .ok (.aload_n 0, 1) := by decide +kernel
theorem d_M_gate_77 : decode b_M_gate 77 = .ok (.getfield 7, 3) := by decide +kernel
theorem d_M_gate_80 : decode b_M_gate 80 = .ok (.aload_n 0, 1) := by decide +kernel
theorem d_M_gate_81 : decode b_M_gate 81 = .ok (.getfield 41, 3) := by decide +kernel
theorem d_M_gate_84 : decode b_M_gate 84 = .ok (.iload_n 1, 1) := by decide +kernel
theorem d_M_gate_85 : decode b_M_gate 85 = .ok (.iastore, 1) := by decide +kernel
theorem d_M_gate_86 : decode b_M_gate 86 = .ok (.aload_n 0, 1) := by decide +kernel
theorem d_M_gate_87 : decode b_M_gate 87 = .ok (.getfield 13, 3) := by decide +kernel
theorem d_M_gate_90 : decode b_M_gate 90 = .ok (.aload_n 0, 1) := by decide +kernel
theorem d_M_gate_91 : decode b_M_gate 91 = .ok (.getfield 41, 3) := by decide +kernel
theorem d_M_gate_94 : decode b_M_gate 94 = .ok (.iload_n 1, 1) := by decide +kernel
theorem d_M_gate_95 : decode b_M_gate 95 = .ok (.ifCond .ne 7, 3) := by decide +kernel
theorem d_M_gate_98 : decode b_M_gate 98 = .ok (.iconst 0, 1) := by decide +kernel
theorem d_M_gate_99 : decode b_M_gate 99 = .ok (.goto 4, 3) := by decide +kernel
theorem d_M_gate_102 : decode b_M_gate 102 = .ok (.iload_n 2, 1) := by decide +kernel
theorem d_M_gate_103 : decode b_M_gate 103 = .ok (.iastore, 1) := by decide +kernel
theorem d_M_gate_104 : decode b_M_gate 104 = .ok (.aload_n 0, 1) := by decide +kernel
theorem d_M_gate_105 : decode b_M_gate 105 = .ok (.getfield 16, 3) := by decide +kernel
theorem d_M_gate_108 : decode b_M_gate 108 = .ok (.aload_n 0, 1) := by decide +kernel
theorem d_M_gate_109 : decode b_M_gate 109 = .ok (.getfield 41, 3) := by decide +kernel
theorem d_M_gate_112 : decode b_M_gate 112 = .ok (.iload_n 1, 1) := by decide +kernel
theorem d_M_gate_113 : decode b_M_gate 113 = .ok (.ifCond .ne 7, 3) := by decide +kernel
theorem d_M_gate_116 : decode b_M_gate 116 = .ok (.iconst 0, 1) := by decide +kernel
theorem d_M_gate_117 : decode b_M_gate 117 = .ok (.goto 4, 3) := by decide +kernel
theorem d_M_gate_120 : decode b_M_gate 120 = .ok (.iload_n 3, 1) := by decide +kernel
theorem d_M_gate_121 : decode b_M_gate 121 = .ok (.iastore, 1) := by decide +kernel
theorem d_M_gate_122 : decode b_M_gate 122 = .ok (.aload_n 0, 1) := by decide +kernel
theorem d_M_gate_123 : decode b_M_gate 123 = .ok (.dup, 1) := by decide +kernel
theorem d_M_gate_124 : decode b_M_gate 124 = .ok (.getfield 41, 3) := by decide +kernel
theorem d_M_gate_127 : decode b_M_gate 127 = .ok (.iconst 1, 1) := by decide +kernel
theorem d_M_gate_128 : decode b_M_gate 128 = .ok (.iadd, 1) := by decide +kernel
theorem d_M_gate_129 : decode b_M_gate 129 = .ok (.putfield 41, 3) := by decide +kernel
theorem d_M_gate_132 : decode b_M_gate 132 = .ok (.aload_n 0, 1) := by decide +kernel
theorem d_M_gate_133 : decode b_M_gate 133 = .ok (.getfield 41, 3) := by decide +kernel
theorem d_M_gate_136 : decode b_M_gate 136 = .ok (.iconst 1, 1) := by decide +kernel
theorem d_M_gate_137 : decode b_M_gate 137 = .ok (.isub, 1) := by decide +kernel
theorem d_M_gate_138 : decode b_M_gate 138 = .ok (.ireturn, 1) := by decide +kernel
theorem d_M_line_0 : decode b_M_line 0 = .ok (.aload_n 0, 1) := by decide +kernel
theorem d_M_line_1 : decode b_M_line 1 = .ok (.aload_n 0, 1) := by decide +kernel
theorem d_M_line_2 : decode b_M_line 2 = .ok (.getfield 48, 3) := by decide +kernel
theorem d_M_line_5 : decode b_M_line 5 = .ok (.bipush 24, 2) := by decide +kernel
theorem d_M_line_7 : decode b_M_line 7 = .ok (.if_icmp .ne 7, 3) := by decide +kernel
theorem d_M_line_10 : decode b_M_line 10 = .ok (.iconst 1, 1) := by decide +kernel
theorem d_M_line_11 : decode b_M_line 11 = .ok (.goto 4, 3) := by decide +kernel
theorem d_M_line_14 : decode b_M_line 14 = .ok (.iconst 0, 1) := by decide +kernel
theorem d_M_line_15 : decode b_M_line 15 = .ok (.putfield 45, 3) := by decide +kernel
theorem d_M_line_18 : decode b_M_line 18 = .ok (.aload_n 0, 1) := by decide +kernel
theorem d_M_line_19 : decode b_M_line 19 = .ok (.getfield 45, 3) := by decide +kernel
theorem d_M_line_22 : decode b_M_line 22 = .ok (.ifCond .le 5, 3) := by decide +kernel
theorem d_M_line_25 : decode b_M_line 25 = .ok (.iconst 0, 1) := by decide +kernel
theorem d_M_line_26 : decode b_M_line 26 = .ok (.ireturn, 1) := by decide +kernel
theorem d_M_line_27 : decode b_M_line 27 = .ok (.aload_n 0, 1) := by decide +kernel
theorem d_M_line_28 : decode b_M_line 28 = .ok (.getfield 19, 3) := by decide +kernel
theorem d_M_line_31 : decode b_M_line 31 = .ok (.aload_n 0, 1) := by decide +kernel
theorem d_M_line_32 : decode b_M_line 32 = .ok (.getfield 48, 3) := by decide +kernel
theorem d_M_line_35 : decode b_M_line 35 = .ok (.iconst 0, 1) := by decide +kernel
theorem d_M_line_36 : decode b_M_line 36 = .ok (.bastore, 1) := by decide +kernel
theorem d_M_line_37 : decode b_M_line 37 = .ok (.aload_n 0, 1) := by decide +kernel
theorem d_M_line_38 : decode b_M_line 38 = .ok (.getfield 23, 3) := by decide +kernel
theorem d_M_line_41 : decode b_M_line 41 = .ok (.aload_n 0, 1) := by decide +kernel
theorem d_M_line_42 : decode b_M_line 42 = .ok (.getfield 48, 3) := by decide +kernel
theorem d_M_line_45 : decode b_M_line 45 = .ok (.iconst 0, 1) := by decide +kernel
theorem d_M_line_46 : decode b_M_line 46 = .ok (.iastore, 1) := by decide +kernel
theorem d_M_line_47 : decode b_M_line 47 = .ok (.aload_n 0, 1) := by decide +kernel
theorem d_M_line_48 : decode b_M_line 48 = .ok (.dup, 1) := by decide +kernel
theorem d_M_line_49 : decode b_M_line 49 = .ok (.getfield 48, 3) := by decide +kernel
theorem d_M_line_52 : decode b_M_line 52 = .ok (.iconst 1, 1) := by decide +kernel
theorem d_M_line_53 : decode b_M_line 53 = .ok (.iadd, 1) := by decide +kernel
theorem d_M_line_54 : decode b_M_line 54 = .ok (.putfield 48, 3) := by decide +kernel
theorem d_M_line_57 : decode b_M_line 57 = .ok (.aload_n 0, 1) := by decide +kernel
theorem d_M_line_58 : decode b_M_line 58 = .ok (.getfield 48, 3) := by decide +kernel
theorem d_M_line_61 : decode b_M_line 61 = .ok (.iconst 1, 1) := by decide +kernel
theorem d_M_line_62 : decode b_M_line 62 = .ok (.isub, 1) := by decide +kernel
theorem d_M_line_63 : decode b_M_line 63 = .ok (.ireturn, 1) := by decide +kernel
theorem d_M_isThere_0 : decode b_M_isThere 0 = .ok (.iconst 0, 1) := by decide +kernel
theorem d_M_isThere_1 : decode b_M_isThere 1 = .ok (.istore_n 3, 1) := by decide +kernel
theorem d_M_isThere_2 : decode b_M_isThere 2 = .ok (.iconst 0, 1) := by decide +kernel
theorem d_M_isThere_3 : decode b_M_isThere 3 = .ok (.istore 4, 2) := by decide +kernel
theorem d_M_isThere_5 : decode b_M_isThere 5 = .ok (.iload 4, 2) := by decide +kernel
theorem d_M_isThere_7 : decode b_M_isThere 7 = .ok (.aload_n 0, 1) := by decide +kernel
theorem d_M_isThere_8 : decode b_M_isThere 8 = .ok (.getfield 23, 3) := by decide +kernel
theorem d_M_isThere_11 : decode b_M_isThere 11 = .ok (.iload_n 1, 1) := by decide +kernel
theorem d_M_isThere_12 : decode b_M_isThere 12 = .ok (.iaload, 1) := by decide +kernel
theorem d_M_isThere_13 : decode b_M_isThere 13 = .ok (.if_icmp .ge 35, 3) := by decide +kernel
theorem d_M_isThere_16 : decode b_M_isThere 16 = .ok (.iload_n 3, 1) := by decide +kernel
theorem d_M_isThere_17 : decode b_M_isThere 17 = .ok (.ifCond .ne 19, 3) := by decide +kernel
theorem d_M_isThere_20 : decode b_M_isThere 20 = .ok (.aload_n 0, 1) := by decide +kernel
theorem d_M_isThere_21 : decode b_M_isThere 21 = .ok (.getfield 26, 3) := by decide +kernel
theorem d_M_isThere_24 : decode b_M_isThere 24 = .ok (.bipush 6, 2) := by decide +kernel
theorem d_M_isThere_26 : decode b_M_isThere 26 = .ok (.iload_n 1, 1) := by decide +kernel
theorem d_M_isThere_27 : decode b_M_isThere 27 = .ok (.imul, 1) := by decide +kernel
theorem d_M_isThere_28 : decode b_M_isThere 28 = .ok (.iload 4, 2) := by decide +kernel
theorem d_M_isThere_30 : decode b_M_isThere 30 = .ok (.iadd, 1) := by decide +kernel
theorem d_M_isThere_31 : decode b_M_isThere 31 = .ok (.iaload, 1) := by decide +kernel
theorem d_M_isThere_32 : decode b_M_isThere 32 = .ok (.iload_n 2, 1) := by decide +kernel
theorem d_M_isThere_33 : decode b_M_isThere 33 = .ok (.if_icmp .ne 7, 3) := by decide +kernel
theorem d_M_isThere_36 : decode b_M_isThere 36 = .ok (.iconst 1, 1) := by decide +kernel
theorem d_M_isThere_37 : decode b_M_isThere 37 = .ok (.goto 4, 3) := by decide +kernel
theorem d_M_isThere_40 : decode b_M_isThere 40 = .ok (.iconst 0, 1) := by decide +kernel
theorem d_M_isThere_41 : decode b_M_isThere 41 = .ok (.istore_n 3, 1) := by decide +kernel
theorem d_M_isThere_42 : decode b_M_isThere 42 = .ok (.iinc 4 1, 3) := by decide +kernel
theorem d_M_isThere_45 : decode b_M_isThere 45 = .ok (.goto (-40), 3) := by decide +kernel
theorem d_M_isThere_48 : decode b_M_isThere 48 = .ok (.iload_n 3, 1) := by decide +kernel
theorem d_M_isThere_49 : decode b_M_isThere 49 = .ok (.ireturn, 1) := by decide +kernel
theorem d_M_add_0 : decode b_M_add 0 = .ok (.aload_n 0, 1) := by decide +kernel
theorem d_M_add_1 : decode b_M_add 1 = .ok (.getfield 26, 3) := by decide +kernel
theorem d_M_add_4 : decode b_M_add 4 = .ok (.bipush 6, 2) := by decide +kernel
theorem d_M_add_6 : decode b_M_add 6 = .ok (.iload_n 1, 1) := by decide +kernel
theorem d_M_add_7 : decode b_M_add 7 = .ok (.imul, 1) := by decide +kernel
theorem d_M_add_8 : decode b_M_add 8 = .ok (.aload_n 0, 1) := by decide +kernel
theorem d_M_add_9 : decode b_M_add 9 = .ok (.getfield 23, 3) := by decide +kernel
theorem d_M_add_12 : decode b_M_add 12 = .ok (.iload_n 1, 1) := by decide +kernel
theorem d_M_add_13 : decode b_M_add 13 = .ok (.iaload, 1) := by decide +kernel
theorem d_M_add_14 : decode b_M_add 14 = .ok (.iadd, 1) := by decide +kernel
theorem d_M_add_15 : decode b_M_add 15 = .ok (.iload_n 2, 1) := by decide +kernel
theorem d_M_add_16 : decode b_M_add 16 = .ok (.iastore, 1) := by decide +kernel
theorem d_M_add_17 : decode b_M_add 17 = .ok (.aload_n 0, 1) := by decide +kernel
theorem d_M_add_18 : decode b_M_add 18 = .ok (.getfield 23, 3) := by decide +kernel
theorem d_M_add_21 : decode b_M_add 21 = .ok (.iload_n 1, 1) := by decide +kernel
theorem d_M_add_22 : decode b_M_add 22 = .ok (.dup2, 1) := by decide +kernel
theorem d_M_add_23 : decode b_M_add 23 = .ok (.iaload, 1) := by decide +kernel
theorem d_M_add_24 : decode b_M_add 24 = .ok (.iconst 1, 1) := by decide +kernel
theorem d_M_add_25 : decode b_M_add 25 = .ok (.iadd, 1) := by decide +kernel
theorem d_M_add_26 : decode b_M_add 26 = .ok (.iastore, 1) := by decide +kernel
theorem d_M_add_27 : decode b_M_add 27 = .ok (.return_, 1) := by decide +kernel
theorem d_M_literal_0 : decode b_M_literal 0 = .ok (.aload_n 0, 1) := by decide +kernel
theorem d_M_literal_1 : decode b_M_literal 1 = .ok (.iload_n 1, 1) := by decide +kernel
theorem d_M_literal_2 : decode b_M_literal 2 = .ok (.invokevirtual 55, 3) := by decide +kernel
theorem d_M_literal_5 : decode b_M_literal 5 = .ok (.ifCond .eq 15, 3) := by decide +kernel
theorem d_M_literal_8 : decode b_M_literal 8 = .ok (.aload_n 0, 1) := by decide +kernel
theorem d_M_literal_9 : decode b_M_literal 9 = .ok (.iload_n 2, 1) := by decide +kernel
theorem d_M_literal_10 : decode b_M_literal 10 = .ok (.invokevirtual 51, 3) := by decide +kernel
theorem d_M_literal_13 : decode b_M_literal 13 = .ok (.ifCond .eq 7, 3) := by decide +kernel
theorem d_M_literal_16 : decode b_M_literal 16 = .ok (.iconst 1, 1) := by decide +kernel
theorem d_M_literal_17 : decode b_M_literal 17 = .ok (.goto 4, 3) := by decide +kernel
theorem d_M_literal_20 : decode b_M_literal 20 = .ok (.iconst 0, 1) := by decide +kernel
theorem d_M_literal_21 : decode b_M_literal 21 = .ok (.istore_n 3, 1) := by decide +kernel
theorem d_M_literal_22 : decode b_M_literal 22 = .ok (.iload_n 3, 1) := by decide +kernel
theorem d_M_literal_23 : decode b_M_literal 23 = .ok (.ifCond .eq 25, 3) := by decide +kernel
theorem d_M_literal_26 : decode b_M_literal 26 = .ok (.aload_n 0, 1) := by decide +kernel
theorem d_M_literal_27 : decode b_M_literal 27 = .ok (.getfield 19, 3) := by decide +kernel
theorem d_M_literal_30 : decode b_M_literal 30 = .ok (.iload_n 1, 1) := by decide +kernel
theorem d_M_literal_31 : decode b_M_literal 31 = .ok (.baload, 1) := by decide +kernel
theorem d_M_literal_32 : decode b_M_literal 32 = .ok (.ifCond .ne 16, 3) := by decide +kernel
theorem d_M_literal_35 : decode b_M_literal 35 = .ok (.aload_n 0, 1) := by decide +kernel
theorem d_M_literal_36 : decode b_M_literal 36 = .ok (.iload_n 1, 1) := by decide +kernel
theorem d_M_literal_37 : decode b_M_literal 37 = .ok (.iload_n 2, 1) := by decide +kernel
theorem d_M_literal_38 : decode b_M_literal 38 = .ok (.invokevirtual 58, 3) := by decide +kernel
theorem d_M_literal_41 : decode b_M_literal 41 = .ok (.ifCond .eq 7, 3) := by decide +kernel
theorem d_M_literal_44 : decode b_M_literal 44 = .ok (.iconst 1, 1) := by decide +kernel
theorem d_M_literal_45 : decode b_M_literal 45 = .ok (.goto 4, 3) := by decide +kernel
theorem d_M_literal_48 : decode b_M_literal 48 = .ok (.iconst 0, 1) := by decide +kernel
theorem d_M_literal_49 : decode b_M_literal 49 = .ok (.istore 4, 2) := by decide +kernel
theorem d_M_literal_51 : decode b_M_literal 51 = .ok (.aload_n 0, 1) := by decide +kernel
theorem d_M_literal_52 : decode b_M_literal 52 = .ok (.iload_n 3, 1) := by decide +kernel
theorem d_M_literal_53 : decode b_M_literal 53 = .ok (.ifCond .ne 7, 3) := by decide +kernel
theorem d_M_literal_56 : decode b_M_literal 56 = .ok (.iconst 1, 1) := by decide +kernel
theorem d_M_literal_57 : decode b_M_literal 57 = .ok (.goto 37, 3) := by decide +kernel
theorem d_M_literal_60 : decode b_M_literal 60 = .ok (.aload_n 0, 1) := by decide +kernel
theorem d_M_literal_61 : decode b_M_literal 61 = .ok (.getfield 19, 3) := by decide +kernel
theorem d_M_literal_64 : decode b_M_literal 64 = .ok (.iload_n 1, 1) := by decide +kernel
theorem d_M_literal_65 : decode b_M_literal 65 = .ok (.baload, 1) := by decide +kernel
theorem d_M_literal_66 : decode b_M_literal 66 = .ok (.ifCond .eq 7, 3) := by decide +kernel
theorem d_M_literal_69 : decode b_M_literal 69 = .ok (.iconst 2, 1) := by decide +kernel
theorem d_M_literal_70 : decode b_M_literal 70 = .ok (.goto 24, 3) := by decide +kernel
theorem d_M_literal_73 : decode b_M_literal 73 = .ok (.iload 4, 2) := by decide +kernel
theorem d_M_literal_75 : decode b_M_literal 75 = .ok (.ifCond .ne 18, 3) := by decide +kernel
theorem d_M_literal_78 : decode b_M_literal 78 = .ok (.aload_n 0, 1) := by decide +kernel
theorem d_M_literal_79 : decode b_M_literal 79 = .ok (.getfield 23, 3) := by decide +kernel
theorem d_M_literal_82 : decode b_M_literal 82 = .ok (.iload_n 1, 1) := by decide +kernel
theorem d_M_literal_83 : decode b_M_literal 83 = .ok (.iaload, 1) := by decide +kernel
theorem d_M_literal_84 : decode b_M_literal 84 = .ok (.bipush 6, 2) := by decide +kernel
theorem d_M_literal_86 : decode b_M_literal 86 = .ok (.if_icmp .ne 7, 3) := by decide +kernel
theorem d_M_literal_89 : decode b_M_literal 89 = .ok (.iconst 3, 1) := by decide +kernel
theorem d_M_literal_90 : decode b_M_literal 90 = .ok (.goto 4, 3) := by decide +kernel
theorem d_M_literal_93 : decode b_M_literal 93 = .ok (.iconst 0, 1) := by decide +kernel
theorem d_M_literal_94 : decode b_M_literal 94 = .ok (.putfield 45, 3) := by decide +kernel
theorem d_M_literal_97 : decode b_M_literal 97 = .ok (.aload_n 0, 1) := by decide +kernel
theorem d_M_literal_98 : decode b_M_literal 98 = .ok (.getfield 45, 3) := by decide +kernel
theorem d_M_literal_101 : decode b_M_literal 101 = .ok (.ifCond .gt 8, 3) := by decide +kernel
theorem d_M_literal_104 : decode b_M_literal 104 = .ok (.iload 4, 2) := by decide +kernel
theorem d_M_literal_106 : decode b_M_literal 106 = .ok (.ifCond .eq 5, 3) := by decide +kernel
theorem d_M_literal_109 : decode b_M_literal 109 = .ok (.iconst 0, 1) := by decide +kernel
theorem d_M_literal_110 : decode b_M_literal 110 = .ok (.ireturn, 1) := by decide +kernel
theorem d_M_literal_111 : decode b_M_literal 111 = .ok (.aload_n 0, 1) := by decide +kernel
theorem d_M_literal_112 : decode b_M_literal 112 = .ok (.iload_n 1, 1) := by decide +kernel
theorem d_M_literal_113 : decode b_M_literal 113 = .ok (.iload_n 2, 1) := by decide +kernel
theorem d_M_literal_114 : decode b_M_literal 114 = .ok (.invokevirtual 62, 3) := by decide +kernel
theorem d_M_literal_117 : decode b_M_literal 117 = .ok (.iconst 1, 1) := by decide +kernel
theorem d_M_literal_118 : decode b_M_literal 118 = .ok (.ireturn, 1) := by decide +kernel
theorem d_M_equalLine_0 : decode b_M_equalLine 0 = .ok (.aload_n 0, 1) := by decide +kernel
theorem d_M_equalLine_1 : decode b_M_equalLine 1 = .ok (.aload_n 0, 1) := by decide +kernel
theorem d_M_equalLine_2 : decode b_M_equalLine 2 = .ok (.iload_n 1, 1) := by decide +kernel
theorem d_M_equalLine_3 : decode b_M_equalLine 3 = .ok (.invokevirtual 51, 3) := by decide +kernel
theorem d_M_equalLine_6 : decode b_M_equalLine 6 = .ok (.ifCond .eq 11, 3) := by decide +kernel
theorem d_M_equalLine_9 : decode b_M_equalLine 9 = .ok (.aload_n 0, 1) := by decide +kernel
theorem d_M_equalLine_10 : decode b_M_equalLine 10 = .ok (.iload_n 2, 1) := by decide +kernel
theorem d_M_equalLine_11 : decode b_M_equalLine 11 = .ok (.invokevirtual 51, 3) := by decide +kernel
theorem d_M_equalLine_14 : decode b_M_equalLine 14 = .ok (.ifCond .ne 7, 3) := by decide +kernel
theorem d_M_equalLine_17 : decode b_M_equalLine 17 = .ok (.iconst 1, 1) := by decide +kernel
theorem d_M_equalLine_18 : decode b_M_equalLine 18 = .ok (.goto 17, 3) := by decide +kernel
theorem d_M_equalLine_21 : decode b_M_equalLine 21 = .ok (.aload_n 0, 1) := by decide +kernel
theorem d_M_equalLine_22 : decode b_M_equalLine 22 = .ok (.getfield 48, 3) := by decide +kernel
theorem d_M_equalLine_25 : decode b_M_equalLine 25 = .ok (.bipush 24, 2) := by decide +kernel
theorem d_M_equalLine_27 : decode b_M_equalLine 27 = .ok (.if_icmp .ne 7, 3) := by decide +kernel
theorem d_M_equalLine_30 : decode b_M_equalLine 30 = .ok (.iconst 2, 1) := by decide +kernel
theorem d_M_equalLine_31 : decode b_M_equalLine 31 = .ok (.goto 4, 3) := by decide +kernel
theorem d_M_equalLine_34 : decode b_M_equalLine 34 = .ok (.iconst 0, 1) := by decide +kernel
theorem d_M_equalLine_35 : decode b_M_equalLine 35 = .ok (.putfield 45, 3) := by decide +kernel
theorem d_M_equalLine_38 : decode b_M_equalLine 38 = .ok (.aload_n 0, 1) := by decide +kernel
theorem d_M_equalLine_39 : decode b_M_equalLine 39 = .ok (.getfield 45, 3) := by decide +kernel
theorem d_M_equalLine_42 : decode b_M_equalLine 42 = .ok (.ifCond .le 5, 3) := by decide +kernel
theorem d_M_equalLine_45 : decode b_M_equalLine 45 = .ok (.iconst 0, 1) := by decide +kernel
theorem d_M_equalLine_46 : decode b_M_equalLine 46 = .ok (.ireturn, 1) := by decide +kernel
theorem d_M_equalLine_47 : decode b_M_equalLine 47 = .ok (.aload_n 0, 1) := by decide +kernel
theorem d_M_equalLine_48 : decode b_M_equalLine 48 = .ok (.getfield 19, 3) := by decide +kernel
theorem d_M_equalLine_51 : decode b_M_equalLine 51 = .ok (.aload_n 0, 1) := by decide +kernel
theorem d_M_equalLine_52 : decode b_M_equalLine 52 = .ok (.getfield 48, 3) := by decide +kernel
theorem d_M_equalLine_55 : decode b_M_equalLine 55 = .ok (.iconst 1, 1) := by decide +kernel
theorem d_M_equalLine_56 : decode b_M_equalLine 56 = .ok (.bastore, 1) := by decide +kernel
theorem d_M_equalLine_57 : decode b_M_equalLine 57 = .ok (.aload_n 0, 1) := by decide +kernel
theorem d_M_equalLine_58 : decode b_M_equalLine 58 = .ok (.getfield 23, 3) := by decide +kernel
theorem d_M_equalLine_61 : decode b_M_equalLine 61 = .ok (.aload_n 0, 1) := by decide +kernel
theorem d_M_equalLine_62 : decode b_M_equalLine 62 = .ok (.getfield 48, 3) := by decide +kernel
theorem d_M_equalLine_65 : decode b_M_equalLine 65 = .ok (.iconst 0, 1) := by decide +kernel
theorem d_M_equalLine_66 : decode b_M_equalLine 66 = .ok (.iastore, 1) := by decide +kernel
theorem d_M_equalLine_67 : decode b_M_equalLine 67 = .ok (.aload_n 0, 1) := by decide +kernel
theorem d_M_equalLine_68 : decode b_M_equalLine 68 = .ok (.dup, 1) := by decide +kernel
theorem d_M_equalLine_69 : decode b_M_equalLine 69 = .ok (.getfield 48, 3) := by decide +kernel
theorem d_M_equalLine_72 : decode b_M_equalLine 72 = .ok (.iconst 1, 1) := by decide +kernel
theorem d_M_equalLine_73 : decode b_M_equalLine 73 = .ok (.iadd, 1) := by decide +kernel
theorem d_M_equalLine_74 : decode b_M_equalLine 74 = .ok (.putfield 48, 3) := by decide +kernel
theorem d_M_equalLine_77 : decode b_M_equalLine 77 = .ok (.aload_n 0, 1) := by decide +kernel
theorem d_M_equalLine_78 : decode b_M_equalLine 78 = .ok (.aload_n 0, 1) := by decide +kernel
theorem d_M_equalLine_79 : decode b_M_equalLine 79 = .ok (.getfield 48, 3) := by decide +kernel
theorem d_M_equalLine_82 : decode b_M_equalLine 82 = .ok (.iconst 1, 1) := by decide +kernel
theorem d_M_equalLine_83 : decode b_M_equalLine 83 = .ok (.isub, 1) := by decide +kernel
theorem d_M_equalLine_84 : decode b_M_equalLine 84 = .ok (.iload_n 1, 1) := by decide +kernel
theorem d_M_equalLine_85 : decode b_M_equalLine 85 = .ok (.invokevirtual 62, 3) := by decide +kernel
theorem d_M_equalLine_88 : decode b_M_equalLine 88 = .ok (.aload_n 0, 1) := by decide +kernel
theorem d_M_equalLine_89 : decode b_M_equalLine 89 = .ok (.aload_n 0, 1) := by decide +kernel
theorem d_M_equalLine_90 : decode b_M_equalLine 90 = .ok (.getfield 48, 3) := by decide +kernel
theorem d_M_equalLine_93 : decode b_M_equalLine 93 = .ok (.iconst 1, 1) := by decide +kernel
theorem d_M_equalLine_94 : decode b_M_equalLine 94 = .ok (.isub, 1) := by decide +kernel
theorem d_M_equalLine_95 : decode b_M_equalLine 95 = .ok (.iload_n 2, 1) := by decide +kernel
theorem d_M_equalLine_96 : decode b_M_equalLine 96 = .ok (.invokevirtual 62, 3) := by decide +kernel
theorem d_M_equalLine_99 : decode b_M_equalLine 99 = .ok (.aload_n 0, 1) := by decide +kernel
theorem d_M_equalLine_100 : decode b_M_equalLine 100 = .ok (.getfield 48, 3) := by decide +kernel
theorem d_M_equalLine_103 : decode b_M_equalLine 103 = .ok (.iconst 1, 1) := by decide +kernel
theorem d_M_equalLine_104 : decode b_M_equalLine 104 = .ok (.isub, 1) := by decide +kernel
theorem d_M_equalLine_105 : decode b_M_equalLine 105 = .ok (.ireturn, 1) := by decide +kernel
theorem d_M_value_0 : decode b_M_value 0 = .ok (.aload_n 0, 1) := by decide +kernel
theorem d_M_value_1 : decode b_M_value 1 = .ok (.getfield 29, 3) := by decide +kernel
theorem d_M_value_4 : decode b_M_value 4 = .ok (.iload_n 1, 1) := by decide +kernel
theorem d_M_value_5 : decode b_M_value 5 = .ok (.iconst 2, 1) := by decide +kernel
theorem d_M_value_6 : decode b_M_value 6 = .ok (.idiv, 1) := by decide +kernel
theorem d_M_value_7 : decode b_M_value 7 = .ok (.iaload, 1) := by decide +kernel
theorem d_M_value_8 : decode b_M_value 8 = .ok (.istore_n 2, 1) := by decide +kernel
theorem d_M_value_9 : decode b_M_value 9 = .ok (.iload_n 2, 1) := by decide +kernel
theorem d_M_value_10 : decode b_M_value 10 = .ok (.iconst 2, 1) := by decide +kernel
theorem d_M_value_11 : decode b_M_value 11 = .ok (.if_icmp .ne 7, 3) := by decide +kernel
theorem d_M_value_14 : decode b_M_value 14 = .ok (.iconst 2, 1) := by decide +kernel
theorem d_M_value_15 : decode b_M_value 15 = .ok (.goto 8, 3) := by decide +kernel
theorem d_M_value_18 : decode b_M_value 18 = .ok (.iload_n 2, 1) := by decide +kernel
theorem d_M_value_19 : decode b_M_value 19 = .ok (.iload_n 1, 1) := by decide +kernel
theorem d_M_value_20 : decode b_M_value 20 = .ok (.iconst 1, 1) := by decide +kernel
theorem d_M_value_21 : decode b_M_value 21 = .ok (.iand, 1) := by decide +kernel
theorem d_M_value_22 : decode b_M_value 22 = .ok (.ixor, 1) := by decide +kernel
theorem d_M_value_23 : decode b_M_value 23 = .ok (.ireturn, 1) := by decide +kernel
theorem d_M_tell_0 : decode b_M_tell 0 = .ok (.aload_n 0, 1) := by decide +kernel
theorem d_M_tell_1 : decode b_M_tell 1 = .ok (.iload_n 1, 1) := by decide +kernel
theorem d_M_tell_2 : decode b_M_tell 2 = .ok (.invokevirtual 66, 3) := by decide +kernel
theorem d_M_tell_5 : decode b_M_tell 5 = .ok (.istore_n 3, 1) := by decide +kernel
theorem d_M_tell_6 : decode b_M_tell 6 = .ok (.aload_n 0, 1) := by decide +kernel
theorem d_M_tell_7 : decode b_M_tell 7 = .ok (.aload_n 0, 1) := by decide +kernel
theorem d_M_tell_8 : decode b_M_tell 8 = .ok (.getfield 70, 3) := by decide +kernel
theorem d_M_tell_11 : decode b_M_tell 11 = .ok (.ifCond .ne 13, 3) := by decide +kernel
theorem d_M_tell_14 : decode b_M_tell 14 = .ok (.iload_n 3, 1) := by decide +kernel
theorem d_M_tell_15 : decode b_M_tell 15 = .ok (.iconst 2, 1) := by decide +kernel
theorem d_M_tell_16 : decode b_M_tell 16 = .ok (.if_icmp .eq 12, 3) := by decide +kernel
theorem d_M_tell_19 : decode b_M_tell 19 = .ok (.iload_n 3, 1) := by decide +kernel
theorem d_M_tell_20 : decode b_M_tell 20 = .ok (.iload_n 2, 1) := by decide +kernel
theorem d_M_tell_21 : decode b_M_tell 21 = .ok (.if_icmp .eq 7, 3) := by decide +kernel
theorem d_M_tell_24 : decode b_M_tell 24 = .ok (.iconst 1, 1) := by decide +kernel
theorem d_M_tell_25 : decode b_M_tell 25 = .ok (.goto 4, 3) := by decide +kernel
theorem d_M_tell_28 : decode b_M_tell 28 = .ok (.iconst 0, 1) := by decide +kernel
theorem d_M_tell_29 : decode b_M_tell 29 = .ok (.putfield 70, 3) := by decide +kernel
theorem d_M_tell_32 : decode b_M_tell 32 = .ok (.iload_n 3, 1) := by decide +kernel
theorem d_M_tell_33 : decode b_M_tell 33 = .ok (.iconst 2, 1) := by decide +kernel
theorem d_M_tell_34 : decode b_M_tell 34 = .ok (.if_icmp .ne 21, 3) := by decide +kernel
theorem d_M_tell_37 : decode b_M_tell 37 = .ok (.aload_n 0, 1) := by decide +kernel
theorem d_M_tell_38 : decode b_M_tell 38 = .ok (.getfield 29, 3) := by decide +kernel
theorem d_M_tell_41 : decode b_M_tell 41 = .ok (.iload_n 1, 1) := by decide +kernel
theorem d_M_tell_42 : decode b_M_tell 42 = .ok (.iconst 2, 1) := by decide +kernel
theorem d_M_tell_43 : decode b_M_tell 43 = .ok (.idiv, 1) := by decide +kernel
theorem d_M_tell_44 : decode b_M_tell 44 = .ok (.iload_n 2, 1) := by decide +kernel
theorem d_M_tell_45 : decode b_M_tell 45 = .ok (.iload_n 1, 1) := by decide +kernel
theorem d_M_tell_46 : decode b_M_tell 46 = .ok (.iconst 1, 1) := by decide +kernel
theorem d_M_tell_47 : decode b_M_tell 47 = .ok (.iand, 1) := by decide +kernel
theorem d_M_tell_48 : decode b_M_tell 48 = .ok (.ixor, 1) := by decide +kernel
theorem d_M_tell_49 : decode b_M_tell 49 = .ok (.iastore, 1) := by decide +kernel
theorem d_M_tell_50 : decode b_M_tell 50 = .ok (.aload_n 0, 1) := by decide +kernel
theorem d_M_tell_51 : decode b_M_tell 51 = .ok (.iconst 1, 1) := by decide +kernel
theorem d_M_tell_52 : decode b_M_tell 52 = .ok (.putfield 74, 3) := by decide +kernel
theorem d_M_tell_55 : decode b_M_tell 55 = .ok (.return_, 1) := by decide +kernel
theorem d_M_and_0 : decode b_M_and 0 = .ok (.aload_n 0, 1) := by decide +kernel
theorem d_M_and_1 : decode b_M_and 1 = .ok (.aload_n 0, 1) := by decide +kernel
theorem d_M_and_2 : decode b_M_and 2 = .ok (.getfield 13, 3) := by decide +kernel
theorem d_M_and_5 : decode b_M_and 5 = .ok (.iload_n 1, 1) := by decide +kernel
theorem d_M_and_6 : decode b_M_and 6 = .ok (.iaload, 1) := by decide +kernel
theorem d_M_and_7 : decode b_M_and 7 = .ok (.invokevirtual 66, 3) := by decide +kernel
theorem d_M_and_10 : decode b_M_and 10 = .ok (.istore_n 2, 1) := by decide +kernel
theorem d_M_and_11 : decode b_M_and 11 = .ok (.aload_n 0, 1) := by decide +kernel
theorem d_M_and_12 : decode b_M_and 12 = .ok (.aload_n 0, 1) := by decide +kernel
theorem d_M_and_13 : decode b_M_and 13 = .ok (.getfield 16, 3) := by decide +kernel
theorem d_M_and_16 : decode b_M_and 16 = .ok (.iload_n 1, 1) := by decide +kernel
theorem d_M_and_17 : decode b_M_and 17 = .ok (.iaload, 1) := by decide +kernel
theorem d_M_and_18 : decode b_M_and 18 = .ok (.invokevirtual 66, 3) := by decide +kernel
theorem d_M_and_21 : decode b_M_and 21 = .ok (.istore_n 3, 1) := by decide +kernel
theorem d_M_and_22 : decode b_M_and 22 = .ok (.aload_n 0, 1) := by decide +kernel
theorem d_M_and_23 : decode b_M_and 23 = .ok (.iconst 2, 1) := by decide +kernel
theorem d_M_and_24 : decode b_M_and 24 = .ok (.iload_n 1, 1) := by decide +kernel
theorem d_M_and_25 : decode b_M_and 25 = .ok (.imul, 1) := by decide +kernel
theorem d_M_and_26 : decode b_M_and 26 = .ok (.invokevirtual 66, 3) := by decide +kernel
theorem d_M_and_29 : decode b_M_and 29 = .ok (.istore 4, 2) := by decide +kernel
theorem d_M_and_31 : decode b_M_and 31 = .ok (.iload_n 2, 1) := by decide +kernel
theorem d_M_and_32 : decode b_M_and 32 = .ok (.ifCond .eq 7, 3) := by decide +kernel
theorem d_M_and_35 : decode b_M_and 35 = .ok (.iload_n 3, 1) := by decide +kernel
theorem d_M_and_36 : decode b_M_and 36 = .ok (.ifCond .ne 11, 3) := by decide +kernel
theorem d_M_and_39 : decode b_M_and 39 = .ok (.aload_n 0, 1) := by decide +kernel
theorem d_M_and_40 : decode b_M_and 40 = .ok (.iconst 2, 1) := by decide +kernel
theorem d_M_and_41 : decode b_M_and 41 = .ok (.iload_n 1, 1) := by decide +kernel
theorem d_M_and_42 : decode b_M_and 42 = .ok (.imul, 1) := by decide +kernel
theorem d_M_and_43 : decode b_M_and 43 = .ok (.iconst 0, 1) := by decide +kernel
theorem d_M_and_44 : decode b_M_and 44 = .ok (.invokevirtual 77, 3) := by decide +kernel
theorem d_M_and_47 : decode b_M_and 47 = .ok (.iload_n 2, 1) := by decide +kernel
theorem d_M_and_48 : decode b_M_and 48 = .ok (.iconst 1, 1) := by decide +kernel
theorem d_M_and_49 : decode b_M_and 49 = .ok (.if_icmp .ne 16, 3) := by decide +kernel
theorem d_M_and_52 : decode b_M_and 52 = .ok (.iload_n 3, 1) := by decide +kernel
theorem d_M_and_53 : decode b_M_and 53 = .ok (.iconst 1, 1) := by decide +kernel
theorem d_M_and_54 : decode b_M_and 54 = .ok (.if_icmp .ne 11, 3) := by decide +kernel
theorem d_M_and_57 : decode b_M_and 57 = .ok (.aload_n 0, 1) := by decide +kernel
theorem d_M_and_58 : decode b_M_and 58 = .ok (.iconst 2, 1) := by decide +kernel
theorem d_M_and_59 : decode b_M_and 59 = .ok (.iload_n 1, 1) := by decide +kernel
theorem d_M_and_60 : decode b_M_and 60 = .ok (.imul, 1) := by decide +kernel
theorem d_M_and_61 : decode b_M_and 61 = .ok (.iconst 1, 1) := by decide +kernel
theorem d_M_and_62 : decode b_M_and 62 = .ok (.invokevirtual 77, 3) := by decide +kernel
theorem d_M_and_65 : decode b_M_and 65 = .ok (.iload 4, 2) := by decide +kernel
theorem d_M_and_67 : decode b_M_and 67 = .ok (.iconst 1, 1) := by decide +kernel
theorem d_M_and_68 : decode b_M_and 68 = .ok (.if_icmp .ne 25, 3) := by decide +kernel
theorem d_M_and_71 : decode b_M_and 71 = .ok (.aload_n 0, 1) := by decide +kernel
theorem d_M_and_72 : decode b_M_and 72 = .ok (.aload_n 0, 1) := by decide +kernel
theorem d_M_and_73 : decode b_M_and 73 = .ok (.getfield 13, 3) := by decide +kernel
theorem d_M_and_76 : decode b_M_and 76 = .ok (.iload_n 1, 1) := by decide +kernel
theorem d_M_and_77 : decode b_M_and 77 = .ok (.iaload, 1) := by decide +kernel
theorem d_M_and_78 : decode b_M_and 78 = .ok (.iconst 1, 1) := by decide +kernel
theorem d_M_and_79 : decode b_M_and 79 = .ok (.invokevirtual 77, 3) := by decide +kernel
theorem d_M_and_82 : decode b_M_and 82 = .ok (.aload_n 0, 1) := by decide +kernel
theorem d_M_and_83 : decode b_M_and 83 = .ok (.aload_n 0, 1) := by decide +kernel
theorem d_M_and_84 : decode b_M_and 84 = .ok (.getfield 16, 3) := by decide +kernel
theorem d_M_and_87 : decode b_M_and 87 = .ok (.iload_n 1, 1) := by decide +kernel
theorem d_M_and_88 : decode b_M_and 88 = .ok (.iaload, 1) := by decide +kernel
theorem d_M_and_89 : decode b_M_and 89 = .ok (.iconst 1, 1) := by decide +kernel
theorem d_M_and_90 : decode b_M_and 90 = .ok (.invokevirtual 77, 3) := by decide +kernel
theorem d_M_and_93 : decode b_M_and 93 = .ok (.iload 4, 2) := by decide +kernel
theorem d_M_and_95 : decode b_M_and 95 = .ok (.ifCond .ne 19, 3) := by decide +kernel
theorem d_M_and_98 : decode b_M_and 98 = .ok (.iload_n 2, 1) := by decide +kernel
theorem d_M_and_99 : decode b_M_and 99 = .ok (.iconst 1, 1) := by decide +kernel
theorem d_M_and_100 : decode b_M_and 100 = .ok (.if_icmp .ne 14, 3) := by decide +kernel
theorem d_M_and_103 : decode b_M_and 103 = .ok (.aload_n 0, 1) := by decide +kernel
theorem d_M_and_104 : decode b_M_and 104 = .ok (.aload_n 0, 1) := by decide +kernel
theorem d_M_and_105 : decode b_M_and 105 = .ok (.getfield 16, 3) := by decide +kernel
theorem d_M_and_108 : decode b_M_and 108 = .ok (.iload_n 1, 1) := by decide +kernel
theorem d_M_and_109 : decode b_M_and 109 = .ok (.iaload, 1) := by decide +kernel
theorem d_M_and_110 : decode b_M_and 110 = .ok (.iconst 0, 1) := by decide +kernel
theorem d_M_and_111 : decode b_M_and 111 = .ok (.invokevirtual 77, 3) := by decide +kernel
theorem d_M_and_114 : decode b_M_and 114 = .ok (.iload 4, 2) := by decide +kernel
theorem d_M_and_116 : decode b_M_and 116 = .ok (.ifCond .ne 19, 3) := by decide +kernel
theorem d_M_and_119 : decode b_M_and 119 = .ok (.iload_n 3, 1) := by decide +kernel
theorem d_M_and_120 : decode b_M_and 120 = .ok (.iconst 1, 1) := by decide +kernel
theorem d_M_and_121 : decode b_M_and 121 = .ok (.if_icmp .ne 14, 3) := by decide +kernel
theorem d_M_and_124 : decode b_M_and 124 = .ok (.aload_n 0, 1) := by decide +kernel
theorem d_M_and_125 : decode b_M_and 125 = .ok (.aload_n 0, 1) := by decide +kernel
theorem d_M_and_126 : decode b_M_and 126 = .ok (.getfield 13, 3) := by decide +kernel
theorem d_M_and_129 : decode b_M_and 129 = .ok (.iload_n 1, 1) := by decide +kernel
theorem d_M_and_130 : decode b_M_and 130 = .ok (.iaload, 1) := by decide +kernel
theorem d_M_and_131 : decode b_M_and 131 = .ok (.iconst 0, 1) := by decide +kernel
theorem d_M_and_132 : decode b_M_and 132 = .ok (.invokevirtual 77, 3) := by decide +kernel
theorem d_M_and_135 : decode b_M_and 135 = .ok (.return_, 1) := by decide +kernel
theorem d_M_either_0 : decode b_M_either 0 = .ok (.aload_n 0, 1) := by decide +kernel
theorem d_M_either_1 : decode b_M_either 1 = .ok (.aload_n 0, 1) := by decide +kernel
theorem d_M_either_2 : decode b_M_either 2 = .ok (.getfield 13, 3) := by decide +kernel
theorem d_M_either_5 : decode b_M_either 5 = .ok (.iload_n 1, 1) := by decide +kernel
theorem d_M_either_6 : decode b_M_either 6 = .ok (.iaload, 1) := by decide +kernel
theorem d_M_either_7 : decode b_M_either 7 = .ok (.invokevirtual 66, 3) := by decide +kernel
theorem d_M_either_10 : decode b_M_either 10 = .ok (.istore_n 2, 1) := by decide +kernel
theorem d_M_either_11 : decode b_M_either 11 = .ok (.aload_n 0, 1) := by decide +kernel
theorem d_M_either_12 : decode b_M_either 12 = .ok (.aload_n 0, 1) := by decide +kernel
theorem d_M_either_13 : decode b_M_either 13 = .ok (.getfield 16, 3) := by decide +kernel
theorem d_M_either_16 : decode b_M_either 16 = .ok (.iload_n 1, 1) := by decide +kernel
theorem d_M_either_17 : decode b_M_either 17 = .ok (.iaload, 1) := by decide +kernel
theorem d_M_either_18 : decode b_M_either 18 = .ok (.invokevirtual 66, 3) := by decide +kernel
theorem d_M_either_21 : decode b_M_either 21 = .ok (.istore_n 3, 1) := by decide +kernel
theorem d_M_either_22 : decode b_M_either 22 = .ok (.aload_n 0, 1) := by decide +kernel
theorem d_M_either_23 : decode b_M_either 23 = .ok (.iconst 2, 1) := by decide +kernel
theorem d_M_either_24 : decode b_M_either 24 = .ok (.iload_n 1, 1) := by decide +kernel
theorem d_M_either_25 : decode b_M_either 25 = .ok (.imul, 1) := by decide +kernel
theorem d_M_either_26 : decode b_M_either 26 = .ok (.invokevirtual 66, 3) := by decide +kernel
theorem d_M_either_29 : decode b_M_either 29 = .ok (.istore 4, 2) := by decide +kernel
theorem d_M_either_31 : decode b_M_either 31 = .ok (.iload_n 2, 1) := by decide +kernel
theorem d_M_either_32 : decode b_M_either 32 = .ok (.iconst 2, 1) := by decide +kernel
theorem d_M_either_33 : decode b_M_either 33 = .ok (.if_icmp .eq 18, 3) := by decide +kernel
theorem d_M_either_36 : decode b_M_either 36 = .ok (.iload_n 3, 1) := by decide +kernel
theorem d_M_either_37 : decode b_M_either 37 = .ok (.iconst 2, 1) := by decide +kernel
theorem d_M_either_38 : decode b_M_either 38 = .ok (.if_icmp .eq 13, 3) := by decide +kernel
theorem d_M_either_41 : decode b_M_either 41 = .ok (.aload_n 0, 1) := by decide +kernel
theorem d_M_either_42 : decode b_M_either 42 = .ok (.iconst 2, 1) := by decide +kernel
theorem d_M_either_43 : decode b_M_either 43 = .ok (.iload_n 1, 1) := by decide +kernel
theorem d_M_either_44 : decode b_M_either 44 = .ok (.imul, 1) := by decide +kernel
theorem d_M_either_45 : decode b_M_either 45 = .ok (.iload_n 2, 1) := by decide +kernel
theorem d_M_either_46 : decode b_M_either 46 = .ok (.iload_n 3, 1) := by decide +kernel
theorem d_M_either_47 : decode b_M_either 47 = .ok (.ixor, 1) := by decide +kernel
theorem d_M_either_48 : decode b_M_either 48 = .ok (.invokevirtual 77, 3) := by decide +kernel
theorem d_M_either_51 : decode b_M_either 51 = .ok (.iload_n 2, 1) := by decide +kernel
theorem d_M_either_52 : decode b_M_either 52 = .ok (.iconst 2, 1) := by decide +kernel
theorem d_M_either_53 : decode b_M_either 53 = .ok (.if_icmp .eq 23, 3) := by decide +kernel
theorem d_M_either_56 : decode b_M_either 56 = .ok (.iload 4, 2) := by decide +kernel
theorem d_M_either_58 : decode b_M_either 58 = .ok (.iconst 2, 1) := by decide +kernel
theorem d_M_either_59 : decode b_M_either 59 = .ok (.if_icmp .eq 17, 3) := by decide +kernel
theorem d_M_either_62 : decode b_M_either 62 = .ok (.aload_n 0, 1) := by decide +kernel
theorem d_M_either_63 : decode b_M_either 63 = .ok (.aload_n 0, 1) := by decide +kernel
theorem d_M_either_64 : decode b_M_either 64 = .ok (.getfield 16, 3) := by decide +kernel
theorem d_M_either_67 : decode b_M_either 67 = .ok (.iload_n 1, 1) := by decide +kernel
theorem d_M_either_68 : decode b_M_either 68 = .ok (.iaload, 1) := by decide +kernel
theorem d_M_either_69 : decode b_M_either 69 = .ok (.iload_n 2, 1) := by decide +kernel
theorem d_M_either_70 : decode b_M_either 70 = .ok (.iload 4, 2) := by decide +kernel
theorem d_M_either_72 : decode b_M_either 72 = .ok (.ixor, 1) := by decide +kernel
theorem d_M_either_73 : decode b_M_either 73 = .ok (.invokevirtual 77, 3) := by decide +kernel
theorem d_M_either_76 : decode b_M_either 76 = .ok (.iload_n 3, 1) := by decide +kernel
theorem d_M_either_77 : decode b_M_either 77 = .ok (.iconst 2, 1) := by decide +kernel
theorem d_M_either_78 : decode b_M_either 78 = .ok (.if_icmp .eq 23, 3) := by decide +kernel
theorem d_M_either_81 : decode b_M_either 81 = .ok (.iload 4, 2) := by decide +kernel
theorem d_M_either_83 : decode b_M_either 83 = .ok (.iconst 2, 1) := by decide +kernel
theorem d_M_either_84 : decode b_M_either 84 = .ok (.if_icmp .eq 17, 3) := by decide +kernel
theorem d_M_either_87 : decode b_M_either 87 = .ok (.aload_n 0, 1) := by decide +kernel
theorem d_M_either_88 : decode b_M_either 88 = .ok (.aload_n 0, 1) := by decide +kernel
theorem d_M_either_89 : decode b_M_either 89 = .ok (.getfield 13, 3) := by decide +kernel
theorem d_M_either_92 : decode b_M_either 92 = .ok (.iload_n 1, 1) := by decide +kernel
theorem d_M_either_93 : decode b_M_either 93 = .ok (.iaload, 1) := by decide +kernel
theorem d_M_either_94 : decode b_M_either 94 = .ok (.iload_n 3, 1) := by decide +kernel
theorem d_M_either_95 : decode b_M_either 95 = .ok (.iload 4, 2) := by decide +kernel
theorem d_M_either_97 : decode b_M_either 97 = .ok (.ixor, 1) := by decide +kernel
theorem d_M_either_98 : decode b_M_either 98 = .ok (.invokevirtual 77, 3) := by decide +kernel
theorem d_M_either_101 : decode b_M_either 101 = .ok (.return_, 1) := by decide +kernel
theorem d_M_clause_0 : decode b_M_clause 0 = .ok (.iconst (-1), 1) := by decide +kernel
theorem d_M_clause_1 : decode b_M_clause 1 = .ok (.istore_n 2, 1) := by decide +kernel
theorem d_M_clause_2 : decode b_M_clause 2 = .ok (.iconst 0, 1) := by decide +kernel
theorem d_M_clause_3 : decode b_M_clause 3 = .ok (.istore_n 3, 1) := by decide +kernel
theorem d_M_clause_4 : decode b_M_clause 4 = .ok (.iconst 0, 1) := by decide +kernel
theorem d_M_clause_5 : decode b_M_clause 5 = .ok (.istore 4, 2) := by decide +kernel
theorem d_M_clause_7 : decode b_M_clause 7 = .ok (.iload 4, 2) := by decide +kernel
theorem d_M_clause_9 : decode b_M_clause 9 = .ok (.aload_n 0, 1) := by decide +kernel
theorem d_M_clause_10 : decode b_M_clause 10 = .ok (.getfield 23, 3) := by decide +kernel
theorem d_M_clause_13 : decode b_M_clause 13 = .ok (.iload_n 1, 1) := by decide +kernel
theorem d_M_clause_14 : decode b_M_clause 14 = .ok (.iaload, 1) := by decide +kernel
theorem d_M_clause_15 : decode b_M_clause 15 = .ok (.if_icmp .ge 61, 3) := by decide +kernel
theorem d_M_clause_18 : decode b_M_clause 18 = .ok (.aload_n 0, 1) := by decide +kernel
theorem d_M_clause_19 : decode b_M_clause 19 = .ok (.getfield 26, 3) := by decide +kernel
theorem d_M_clause_22 : decode b_M_clause 22 = .ok (.bipush 6, 2) := by decide +kernel
theorem d_M_clause_24 : decode b_M_clause 24 = .ok (.iload_n 1, 1) := by decide +kernel
theorem d_M_clause_25 : decode b_M_clause 25 = .ok (.imul, 1) := by decide +kernel
theorem d_M_clause_26 : decode b_M_clause 26 = .ok (.iload 4, 2) := by decide +kernel
theorem d_M_clause_28 : decode b_M_clause 28 = .ok (.iadd, 1) := by decide +kernel
theorem d_M_clause_29 : decode b_M_clause 29 = .ok (.iaload, 1) := by decide +kernel
theorem d_M_clause_30 : decode b_M_clause 30 = .ok (.istore 5, 2) := by decide +kernel
theorem d_M_clause_32 : decode b_M_clause 32 = .ok (.aload_n 0, 1) := by decide +kernel
theorem d_M_clause_33 : decode b_M_clause 33 = .ok (.iload 5, 2) := by decide +kernel
theorem d_M_clause_35 : decode b_M_clause 35 = .ok (.invokevirtual 66, 3) := by decide +kernel
theorem d_M_clause_38 : decode b_M_clause 38 = .ok (.ifCond .eq 32, 3) := by decide +kernel
theorem d_M_clause_41 : decode b_M_clause 41 = .ok (.aload_n 0, 1) := by decide +kernel
theorem d_M_clause_42 : decode b_M_clause 42 = .ok (.iload 5, 2) := by decide +kernel
theorem d_M_clause_44 : decode b_M_clause 44 = .ok (.invokevirtual 66, 3) := by decide +kernel
theorem d_M_clause_47 : decode b_M_clause 47 = .ok (.iconst 1, 1) := by decide +kernel
theorem d_M_clause_48 : decode b_M_clause 48 = .ok (.if_icmp .ne 8, 3) := by decide +kernel
theorem d_M_clause_51 : decode b_M_clause 51 = .ok (.bipush 9, 2) := by decide +kernel
theorem d_M_clause_53 : decode b_M_clause 53 = .ok (.goto 6, 3) := by decide +kernel
theorem d_M_clause_56 : decode b_M_clause 56 = .ok (.iload_n 3, 1) := by decide +kernel
theorem d_M_clause_57 : decode b_M_clause 57 = .ok (.iconst 1, 1) := by decide +kernel
theorem d_M_clause_58 : decode b_M_clause 58 = .ok (.iadd, 1) := by decide +kernel
theorem d_M_clause_59 : decode b_M_clause 59 = .ok (.istore_n 3, 1) := by decide +kernel
theorem d_M_clause_60 : decode b_M_clause 60 = .ok (.iload 5, 2) := by decide +kernel
theorem d_M_clause_62 : decode b_M_clause 62 = .ok (.istore_n 2, 1) := by decide +kernel
theorem d_M_clause_63 : decode b_M_clause 63 = .ok (.iload_n 3, 1) := by decide +kernel
theorem d_M_clause_64 : decode b_M_clause 64 = .ok (.bipush 8, 2) := by decide +kernel
theorem d_M_clause_66 : decode b_M_clause 66 = .ok (.if_icmp .le 4, 3) := by decide +kernel
theorem d_M_clause_69 : decode b_M_clause 69 = .ok (.return_, 1) := by decide +kernel
theorem d_M_clause_70 : decode b_M_clause 70 = .ok (.iinc 4 1, 3) := by decide +kernel
theorem d_M_clause_73 : decode b_M_clause 73 = .ok (.goto (-66), 3) := by decide +kernel
theorem d_M_clause_76 : decode b_M_clause 76 = .ok (.iload_n 3, 1) := by decide +kernel
theorem d_M_clause_77 : decode b_M_clause 77 = .ok (.ifCond .ne 11, 3) := by decide +kernel
theorem d_M_clause_80 : decode b_M_clause 80 = .ok (.aload_n 0, 1) := by decide +kernel
theorem d_M_clause_81 : decode b_M_clause 81 = .ok (.iconst 1, 1) := by decide +kernel
theorem d_M_clause_82 : decode b_M_clause 82 = .ok (.putfield 70, 3) := by decide +kernel
theorem d_M_clause_85 : decode b_M_clause 85 = .ok (.goto 14, 3) := by decide +kernel
theorem d_M_clause_88 : decode b_M_clause 88 = .ok (.iload_n 3, 1) := by decide +kernel
theorem d_M_clause_89 : decode b_M_clause 89 = .ok (.iconst 1, 1) := by decide +kernel
theorem d_M_clause_90 : decode b_M_clause 90 = .ok (.if_icmp .ne 9, 3) := by decide +kernel
theorem d_M_clause_93 : decode b_M_clause 93 = .ok (.aload_n 0, 1) := by decide +kernel
theorem d_M_clause_94 : decode b_M_clause 94 = .ok (.iload_n 2, 1) := by decide +kernel
theorem d_M_clause_95 : decode b_M_clause 95 = .ok (.iconst 1, 1) := by decide +kernel
theorem d_M_clause_96 : decode b_M_clause 96 = .ok (.invokevirtual 77, 3) := by decide +kernel
theorem d_M_clause_99 : decode b_M_clause 99 = .ok (.return_, 1) := by decide +kernel
theorem d_M_equality_0 : decode b_M_equality 0 = .ok (.aload_n 0, 1) := by decide +kernel
theorem d_M_equality_1 : decode b_M_equality 1 = .ok (.getfield 26, 3) := by decide +kernel
theorem d_M_equality_4 : decode b_M_equality 4 = .ok (.bipush 6, 2) := by decide +kernel
theorem d_M_equality_6 : decode b_M_equality 6 = .ok (.iload_n 1, 1) := by decide +kernel
theorem d_M_equality_7 : decode b_M_equality 7 = .ok (.imul, 1) := by decide +kernel
theorem d_M_equality_8 : decode b_M_equality 8 = .ok (.iaload, 1) := by decide +kernel
theorem d_M_equality_9 : decode b_M_equality 9 = .ok (.istore_n 2, 1) := by decide +kernel
theorem d_M_equality_10 : decode b_M_equality 10 = .ok (.aload_n 0, 1) := by decide +kernel
theorem d_M_equality_11 : decode b_M_equality 11 = .ok (.getfield 26, 3) := by decide +kernel
theorem d_M_equality_14 : decode b_M_equality 14 = .ok (.bipush 6, 2) := by decide +kernel
theorem d_M_equality_16 : decode b_M_equality 16 = .ok (.iload_n 1, 1) := by decide +kernel
theorem d_M_equality_17 : decode b_M_equality 17 = .ok (.imul, 1) := by decide +kernel
theorem d_M_equality_18 : decode b_M_equality 18 = .ok (.iconst 1, 1) := by decide +kernel
theorem d_M_equality_19 : decode b_M_equality 19 = .ok (.iadd, 1) := by decide +kernel
theorem d_M_equality_20 : decode b_M_equality 20 = .ok (.iaload, 1) := by decide +kernel
theorem d_M_equality_21 : decode b_M_equality 21 = .ok (.istore_n 3, 1) := by decide +kernel
theorem d_M_equality_22 : decode b_M_equality 22 = .ok (.aload_n 0, 1) := by decide +kernel
theorem d_M_equality_23 : decode b_M_equality 23 = .ok (.iload_n 2, 1) := by decide +kernel
theorem d_M_equality_24 : decode b_M_equality 24 = .ok (.invokevirtual 66, 3) := by decide +kernel
theorem d_M_equality_27 : decode b_M_equality 27 = .ok (.iconst 2, 1) := by decide +kernel
theorem d_M_equality_28 : decode b_M_equality 28 = .ok (.if_icmp .eq 13, 3) := by decide +kernel
theorem d_M_equality_31 : decode b_M_equality 31 = .ok (.aload_n 0, 1) := by decide +kernel
theorem d_M_equality_32 : decode b_M_equality 32 = .ok (.iload_n 3, 1) := by decide +kernel
theorem d_M_equality_33 : decode b_M_equality 33 = .ok (.aload_n 0, 1) := by decide +kernel
theorem d_M_equality_34 : decode b_M_equality 34 = .ok (.iload_n 2, 1) := by decide +kernel
theorem d_M_equality_35 : decode b_M_equality 35 = .ok (.invokevirtual 66, 3) := by decide +kernel
theorem d_M_equality_38 : decode b_M_equality 38 = .ok (.invokevirtual 77, 3) := by decide +kernel
theorem d_M_equality_41 : decode b_M_equality 41 = .ok (.aload_n 0, 1) := by decide +kernel
theorem d_M_equality_42 : decode b_M_equality 42 = .ok (.iload_n 3, 1) := by decide +kernel
theorem d_M_equality_43 : decode b_M_equality 43 = .ok (.invokevirtual 66, 3) := by decide +kernel
theorem d_M_equality_46 : decode b_M_equality 46 = .ok (.iconst 2, 1) := by decide +kernel
theorem d_M_equality_47 : decode b_M_equality 47 = .ok (.if_icmp .eq 13, 3) := by decide +kernel
theorem d_M_equality_50 : decode b_M_equality 50 = .ok (.aload_n 0, 1) := by decide +kernel
theorem d_M_equality_51 : decode b_M_equality 51 = .ok (.iload_n 2, 1) := by decide +kernel
theorem d_M_equality_52 : decode b_M_equality 52 = .ok (.aload_n 0, 1) := by decide +kernel
theorem d_M_equality_53 : decode b_M_equality 53 = .ok (.iload_n 3, 1) := by decide +kernel
theorem d_M_equality_54 : decode b_M_equality 54 = .ok (.invokevirtual 66, 3) := by decide +kernel
theorem d_M_equality_57 : decode b_M_equality 57 = .ok (.invokevirtual 77, 3) := by decide +kernel
theorem d_M_equality_60 : decode b_M_equality 60 = .ok (.return_, 1) := by decide +kernel
theorem d_M_begin_0 : decode b_M_begin 0 = .ok (.aload_n 0, 1) := by decide +kernel
theorem d_M_begin_1 : decode b_M_begin 1 = .ok (.iconst 0, 1) := by decide +kernel
theorem d_M_begin_2 : decode b_M_begin 2 = .ok (.putfield 70, 3) := by decide +kernel
theorem d_M_begin_5 : decode b_M_begin 5 = .ok (.iconst 0, 1) := by decide +kernel
theorem d_M_begin_6 : decode b_M_begin 6 = .ok (.istore_n 1, 1) := by decide +kernel
theorem d_M_begin_7 : decode b_M_begin 7 = .ok (.iload_n 1, 1) := by decide +kernel
theorem d_M_begin_8 : decode b_M_begin 8 = .ok (.aload_n 0, 1) := by decide +kernel
theorem d_M_begin_9 : decode b_M_begin 9 = .ok (.getfield 41, 3) := by decide +kernel
theorem d_M_begin_12 : decode b_M_begin 12 = .ok (.if_icmp .ge 16, 3) := by decide +kernel
theorem d_M_begin_15 : decode b_M_begin 15 = .ok (.aload_n 0, 1) := by decide +kernel
theorem d_M_begin_16 : decode b_M_begin 16 = .ok (.getfield 29, 3) := by decide +kernel
theorem d_M_begin_19 : decode b_M_begin 19 = .ok (.iload_n 1, 1) := by decide +kernel
theorem d_M_begin_20 : decode b_M_begin 20 = .ok (.iconst 2, 1) := by decide +kernel
theorem d_M_begin_21 : decode b_M_begin 21 = .ok (.iastore, 1) := by decide +kernel
theorem d_M_begin_22 : decode b_M_begin 22 = .ok (.iinc 1 1, 3) := by decide +kernel
theorem d_M_begin_25 : decode b_M_begin 25 = .ok (.goto (-18), 3) := by decide +kernel
theorem d_M_begin_28 : decode b_M_begin 28 = .ok (.aload_n 0, 1) := by decide +kernel
theorem d_M_begin_29 : decode b_M_begin 29 = .ok (.getfield 29, 3) := by decide +kernel
theorem d_M_begin_32 : decode b_M_begin 32 = .ok (.iconst 0, 1) := by decide +kernel
theorem d_M_begin_33 : decode b_M_begin 33 = .ok (.iconst 0, 1) := by decide +kernel
theorem d_M_begin_34 : decode b_M_begin 34 = .ok (.iastore, 1) := by decide +kernel
theorem d_M_begin_35 : decode b_M_begin 35 = .ok (.return_, 1) := by decide +kernel
theorem d_M_steps_0 : decode b_M_steps 0 = .ok (.aload_n 0, 1) := by decide +kernel
theorem d_M_steps_1 : decode b_M_steps 1 = .ok (.iconst 1, 1) := by decide +kernel
theorem d_M_steps_2 : decode b_M_steps 2 = .ok (.putfield 74, 3) := by decide +kernel
theorem d_M_steps_5 : decode b_M_steps 5 = .ok (.aload_n 0, 1) := by decide +kernel
theorem d_M_steps_6 : decode b_M_steps 6 = .ok (.getfield 74, 3) := by decide +kernel
theorem d_M_steps_9 : decode b_M_steps 9 = .ok (.ifCond .eq 120, 3) := by decide +kernel
theorem d_M_steps_12 : decode b_M_steps 12 = .ok (.aload_n 0, 1) := by decide +kernel
theorem d_M_steps_13 : decode b_M_steps 13 = .ok (.getfield 70, 3) := by decide +kernel
theorem d_M_steps_16 : decode b_M_steps 16 = .ok (.ifCond .ne 113, 3) := by decide +kernel
theorem d_M_steps_19 : decode b_M_steps 19 = .ok (.aload_n 0, 1) := by decide +kernel
theorem d_M_steps_20 : decode b_M_steps 20 = .ok (.iconst 0, 1) := by decide +kernel
theorem d_M_steps_21 : decode b_M_steps 21 = .ok (.putfield 74, 3) := by decide +kernel
theorem d_M_steps_24 : decode b_M_steps 24 = .ok (.iconst 1, 1) := by decide +kernel
theorem d_M_steps_25 : decode b_M_steps 25 = .ok (.istore_n 2, 1) := by decide +kernel
theorem d_M_steps_26 : decode b_M_steps 26 = .ok (.iload_n 2, 1) := by decide +kernel
theorem d_M_steps_27 : decode b_M_steps 27 = .ok (.aload_n 0, 1) := by decide +kernel
theorem d_M_steps_28 : decode b_M_steps 28 = .ok (.getfield 41, 3) := by decide +kernel
theorem d_M_steps_31 : decode b_M_steps 31 = .ok (.if_icmp .ge 42, 3) := by decide +kernel
theorem d_M_steps_34 : decode b_M_steps 34 = .ok (.aload_n 0, 1) := by decide +kernel
theorem d_M_steps_35 : decode b_M_steps 35 = .ok (.getfield 7, 3) := by decide +kernel
theorem d_M_steps_38 : decode b_M_steps 38 = .ok (.iload_n 2, 1) := by decide +kernel
theorem d_M_steps_39 : decode b_M_steps 39 = .ok (.iaload, 1) := by decide +kernel
theorem d_M_steps_40 : decode b_M_steps 40 = .ok (.iconst 1, 1) := by decide +kernel
theorem d_M_steps_41 : decode b_M_steps 41 = .ok (.if_icmp .ne 11, 3) := by decide +kernel
theorem d_M_steps_44 : decode b_M_steps 44 = .ok (.aload_n 0, 1) := by decide +kernel
theorem d_M_steps_45 : decode b_M_steps 45 = .ok (.iload_n 2, 1) := by decide +kernel
theorem d_M_steps_46 : decode b_M_steps 46 = .ok (.invokevirtual 80, 3) := by decide +kernel
theorem d_M_steps_49 : decode b_M_steps 49 = .ok (.goto 18, 3) := by decide +kernel
theorem d_M_steps_52 : decode b_M_steps 52 = .ok (.aload_n 0, 1) := by decide +kernel
theorem d_M_steps_53 : decode b_M_steps 53 = .ok (.getfield 7, 3) := by decide +kernel
theorem d_M_steps_56 : decode b_M_steps 56 = .ok (.iload_n 2, 1) := by decide +kernel
theorem d_M_steps_57 : decode b_M_steps 57 = .ok (.iaload, 1) := by decide +kernel
theorem d_M_steps_58 : decode b_M_steps 58 = .ok (.iconst 2, 1) := by decide +kernel
theorem d_M_steps_59 : decode b_M_steps 59 = .ok (.if_icmp .ne 8, 3) := by decide +kernel
theorem d_M_steps_62 : decode b_M_steps 62 = .ok (.aload_n 0, 1) := by decide +kernel
theorem d_M_steps_63 : decode b_M_steps 63 = .ok (.iload_n 2, 1) := by decide +kernel
theorem d_M_steps_64 : decode b_M_steps 64 = .ok (.invokevirtual 84, 3) := by decide +kernel
theorem d_M_steps_67 : decode b_M_steps 67 = .ok (.iinc 2 1, 3) := by decide +kernel
theorem d_M_steps_70 : decode b_M_steps 70 = .ok (.goto (-44), 3) := by decide +kernel
theorem d_M_steps_73 : decode b_M_steps 73 = .ok (.iconst 0, 1) := by decide +kernel
theorem d_M_steps_74 : decode b_M_steps 74 = .ok (.istore_n 2, 1) := by decide +kernel
theorem d_M_steps_75 : decode b_M_steps 75 = .ok (.iload_n 2, 1) := by decide +kernel
theorem d_M_steps_76 : decode b_M_steps 76 = .ok (.iload_n 1, 1) := by decide +kernel
theorem d_M_steps_77 : decode b_M_steps 77 = .ok (.if_icmp .ge 49, 3) := by decide +kernel
theorem d_M_steps_80 : decode b_M_steps 80 = .ok (.aload_n 0, 1) := by decide +kernel
theorem d_M_steps_81 : decode b_M_steps 81 = .ok (.getfield 38, 3) := by decide +kernel
theorem d_M_steps_84 : decode b_M_steps 84 = .ok (.iload_n 2, 1) := by decide +kernel
theorem d_M_steps_85 : decode b_M_steps 85 = .ok (.baload, 1) := by decide +kernel
theorem d_M_steps_86 : decode b_M_steps 86 = .ok (.ifCond .ne 20, 3) := by decide +kernel
theorem d_M_steps_89 : decode b_M_steps 89 = .ok (.aload_n 0, 1) := by decide +kernel
theorem d_M_steps_90 : decode b_M_steps 90 = .ok (.getfield 19, 3) := by decide +kernel
theorem d_M_steps_93 : decode b_M_steps 93 = .ok (.iload_n 2, 1) := by decide +kernel
theorem d_M_steps_94 : decode b_M_steps 94 = .ok (.baload, 1) := by decide +kernel
theorem d_M_steps_95 : decode b_M_steps 95 = .ok (.ifCond .eq 11, 3) := by decide +kernel
theorem d_M_steps_98 : decode b_M_steps 98 = .ok (.aload_n 0, 1) := by decide +kernel
theorem d_M_steps_99 : decode b_M_steps 99 = .ok (.iload_n 2, 1) := by decide +kernel
theorem d_M_steps_100 : decode b_M_steps 100 = .ok (.invokevirtual 87, 3) := by decide +kernel
theorem d_M_steps_103 : decode b_M_steps 103 = .ok (.goto 17, 3) := by decide +kernel
theorem d_M_steps_106 : decode b_M_steps 106 = .ok (.aload_n 0, 1) := by decide +kernel
theorem d_M_steps_107 : decode b_M_steps 107 = .ok (.getfield 38, 3) := by decide +kernel
theorem d_M_steps_110 : decode b_M_steps 110 = .ok (.iload_n 2, 1) := by decide +kernel
theorem d_M_steps_111 : decode b_M_steps 111 = .ok (.baload, 1) := by decide +kernel
theorem d_M_steps_112 : decode b_M_steps 112 = .ok (.ifCond .ne 8, 3) := by decide +kernel
theorem d_M_steps_115 : decode b_M_steps 115 = .ok (.aload_n 0, 1) := by decide +kernel
theorem d_M_steps_116 : decode b_M_steps 116 = .ok (.iload_n 2, 1) := by decide +kernel
theorem d_M_steps_117 : decode b_M_steps 117 = .ok (.invokevirtual 90, 3) := by decide +kernel
theorem d_M_steps_120 : decode b_M_steps 120 = .ok (.iinc 2 1, 3) := by decide +kernel
theorem d_M_steps_123 : decode b_M_steps 123 = .ok (.goto (-48), 3) := by decide +kernel
theorem d_M_steps_126 : decode b_M_steps 126 = .ok (.goto (-121), 3) := by decide +kernel
theorem d_M_steps_129 : decode b_M_steps 129 = .ok (.return_, 1) := by decide +kernel
theorem d_M_opposes_0 : decode b_M_opposes 0 = .ok (.aload_n 0, 1) := by decide +kernel
theorem d_M_opposes_1 : decode b_M_opposes 1 = .ok (.invokevirtual 93, 3) := by decide +kernel
theorem d_M_opposes_4 : decode b_M_opposes 4 = .ok (.aload_n 0, 1) := by decide +kernel
theorem d_M_opposes_5 : decode b_M_opposes 5 = .ok (.iload_n 1, 1) := by decide +kernel
theorem d_M_opposes_6 : decode b_M_opposes 6 = .ok (.iload_n 2, 1) := by decide +kernel
theorem d_M_opposes_7 : decode b_M_opposes 7 = .ok (.invokevirtual 77, 3) := by decide +kernel
theorem d_M_opposes_10 : decode b_M_opposes 10 = .ok (.aload_n 0, 1) := by decide +kernel
theorem d_M_opposes_11 : decode b_M_opposes 11 = .ok (.iload_n 3, 1) := by decide +kernel
theorem d_M_opposes_12 : decode b_M_opposes 12 = .ok (.iload 4, 2) := by decide +kernel
theorem d_M_opposes_14 : decode b_M_opposes 14 = .ok (.invokevirtual 77, 3) := by decide +kernel
theorem d_M_opposes_17 : decode b_M_opposes 17 = .ok (.aload_n 0, 1) := by decide +kernel
theorem d_M_opposes_18 : decode b_M_opposes 18 = .ok (.iload 5, 2) := by decide +kernel
theorem d_M_opposes_20 : decode b_M_opposes 20 = .ok (.invokevirtual 96, 3) := by decide +kernel
theorem d_M_opposes_23 : decode b_M_opposes 23 = .ok (.aload_n 0, 1) := by decide +kernel
theorem d_M_opposes_24 : decode b_M_opposes 24 = .ok (.getfield 70, 3) := by decide +kernel
theorem d_M_opposes_27 : decode b_M_opposes 27 = .ok (.ireturn, 1) := by decide +kernel
theorem d_M_follows_0 : decode b_M_follows 0 = .ok (.bipush 6, 2) := by decide +kernel
theorem d_M_follows_2 : decode b_M_follows 2 = .ok (.iload_n 1, 1) := by decide +kernel
theorem d_M_follows_3 : decode b_M_follows 3 = .ok (.imul, 1) := by decide +kernel
theorem d_M_follows_4 : decode b_M_follows 4 = .ok (.istore_n 3, 1) := by decide +kernel
theorem d_M_follows_5 : decode b_M_follows 5 = .ok (.aload_n 0, 1) := by decide +kernel
theorem d_M_follows_6 : decode b_M_follows 6 = .ok (.getfield 19, 3) := by decide +kernel
theorem d_M_follows_9 : decode b_M_follows 9 = .ok (.iload_n 1, 1) := by decide +kernel
theorem d_M_follows_10 : decode b_M_follows 10 = .ok (.baload, 1) := by decide +kernel
theorem d_M_follows_11 : decode b_M_follows 11 = .ok (.ifCond .eq 57, 3) := by decide +kernel
theorem d_M_follows_14 : decode b_M_follows 14 = .ok (.aload_n 0, 1) := by decide +kernel
theorem d_M_follows_15 : decode b_M_follows 15 = .ok (.aload_n 0, 1) := by decide +kernel
theorem d_M_follows_16 : decode b_M_follows 16 = .ok (.getfield 26, 3) := by decide +kernel
theorem d_M_follows_19 : decode b_M_follows 19 = .ok (.iload_n 3, 1) := by decide +kernel
theorem d_M_follows_20 : decode b_M_follows 20 = .ok (.iaload, 1) := by decide +kernel
theorem d_M_follows_21 : decode b_M_follows 21 = .ok (.iconst 1, 1) := by decide +kernel
theorem d_M_follows_22 : decode b_M_follows 22 = .ok (.aload_n 0, 1) := by decide +kernel
theorem d_M_follows_23 : decode b_M_follows 23 = .ok (.getfield 26, 3) := by decide +kernel
theorem d_M_follows_26 : decode b_M_follows 26 = .ok (.iload_n 3, 1) := by decide +kernel
theorem d_M_follows_27 : decode b_M_follows 27 = .ok (.iconst 1, 1) := by decide +kernel
theorem d_M_follows_28 : decode b_M_follows 28 = .ok (.iadd, 1) := by decide +kernel
theorem d_M_follows_29 : decode b_M_follows 29 = .ok (.iaload, 1) := by decide +kernel
theorem d_M_follows_30 : decode b_M_follows 30 = .ok (.iconst 0, 1) := by decide +kernel
theorem d_M_follows_31 : decode b_M_follows 31 = .ok (.iload_n 2, 1) := by decide +kernel
theorem d_M_follows_32 : decode b_M_follows 32 = .ok (.invokevirtual 99, 3) := by decide +kernel
theorem d_M_follows_35 : decode b_M_follows 35 = .ok (.ifCond .eq 31, 3) := by decide +kernel
theorem d_M_follows_38 : decode b_M_follows 38 = .ok (.aload_n 0, 1) := by decide +kernel
theorem d_M_follows_39 : decode b_M_follows 39 = .ok (.aload_n 0, 1) := by decide +kernel
theorem d_M_follows_40 : decode b_M_follows 40 = .ok (.getfield 26, 3) := by decide +kernel
theorem d_M_follows_43 : decode b_M_follows 43 = .ok (.iload_n 3, 1) := by decide +kernel
theorem d_M_follows_44 : decode b_M_follows 44 = .ok (.iaload, 1) := by decide +kernel
theorem d_M_follows_45 : decode b_M_follows 45 = .ok (.iconst 0, 1) := by decide +kernel
theorem d_M_follows_46 : decode b_M_follows 46 = .ok (.aload_n 0, 1) := by decide +kernel
theorem d_M_follows_47 : decode b_M_follows 47 = .ok (.getfield 26, 3) := by decide +kernel
theorem d_M_follows_50 : decode b_M_follows 50 = .ok (.iload_n 3, 1) := by decide +kernel
theorem d_M_follows_51 : decode b_M_follows 51 = .ok (.iconst 1, 1) := by decide +kernel
theorem d_M_follows_52 : decode b_M_follows 52 = .ok (.iadd, 1) := by decide +kernel
theorem d_M_follows_53 : decode b_M_follows 53 = .ok (.iaload, 1) := by decide +kernel
theorem d_M_follows_54 : decode b_M_follows 54 = .ok (.iconst 1, 1) := by decide +kernel
theorem d_M_follows_55 : decode b_M_follows 55 = .ok (.iload_n 2, 1) := by decide +kernel
theorem d_M_follows_56 : decode b_M_follows 56 = .ok (.invokevirtual 99, 3) := by decide +kernel
theorem d_M_follows_59 : decode b_M_follows 59 = .ok (.ifCond .eq 7, 3) := by decide +kernel
theorem d_M_follows_62 : decode b_M_follows 62 = .ok (.iconst 1, 1) := by decide +kernel
theorem d_M_follows_63 : decode b_M_follows 63 = .ok (.goto 4, 3) := by decide +kernel
theorem d_M_follows_66 : decode b_M_follows 66 = .ok (.iconst 0, 1) := by decide +kernel
theorem d_M_follows_67 : decode b_M_follows 67 = .ok (.ireturn, 1) := by decide +kernel
theorem d_M_follows_68 : decode b_M_follows 68 = .ok (.aload_n 0, 1) := by decide +kernel
theorem d_M_follows_69 : decode b_M_follows 69 = .ok (.invokevirtual 93, 3) := by decide +kernel
theorem d_M_follows_72 : decode b_M_follows 72 = .ok (.iconst 0, 1) := by decide +kernel
theorem d_M_follows_73 : decode b_M_follows 73 = .ok (.istore 4, 2) := by decide +kernel
theorem d_M_follows_75 : decode b_M_follows 75 = .ok (.iload 4, 2) := by decide +kernel
theorem d_M_follows_77 : decode b_M_follows 77 = .ok (.aload_n 0, 1) := by decide +kernel
theorem d_M_follows_78 : decode b_M_follows 78 = .ok (.getfield 23, 3) := by decide +kernel
theorem d_M_follows_81 : decode b_M_follows 81 = .ok (.iload_n 1, 1) := by decide +kernel
theorem d_M_follows_82 : decode b_M_follows 82 = .ok (.iaload, 1) := by decide +kernel
theorem d_M_follows_83 : decode b_M_follows 83 = .ok (.if_icmp .ge 23, 3) := by decide +kernel
theorem d_M_follows_86 : decode b_M_follows 86 = .ok (.aload_n 0, 1) := by decide +kernel
theorem d_M_follows_87 : decode b_M_follows 87 = .ok (.aload_n 0, 1) := by decide +kernel
theorem d_M_follows_88 : decode b_M_follows 88 = .ok (.getfield 26, 3) := by decide +kernel
theorem d_M_follows_91 : decode b_M_follows 91 = .ok (.iload_n 3, 1) := by decide +kernel
theorem d_M_follows_92 : decode b_M_follows 92 = .ok (.iload 4, 2) := by decide +kernel
theorem d_M_follows_94 : decode b_M_follows 94 = .ok (.iadd, 1) := by decide +kernel
theorem d_M_follows_95 : decode b_M_follows 95 = .ok (.iaload, 1) := by decide +kernel
theorem d_M_follows_96 : decode b_M_follows 96 = .ok (.iconst 0, 1) := by decide +kernel
theorem d_M_follows_97 : decode b_M_follows 97 = .ok (.invokevirtual 77, 3) := by decide +kernel
theorem d_M_follows_100 : decode b_M_follows 100 = .ok (.iinc 4 1, 3) := by decide +kernel
theorem d_M_follows_103 : decode b_M_follows 103 = .ok (.goto (-28), 3) := by decide +kernel
theorem d_M_follows_106 : decode b_M_follows 106 = .ok (.aload_n 0, 1) := by decide +kernel
theorem d_M_follows_107 : decode b_M_follows 107 = .ok (.iload_n 2, 1) := by decide +kernel
theorem d_M_follows_108 : decode b_M_follows 108 = .ok (.invokevirtual 96, 3) := by decide +kernel
theorem d_M_follows_111 : decode b_M_follows 111 = .ok (.aload_n 0, 1) := by decide +kernel
theorem d_M_follows_112 : decode b_M_follows 112 = .ok (.getfield 70, 3) := by decide +kernel
theorem d_M_follows_115 : decode b_M_follows 115 = .ok (.ireturn, 1) := by decide +kernel
theorem d_M_bad_0 : decode b_M_bad 0 = .ok (.iconst 0, 1) := by decide +kernel
theorem d_M_bad_1 : decode b_M_bad 1 = .ok (.istore_n 2, 1) := by decide +kernel
theorem d_M_bad_2 : decode b_M_bad 2 = .ok (.iload_n 2, 1) := by decide +kernel
theorem d_M_bad_3 : decode b_M_bad 3 = .ok (.aload_n 0, 1) := by decide +kernel
theorem d_M_bad_4 : decode b_M_bad 4 = .ok (.getfield 48, 3) := by decide +kernel
theorem d_M_bad_7 : decode b_M_bad 7 = .ok (.if_icmp .ge 29, 3) := by decide +kernel
theorem d_M_bad_10 : decode b_M_bad 10 = .ok (.aload_n 0, 1) := by decide +kernel
theorem d_M_bad_11 : decode b_M_bad 11 = .ok (.getfield 38, 3) := by decide +kernel
theorem d_M_bad_14 : decode b_M_bad 14 = .ok (.iload_n 2, 1) := by decide +kernel
theorem d_M_bad_15 : decode b_M_bad 15 = .ok (.baload, 1) := by decide +kernel
theorem d_M_bad_16 : decode b_M_bad 16 = .ok (.ifCond .ne 14, 3) := by decide +kernel
theorem d_M_bad_19 : decode b_M_bad 19 = .ok (.aload_n 0, 1) := by decide +kernel
theorem d_M_bad_20 : decode b_M_bad 20 = .ok (.iload_n 2, 1) := by decide +kernel
theorem d_M_bad_21 : decode b_M_bad 21 = .ok (.iload_n 2, 1) := by decide +kernel
theorem d_M_bad_22 : decode b_M_bad 22 = .ok (.invokevirtual 103, 3) := by decide +kernel
theorem d_M_bad_25 : decode b_M_bad 25 = .ok (.ifCond .ne 5, 3) := by decide +kernel
theorem d_M_bad_28 : decode b_M_bad 28 = .ok (.iload_n 2, 1) := by decide +kernel
theorem d_M_bad_29 : decode b_M_bad 29 = .ok (.ireturn, 1) := by decide +kernel
theorem d_M_bad_30 : decode b_M_bad 30 = .ok (.iinc 2 1, 3) := by decide +kernel
theorem d_M_bad_33 : decode b_M_bad 33 = .ok (.goto (-31), 3) := by decide +kernel
theorem d_M_bad_36 : decode b_M_bad 36 = .ok (.aload_n 0, 1) := by decide +kernel
theorem d_M_bad_37 : decode b_M_bad 37 = .ok (.invokevirtual 93, 3) := by decide +kernel
theorem d_M_bad_40 : decode b_M_bad 40 = .ok (.aload_n 0, 1) := by decide +kernel
theorem d_M_bad_41 : decode b_M_bad 41 = .ok (.iload_n 1, 1) := by decide +kernel
theorem d_M_bad_42 : decode b_M_bad 42 = .ok (.iconst 0, 1) := by decide +kernel
theorem d_M_bad_43 : decode b_M_bad 43 = .ok (.invokevirtual 77, 3) := by decide +kernel
theorem d_M_bad_46 : decode b_M_bad 46 = .ok (.aload_n 0, 1) := by decide +kernel
theorem d_M_bad_47 : decode b_M_bad 47 = .ok (.aload_n 0, 1) := by decide +kernel
theorem d_M_bad_48 : decode b_M_bad 48 = .ok (.getfield 48, 3) := by decide +kernel
theorem d_M_bad_51 : decode b_M_bad 51 = .ok (.invokevirtual 96, 3) := by decide +kernel
theorem d_M_bad_54 : decode b_M_bad 54 = .ok (.aload_n 0, 1) := by decide +kernel
theorem d_M_bad_55 : decode b_M_bad 55 = .ok (.getfield 70, 3) := by decide +kernel
theorem d_M_bad_58 : decode b_M_bad 58 = .ok (.ifCond .eq 7, 3) := by decide +kernel
theorem d_M_bad_61 : decode b_M_bad 61 = .ok (.iconst (-1), 1) := by decide +kernel
theorem d_M_bad_62 : decode b_M_bad 62 = .ok (.goto 7, 3) := by decide +kernel
theorem d_M_bad_65 : decode b_M_bad 65 = .ok (.aload_n 0, 1) := by decide +kernel
theorem d_M_bad_66 : decode b_M_bad 66 = .ok (.getfield 48, 3) := by decide +kernel
theorem d_M_bad_69 : decode b_M_bad 69 = .ok (.ireturn, 1) := by decide +kernel
theorem d_M_allThere_0 : decode b_M_allThere 0 = .ok (.iconst 0, 1) := by decide +kernel
theorem d_M_allThere_1 : decode b_M_allThere 1 = .ok (.istore_n 1, 1) := by decide +kernel
theorem d_M_allThere_2 : decode b_M_allThere 2 = .ok (.iload_n 1, 1) := by decide +kernel
theorem d_M_allThere_3 : decode b_M_allThere 3 = .ok (.bipush 24, 2) := by decide +kernel
theorem d_M_allThere_5 : decode b_M_allThere 5 = .ok (.if_icmp .ge 16, 3) := by decide +kernel
theorem d_M_allThere_8 : decode b_M_allThere 8 = .ok (.aload_n 0, 1) := by decide +kernel
theorem d_M_allThere_9 : decode b_M_allThere 9 = .ok (.getfield 38, 3) := by decide +kernel
theorem d_M_allThere_12 : decode b_M_allThere 12 = .ok (.iload_n 1, 1) := by decide +kernel
theorem d_M_allThere_13 : decode b_M_allThere 13 = .ok (.iconst 0, 1) := by decide +kernel
theorem d_M_allThere_14 : decode b_M_allThere 14 = .ok (.bastore, 1) := by decide +kernel
theorem d_M_allThere_15 : decode b_M_allThere 15 = .ok (.iinc 1 1, 3) := by decide +kernel
theorem d_M_allThere_18 : decode b_M_allThere 18 = .ok (.goto (-16), 3) := by decide +kernel
theorem d_M_allThere_21 : decode b_M_allThere 21 = .ok (.return_, 1) := by decide +kernel
theorem d_M_check_0 : decode b_M_check 0 = .ok (.aload_n 0, 1) := by decide +kernel
theorem d_M_check_1 : decode b_M_check 1 = .ok (.aload_n 0, 1) := by decide +kernel
theorem d_M_check_2 : decode b_M_check 2 = .ok (.iload_n 1, 1) := by decide +kernel
theorem d_M_check_3 : decode b_M_check 3 = .ok (.invokevirtual 51, 3) := by decide +kernel
theorem d_M_check_6 : decode b_M_check 6 = .ok (.ifCond .eq 7, 3) := by decide +kernel
theorem d_M_check_9 : decode b_M_check 9 = .ok (.iconst 0, 1) := by decide +kernel
theorem d_M_check_10 : decode b_M_check 10 = .ok (.goto 4, 3) := by decide +kernel
theorem d_M_check_13 : decode b_M_check 13 = .ok (.iconst 1, 1) := by decide +kernel
theorem d_M_check_14 : decode b_M_check 14 = .ok (.putfield 45, 3) := by decide +kernel
theorem d_M_check_17 : decode b_M_check 17 = .ok (.aload_n 0, 1) := by decide +kernel
theorem d_M_check_18 : decode b_M_check 18 = .ok (.getfield 45, 3) := by decide +kernel
theorem d_M_check_21 : decode b_M_check 21 = .ok (.ifCond .le 5, 3) := by decide +kernel
theorem d_M_check_24 : decode b_M_check 24 = .ok (.iconst 0, 1) := by decide +kernel
theorem d_M_check_25 : decode b_M_check 25 = .ok (.ireturn, 1) := by decide +kernel
theorem d_M_check_26 : decode b_M_check 26 = .ok (.aload_n 0, 1) := by decide +kernel
theorem d_M_check_27 : decode b_M_check 27 = .ok (.invokevirtual 106, 3) := by decide +kernel
theorem d_M_check_30 : decode b_M_check 30 = .ok (.iconst 1, 1) := by decide +kernel
theorem d_M_check_31 : decode b_M_check 31 = .ok (.aload_n 0, 1) := by decide +kernel
theorem d_M_check_32 : decode b_M_check 32 = .ok (.iload_n 1, 1) := by decide +kernel
theorem d_M_check_33 : decode b_M_check 33 = .ok (.invokevirtual 109, 3) := by decide +kernel
theorem d_M_check_36 : decode b_M_check 36 = .ok (.iadd, 1) := by decide +kernel
theorem d_M_check_37 : decode b_M_check 37 = .ok (.ireturn, 1) := by decide +kernel
theorem d_M_good_0 : decode b_M_good 0 = .ok (.aload_n 0, 1) := by decide +kernel
theorem d_M_good_1 : decode b_M_good 1 = .ok (.aload_n 0, 1) := by decide +kernel
theorem d_M_good_2 : decode b_M_good 2 = .ok (.iload_n 1, 1) := by decide +kernel
theorem d_M_good_3 : decode b_M_good 3 = .ok (.invokevirtual 55, 3) := by decide +kernel
theorem d_M_good_6 : decode b_M_good 6 = .ok (.ifCond .eq 7, 3) := by decide +kernel
theorem d_M_good_9 : decode b_M_good 9 = .ok (.iconst 0, 1) := by decide +kernel
theorem d_M_good_10 : decode b_M_good 10 = .ok (.goto 4, 3) := by decide +kernel
theorem d_M_good_13 : decode b_M_good 13 = .ok (.iconst 1, 1) := by decide +kernel
theorem d_M_good_14 : decode b_M_good 14 = .ok (.putfield 45, 3) := by decide +kernel
theorem d_M_good_17 : decode b_M_good 17 = .ok (.aload_n 0, 1) := by decide +kernel
theorem d_M_good_18 : decode b_M_good 18 = .ok (.getfield 45, 3) := by decide +kernel
theorem d_M_good_21 : decode b_M_good 21 = .ok (.ifCond .le 5, 3) := by decide +kernel
theorem d_M_good_24 : decode b_M_good 24 = .ok (.iconst 0, 1) := by decide +kernel
theorem d_M_good_25 : decode b_M_good 25 = .ok (.ireturn, 1) := by decide +kernel
theorem d_M_good_26 : decode b_M_good 26 = .ok (.aload_n 0, 1) := by decide +kernel
theorem d_M_good_27 : decode b_M_good 27 = .ok (.invokevirtual 106, 3) := by decide +kernel
theorem d_M_good_30 : decode b_M_good 30 = .ok (.aload_n 0, 1) := by decide +kernel
theorem d_M_good_31 : decode b_M_good 31 = .ok (.iload_n 1, 1) := by decide +kernel
theorem d_M_good_32 : decode b_M_good 32 = .ok (.iload_n 1, 1) := by decide +kernel
theorem d_M_good_33 : decode b_M_good 33 = .ok (.invokevirtual 103, 3) := by decide +kernel
theorem d_M_good_36 : decode b_M_good 36 = .ok (.ireturn, 1) := by decide +kernel
theorem d_M_implied_0 : decode b_M_implied 0 = .ok (.iload_n 1, 1) := by decide +kernel
theorem d_M_implied_1 : decode b_M_implied 1 = .ok (.iconst (-1), 1) := by decide +kernel
theorem d_M_implied_2 : decode b_M_implied 2 = .ok (.if_icmp .eq 11, 3) := by decide +kernel
theorem d_M_implied_5 : decode b_M_implied 5 = .ok (.aload_n 0, 1) := by decide +kernel
theorem d_M_implied_6 : decode b_M_implied 6 = .ok (.iload_n 1, 1) := by decide +kernel
theorem d_M_implied_7 : decode b_M_implied 7 = .ok (.invokevirtual 51, 3) := by decide +kernel
theorem d_M_implied_10 : decode b_M_implied 10 = .ok (.ifCond .eq 33, 3) := by decide +kernel
theorem d_M_implied_13 : decode b_M_implied 13 = .ok (.iload_n 2, 1) := by decide +kernel
theorem d_M_implied_14 : decode b_M_implied 14 = .ok (.iconst (-1), 1) := by decide +kernel
theorem d_M_implied_15 : decode b_M_implied 15 = .ok (.if_icmp .eq 11, 3) := by decide +kernel
theorem d_M_implied_18 : decode b_M_implied 18 = .ok (.aload_n 0, 1) := by decide +kernel
theorem d_M_implied_19 : decode b_M_implied 19 = .ok (.iload_n 2, 1) := by decide +kernel
theorem d_M_implied_20 : decode b_M_implied 20 = .ok (.invokevirtual 51, 3) := by decide +kernel
theorem d_M_implied_23 : decode b_M_implied 23 = .ok (.ifCond .eq 20, 3) := by decide +kernel
theorem d_M_implied_26 : decode b_M_implied 26 = .ok (.iload_n 3, 1) := by decide +kernel
theorem d_M_implied_27 : decode b_M_implied 27 = .ok (.iconst (-1), 1) := by decide +kernel
theorem d_M_implied_28 : decode b_M_implied 28 = .ok (.if_icmp .eq 11, 3) := by decide +kernel
theorem d_M_implied_31 : decode b_M_implied 31 = .ok (.aload_n 0, 1) := by decide +kernel
theorem d_M_implied_32 : decode b_M_implied 32 = .ok (.iload_n 3, 1) := by decide +kernel
theorem d_M_implied_33 : decode b_M_implied 33 = .ok (.invokevirtual 51, 3) := by decide +kernel
theorem d_M_implied_36 : decode b_M_implied 36 = .ok (.ifCond .eq 7, 3) := by decide +kernel
theorem d_M_implied_39 : decode b_M_implied 39 = .ok (.iconst 1, 1) := by decide +kernel
theorem d_M_implied_40 : decode b_M_implied 40 = .ok (.goto 4, 3) := by decide +kernel
theorem d_M_implied_43 : decode b_M_implied 43 = .ok (.iconst 0, 1) := by decide +kernel
theorem d_M_implied_44 : decode b_M_implied 44 = .ok (.istore 5, 2) := by decide +kernel
theorem d_M_implied_46 : decode b_M_implied 46 = .ok (.aload_n 0, 1) := by decide +kernel
theorem d_M_implied_47 : decode b_M_implied 47 = .ok (.iload 5, 2) := by decide +kernel
theorem d_M_implied_49 : decode b_M_implied 49 = .ok (.ifCond .eq 21, 3) := by decide +kernel
theorem d_M_implied_52 : decode b_M_implied 52 = .ok (.iload 4, 2) := by decide +kernel
theorem d_M_implied_54 : decode b_M_implied 54 = .ok (.ifCond .lt 16, 3) := by decide +kernel
theorem d_M_implied_57 : decode b_M_implied 57 = .ok (.iload 4, 2) := by decide +kernel
theorem d_M_implied_59 : decode b_M_implied 59 = .ok (.aload_n 0, 1) := by decide +kernel
theorem d_M_implied_60 : decode b_M_implied 60 = .ok (.getfield 41, 3) := by decide +kernel
theorem d_M_implied_63 : decode b_M_implied 63 = .ok (.if_icmp .ge 7, 3) := by decide +kernel
theorem d_M_implied_66 : decode b_M_implied 66 = .ok (.iconst 0, 1) := by decide +kernel
theorem d_M_implied_67 : decode b_M_implied 67 = .ok (.goto 4, 3) := by decide +kernel
theorem d_M_implied_70 : decode b_M_implied 70 = .ok (.iconst 1, 1) := by decide +kernel
theorem d_M_implied_71 : decode b_M_implied 71 = .ok (.putfield 45, 3) := by decide +kernel
theorem d_M_implied_74 : decode b_M_implied 74 = .ok (.aload_n 0, 1) := by decide +kernel
theorem d_M_implied_75 : decode b_M_implied 75 = .ok (.getfield 45, 3) := by decide +kernel
theorem d_M_implied_78 : decode b_M_implied 78 = .ok (.ifCond .le 5, 3) := by decide +kernel
theorem d_M_implied_81 : decode b_M_implied 81 = .ok (.iconst 0, 1) := by decide +kernel
theorem d_M_implied_82 : decode b_M_implied 82 = .ok (.ireturn, 1) := by decide +kernel
theorem d_M_implied_83 : decode b_M_implied 83 = .ok (.aload_n 0, 1) := by decide +kernel
theorem d_M_implied_84 : decode b_M_implied 84 = .ok (.invokevirtual 106, 3) := by decide +kernel
theorem d_M_implied_87 : decode b_M_implied 87 = .ok (.aload_n 0, 1) := by decide +kernel
theorem d_M_implied_88 : decode b_M_implied 88 = .ok (.invokevirtual 93, 3) := by decide +kernel
theorem d_M_implied_91 : decode b_M_implied 91 = .ok (.iconst 0, 1) := by decide +kernel
theorem d_M_implied_92 : decode b_M_implied 92 = .ok (.istore 6, 2) := by decide +kernel
theorem d_M_implied_94 : decode b_M_implied 94 = .ok (.iload 6, 2) := by decide +kernel
theorem d_M_implied_96 : decode b_M_implied 96 = .ok (.iconst 3, 1) := by decide +kernel
theorem d_M_implied_97 : decode b_M_implied 97 = .ok (.if_icmp .ge 44, 3) := by decide +kernel
theorem d_M_implied_100 : decode b_M_implied 100 = .ok (.iload 6, 2) := by decide +kernel
theorem d_M_implied_102 : decode b_M_implied 102 = .ok (.ifCond .ne 7, 3) := by decide +kernel
theorem d_M_implied_105 : decode b_M_implied 105 = .ok (.iload_n 1, 1) := by decide +kernel
theorem d_M_implied_106 : decode b_M_implied 106 = .ok (.goto 14, 3) := by decide +kernel
theorem d_M_implied_109 : decode b_M_implied 109 = .ok (.iload 6, 2) := by decide +kernel
theorem d_M_implied_111 : decode b_M_implied 111 = .ok (.iconst 1, 1) := by decide +kernel
theorem d_M_implied_112 : decode b_M_implied 112 = .ok (.if_icmp .ne 7, 3) := by decide +kernel
theorem d_M_implied_115 : decode b_M_implied 115 = .ok (.iload_n 2, 1) := by decide +kernel
theorem d_M_implied_116 : decode b_M_implied 116 = .ok (.goto 4, 3) := by decide +kernel
theorem d_M_implied_119 : decode b_M_implied 119 = .ok (.iload_n 3, 1) := by decide +kernel
theorem d_M_implied_120 : decode b_M_implied 120 = .ok (.istore 7, 2) := by decide +kernel
theorem d_M_implied_122 : decode b_M_implied 122 = .ok (.iload 7, 2) := by decide +kernel
theorem d_M_implied_124 : decode b_M_implied 124 = .ok (.iconst (-1), 1) := by decide +kernel
theorem d_M_implied_125 : decode b_M_implied 125 = .ok (.if_icmp .eq 10, 3) := by decide +kernel
theorem d_M_implied_128 : decode b_M_implied 128 = .ok (.aload_n 0, 1) := by decide +kernel
theorem d_M_implied_129 : decode b_M_implied 129 = .ok (.iload 7, 2) := by decide +kernel
theorem d_M_implied_131 : decode b_M_implied 131 = .ok (.iconst 1, 1) := by decide +kernel
theorem d_M_implied_132 : decode b_M_implied 132 = .ok (.invokevirtual 77, 3) := by decide +kernel
theorem d_M_implied_135 : decode b_M_implied 135 = .ok (.iinc 6 1, 3) := by decide +kernel
theorem d_M_implied_138 : decode b_M_implied 138 = .ok (.goto (-44), 3) := by decide +kernel
theorem d_M_implied_141 : decode b_M_implied 141 = .ok (.aload_n 0, 1) := by decide +kernel
theorem d_M_implied_142 : decode b_M_implied 142 = .ok (.aload_n 0, 1) := by decide +kernel
theorem d_M_implied_143 : decode b_M_implied 143 = .ok (.getfield 48, 3) := by decide +kernel
theorem d_M_implied_146 : decode b_M_implied 146 = .ok (.invokevirtual 96, 3) := by decide +kernel
theorem d_M_implied_149 : decode b_M_implied 149 = .ok (.aload_n 0, 1) := by decide +kernel
theorem d_M_implied_150 : decode b_M_implied 150 = .ok (.getfield 70, 3) := by decide +kernel
theorem d_M_implied_153 : decode b_M_implied 153 = .ok (.ifCond .eq 7, 3) := by decide +kernel
theorem d_M_implied_156 : decode b_M_implied 156 = .ok (.iconst 3, 1) := by decide +kernel
theorem d_M_implied_157 : decode b_M_implied 157 = .ok (.goto 10, 3) := by decide +kernel
theorem d_M_implied_160 : decode b_M_implied 160 = .ok (.aload_n 0, 1) := by decide +kernel
theorem d_M_implied_161 : decode b_M_implied 161 = .ok (.getfield 29, 3) := by decide +kernel
theorem d_M_implied_164 : decode b_M_implied 164 = .ok (.iload 4, 2) := by decide +kernel
theorem d_M_implied_166 : decode b_M_implied 166 = .ok (.iaload, 1) := by decide +kernel
theorem d_M_implied_167 : decode b_M_implied 167 = .ok (.ireturn, 1) := by decide +kernel
theorem d_M_shorten_0 : decode b_M_shorten 0 = .ok (.aload_n 0, 1) := by decide +kernel
theorem d_M_shorten_1 : decode b_M_shorten 1 = .ok (.aload_n 0, 1) := by decide +kernel
theorem d_M_shorten_2 : decode b_M_shorten 2 = .ok (.iload_n 1, 1) := by decide +kernel
theorem d_M_shorten_3 : decode b_M_shorten 3 = .ok (.invokevirtual 51, 3) := by decide +kernel
theorem d_M_shorten_6 : decode b_M_shorten 6 = .ok (.ifCond .eq 7, 3) := by decide +kernel
theorem d_M_shorten_9 : decode b_M_shorten 9 = .ok (.iconst 0, 1) := by decide +kernel
theorem d_M_shorten_10 : decode b_M_shorten 10 = .ok (.goto 4, 3) := by decide +kernel
theorem d_M_shorten_13 : decode b_M_shorten 13 = .ok (.iconst 1, 1) := by decide +kernel
theorem d_M_shorten_14 : decode b_M_shorten 14 = .ok (.putfield 45, 3) := by decide +kernel
theorem d_M_shorten_17 : decode b_M_shorten 17 = .ok (.aload_n 0, 1) := by decide +kernel
theorem d_M_shorten_18 : decode b_M_shorten 18 = .ok (.getfield 45, 3) := by decide +kernel
theorem d_M_shorten_21 : decode b_M_shorten 21 = .ok (.ifCond .le 5, 3) := by decide +kernel
theorem d_M_shorten_24 : decode b_M_shorten 24 = .ok (.iconst 0, 1) := by decide +kernel
theorem d_M_shorten_25 : decode b_M_shorten 25 = .ok (.ireturn, 1) := by decide +kernel
theorem d_M_shorten_26 : decode b_M_shorten 26 = .ok (.aload_n 0, 1) := by decide +kernel
theorem d_M_shorten_27 : decode b_M_shorten 27 = .ok (.invokevirtual 106, 3) := by decide +kernel
theorem d_M_shorten_30 : decode b_M_shorten 30 = .ok (.aload_n 0, 1) := by decide +kernel
theorem d_M_shorten_31 : decode b_M_shorten 31 = .ok (.iload_n 1, 1) := by decide +kernel
theorem d_M_shorten_32 : decode b_M_shorten 32 = .ok (.invokevirtual 109, 3) := by decide +kernel
theorem d_M_shorten_35 : decode b_M_shorten 35 = .ok (.iconst (-1), 1) := by decide +kernel
theorem d_M_shorten_36 : decode b_M_shorten 36 = .ok (.if_icmp .eq 5, 3) := by decide +kernel
theorem d_M_shorten_39 : decode b_M_shorten 39 = .ok (.iconst (-1), 1) := by decide +kernel
theorem d_M_shorten_40 : decode b_M_shorten 40 = .ok (.ireturn, 1) := by decide +kernel
theorem d_M_shorten_41 : decode b_M_shorten 41 = .ok (.aload_n 0, 1) := by decide +kernel
theorem d_M_shorten_42 : decode b_M_shorten 42 = .ok (.getfield 48, 3) := by decide +kernel
theorem d_M_shorten_45 : decode b_M_shorten 45 = .ok (.iconst 1, 1) := by decide +kernel
theorem d_M_shorten_46 : decode b_M_shorten 46 = .ok (.isub, 1) := by decide +kernel
theorem d_M_shorten_47 : decode b_M_shorten 47 = .ok (.istore_n 2, 1) := by decide +kernel
theorem d_M_shorten_48 : decode b_M_shorten 48 = .ok (.iload_n 2, 1) := by decide +kernel
theorem d_M_shorten_49 : decode b_M_shorten 49 = .ok (.ifCond .lt 36, 3) := by decide +kernel
theorem d_M_shorten_52 : decode b_M_shorten 52 = .ok (.aload_n 0, 1) := by decide +kernel
theorem d_M_shorten_53 : decode b_M_shorten 53 = .ok (.getfield 38, 3) := by decide +kernel
theorem d_M_shorten_56 : decode b_M_shorten 56 = .ok (.iload_n 2, 1) := by decide +kernel
theorem d_M_shorten_57 : decode b_M_shorten 57 = .ok (.iconst 1, 1) := by decide +kernel
theorem d_M_shorten_58 : decode b_M_shorten 58 = .ok (.bastore, 1) := by decide +kernel
theorem d_M_shorten_59 : decode b_M_shorten 59 = .ok (.aload_n 0, 1) := by decide +kernel
theorem d_M_shorten_60 : decode b_M_shorten 60 = .ok (.getfield 38, 3) := by decide +kernel
theorem d_M_shorten_63 : decode b_M_shorten 63 = .ok (.iload_n 2, 1) := by decide +kernel
theorem d_M_shorten_64 : decode b_M_shorten 64 = .ok (.aload_n 0, 1) := by decide +kernel
theorem d_M_shorten_65 : decode b_M_shorten 65 = .ok (.iload_n 1, 1) := by decide +kernel
theorem d_M_shorten_66 : decode b_M_shorten 66 = .ok (.invokevirtual 109, 3) := by decide +kernel
theorem d_M_shorten_69 : decode b_M_shorten 69 = .ok (.iconst (-1), 1) := by decide +kernel
theorem d_M_shorten_70 : decode b_M_shorten 70 = .ok (.if_icmp .ne 7, 3) := by decide +kernel
theorem d_M_shorten_73 : decode b_M_shorten 73 = .ok (.iconst 1, 1) := by decide +kernel
theorem d_M_shorten_74 : decode b_M_shorten 74 = .ok (.goto 4, 3) := by decide +kernel
theorem d_M_shorten_77 : decode b_M_shorten 77 = .ok (.iconst 0, 1) := by decide +kernel
theorem d_M_shorten_78 : decode b_M_shorten 78 = .ok (.bastore, 1) := by decide +kernel
theorem d_M_shorten_79 : decode b_M_shorten 79 = .ok (.iinc 2 (-1), 3) := by decide +kernel
theorem d_M_shorten_82 : decode b_M_shorten 82 = .ok (.goto (-34), 3) := by decide +kernel
theorem d_M_shorten_85 : decode b_M_shorten 85 = .ok (.iconst 0, 1) := by decide +kernel
theorem d_M_shorten_86 : decode b_M_shorten 86 = .ok (.istore_n 2, 1) := by decide +kernel
theorem d_M_shorten_87 : decode b_M_shorten 87 = .ok (.iconst 0, 1) := by decide +kernel
theorem d_M_shorten_88 : decode b_M_shorten 88 = .ok (.istore_n 3, 1) := by decide +kernel
theorem d_M_shorten_89 : decode b_M_shorten 89 = .ok (.iload_n 3, 1) := by decide +kernel
theorem d_M_shorten_90 : decode b_M_shorten 90 = .ok (.aload_n 0, 1) := by decide +kernel
theorem d_M_shorten_91 : decode b_M_shorten 91 = .ok (.getfield 48, 3) := by decide +kernel
theorem d_M_shorten_94 : decode b_M_shorten 94 = .ok (.if_icmp .ge 85, 3) := by decide +kernel
theorem d_M_shorten_97 : decode b_M_shorten 97 = .ok (.aload_n 0, 1) := by decide +kernel
theorem d_M_shorten_98 : decode b_M_shorten 98 = .ok (.getfield 38, 3) := by decide +kernel
theorem d_M_shorten_101 : decode b_M_shorten 101 = .ok (.iload_n 3, 1) := by decide +kernel
theorem d_M_shorten_102 : decode b_M_shorten 102 = .ok (.baload, 1) := by decide +kernel
theorem d_M_shorten_103 : decode b_M_shorten 103 = .ok (.ifCond .ne 70, 3) := by decide +kernel
theorem d_M_shorten_106 : decode b_M_shorten 106 = .ok (.aload_n 0, 1) := by decide +kernel
theorem d_M_shorten_107 : decode b_M_shorten 107 = .ok (.getfield 19, 3) := by decide +kernel
theorem d_M_shorten_110 : decode b_M_shorten 110 = .ok (.iload_n 2, 1) := by decide +kernel
theorem d_M_shorten_111 : decode b_M_shorten 111 = .ok (.aload_n 0, 1) := by decide +kernel
theorem d_M_shorten_112 : decode b_M_shorten 112 = .ok (.getfield 19, 3) := by decide +kernel
theorem d_M_shorten_115 : decode b_M_shorten 115 = .ok (.iload_n 3, 1) := by decide +kernel
theorem d_M_shorten_116 : decode b_M_shorten 116 = .ok (.baload, 1) := by decide +kernel
theorem d_M_shorten_117 : decode b_M_shorten 117 = .ok (.bastore, 1) := by decide +kernel
theorem d_M_shorten_118 : decode b_M_shorten 118 = .ok (.aload_n 0, 1) := by decide +kernel
theorem d_M_shorten_119 : decode b_M_shorten 119 = .ok (.getfield 23, 3) := by decide +kernel
theorem d_M_shorten_122 : decode b_M_shorten 122 = .ok (.iload_n 2, 1) := by decide +kernel
theorem d_M_shorten_123 : decode b_M_shorten 123 = .ok (.aload_n 0, 1) := by decide +kernel
theorem d_M_shorten_124 : decode b_M_shorten 124 = .ok (.getfield 23, 3) := by decide +kernel
theorem d_M_shorten_127 : decode b_M_shorten 127 = .ok (.iload_n 3, 1) := by decide +kernel
theorem d_M_shorten_128 : decode b_M_shorten 128 = .ok (.iaload, 1) := by decide +kernel
theorem d_M_shorten_129 : decode b_M_shorten 129 = .ok (.iastore, 1) := by decide +kernel
theorem d_M_shorten_130 : decode b_M_shorten 130 = .ok (.iconst 0, 1) := by decide +kernel
theorem d_M_shorten_131 : decode b_M_shorten 131 = .ok (.istore 4, 2) := by decide +kernel
theorem d_M_shorten_133 : decode b_M_shorten 133 = .ok (.iload 4, 2) := by decide +kernel
theorem d_M_shorten_135 : decode b_M_shorten 135 = .ok (.bipush 6, 2) := by decide +kernel
theorem d_M_shorten_137 : decode b_M_shorten 137 = .ok (.if_icmp .ge 33, 3) := by decide +kernel
theorem d_M_shorten_140 : decode b_M_shorten 140 = .ok (.aload_n 0, 1) := by decide +kernel
theorem d_M_shorten_141 : decode b_M_shorten 141 = .ok (.getfield 26, 3) := by decide +kernel
theorem d_M_shorten_144 : decode b_M_shorten 144 = .ok (.bipush 6, 2) := by decide +kernel
theorem d_M_shorten_146 : decode b_M_shorten 146 = .ok (.iload_n 2, 1) := by decide +kernel
theorem d_M_shorten_147 : decode b_M_shorten 147 = .ok (.imul, 1) := by decide +kernel
theorem d_M_shorten_148 : decode b_M_shorten 148 = .ok (.iload 4, 2) := by decide +kernel
theorem d_M_shorten_150 : decode b_M_shorten 150 = .ok (.iadd, 1) := by decide +kernel
theorem d_M_shorten_151 : decode b_M_shorten 151 = .ok (.aload_n 0, 1) := by decide +kernel
theorem d_M_shorten_152 : decode b_M_shorten 152 = .ok (.getfield 26, 3) := by decide +kernel
theorem d_M_shorten_155 : decode b_M_shorten 155 = .ok (.bipush 6, 2) := by decide +kernel
theorem d_M_shorten_157 : decode b_M_shorten 157 = .ok (.iload_n 3, 1) := by decide +kernel
theorem d_M_shorten_158 : decode b_M_shorten 158 = .ok (.imul, 1) := by decide +kernel
theorem d_M_shorten_159 : decode b_M_shorten 159 = .ok (.iload 4, 2) := by decide +kernel
theorem d_M_shorten_161 : decode b_M_shorten 161 = .ok (.iadd, 1) := by decide +kernel
theorem d_M_shorten_162 : decode b_M_shorten 162 = .ok (.iaload, 1) := by decide +kernel
theorem d_M_shorten_163 : decode b_M_shorten 163 = .ok (.iastore, 1) := by decide +kernel
theorem d_M_shorten_164 : decode b_M_shorten 164 = .ok (.iinc 4 1, 3) := by decide +kernel
theorem d_M_shorten_167 : decode b_M_shorten 167 = .ok (.goto (-34), 3) := by decide +kernel
theorem d_M_shorten_170 : decode b_M_shorten 170 = .ok (.iinc 2 1, 3) := by decide +kernel
theorem d_M_shorten_173 : decode b_M_shorten 173 = .ok (.iinc 3 1, 3) := by decide +kernel
theorem d_M_shorten_176 : decode b_M_shorten 176 = .ok (.goto (-87), 3) := by decide +kernel
theorem d_M_shorten_179 : decode b_M_shorten 179 = .ok (.aload_n 0, 1) := by decide +kernel
theorem d_M_shorten_180 : decode b_M_shorten 180 = .ok (.iload_n 2, 1) := by decide +kernel
theorem d_M_shorten_181 : decode b_M_shorten 181 = .ok (.putfield 48, 3) := by decide +kernel
theorem d_M_shorten_184 : decode b_M_shorten 184 = .ok (.iload_n 2, 1) := by decide +kernel
theorem d_M_shorten_185 : decode b_M_shorten 185 = .ok (.ireturn, 1) := by decide +kernel
theorem d_M_lineAt_0 : decode b_M_lineAt 0 = .ok (.aload_n 0, 1) := by decide +kernel
theorem d_M_lineAt_1 : decode b_M_lineAt 1 = .ok (.aload_n 0, 1) := by decide +kernel
theorem d_M_lineAt_2 : decode b_M_lineAt 2 = .ok (.iload_n 1, 1) := by decide +kernel
theorem d_M_lineAt_3 : decode b_M_lineAt 3 = .ok (.invokevirtual 55, 3) := by decide +kernel
theorem d_M_lineAt_6 : decode b_M_lineAt 6 = .ok (.ifCond .eq 23, 3) := by decide +kernel
theorem d_M_lineAt_9 : decode b_M_lineAt 9 = .ok (.iload_n 2, 1) := by decide +kernel
theorem d_M_lineAt_10 : decode b_M_lineAt 10 = .ok (.ifCond .lt 19, 3) := by decide +kernel
theorem d_M_lineAt_13 : decode b_M_lineAt 13 = .ok (.iload_n 2, 1) := by decide +kernel
theorem d_M_lineAt_14 : decode b_M_lineAt 14 = .ok (.aload_n 0, 1) := by decide +kernel
theorem d_M_lineAt_15 : decode b_M_lineAt 15 = .ok (.getfield 23, 3) := by decide +kernel
theorem d_M_lineAt_18 : decode b_M_lineAt 18 = .ok (.iload_n 1, 1) := by decide +kernel
theorem d_M_lineAt_19 : decode b_M_lineAt 19 = .ok (.iaload, 1) := by decide +kernel
theorem d_M_lineAt_20 : decode b_M_lineAt 20 = .ok (.iconst 2, 1) := by decide +kernel
theorem d_M_lineAt_21 : decode b_M_lineAt 21 = .ok (.iadd, 1) := by decide +kernel
theorem d_M_lineAt_22 : decode b_M_lineAt 22 = .ok (.if_icmp .ge 7, 3) := by decide +kernel
theorem d_M_lineAt_25 : decode b_M_lineAt 25 = .ok (.iconst 0, 1) := by decide +kernel
theorem d_M_lineAt_26 : decode b_M_lineAt 26 = .ok (.goto 4, 3) := by decide +kernel
theorem d_M_lineAt_29 : decode b_M_lineAt 29 = .ok (.iconst 1, 1) := by decide +kernel
theorem d_M_lineAt_30 : decode b_M_lineAt 30 = .ok (.putfield 45, 3) := by decide +kernel
theorem d_M_lineAt_33 : decode b_M_lineAt 33 = .ok (.aload_n 0, 1) := by decide +kernel
theorem d_M_lineAt_34 : decode b_M_lineAt 34 = .ok (.getfield 45, 3) := by decide +kernel
theorem d_M_lineAt_37 : decode b_M_lineAt 37 = .ok (.ifCond .le 5, 3) := by decide +kernel
theorem d_M_lineAt_40 : decode b_M_lineAt 40 = .ok (.iconst 0, 1) := by decide +kernel
theorem d_M_lineAt_41 : decode b_M_lineAt 41 = .ok (.ireturn, 1) := by decide +kernel
theorem d_M_lineAt_42 : decode b_M_lineAt 42 = .ok (.iload_n 2, 1) := by decide +kernel
theorem d_M_lineAt_43 : decode b_M_lineAt 43 = .ok (.ifCond .ne 20, 3) := by decide +kernel
theorem d_M_lineAt_46 : decode b_M_lineAt 46 = .ok (.aload_n 0, 1) := by decide +kernel
theorem d_M_lineAt_47 : decode b_M_lineAt 47 = .ok (.getfield 19, 3) := by decide +kernel
theorem d_M_lineAt_50 : decode b_M_lineAt 50 = .ok (.iload_n 1, 1) := by decide +kernel
theorem d_M_lineAt_51 : decode b_M_lineAt 51 = .ok (.baload, 1) := by decide +kernel
theorem d_M_lineAt_52 : decode b_M_lineAt 52 = .ok (.ifCond .eq 7, 3) := by decide +kernel
theorem d_M_lineAt_55 : decode b_M_lineAt 55 = .ok (.iconst 1, 1) := by decide +kernel
theorem d_M_lineAt_56 : decode b_M_lineAt 56 = .ok (.goto 34, 3) := by decide +kernel
theorem d_M_lineAt_59 : decode b_M_lineAt 59 = .ok (.iconst 0, 1) := by decide +kernel
theorem d_M_lineAt_60 : decode b_M_lineAt 60 = .ok (.goto 30, 3) := by decide +kernel
theorem d_M_lineAt_63 : decode b_M_lineAt 63 = .ok (.iload_n 2, 1) := by decide +kernel
theorem d_M_lineAt_64 : decode b_M_lineAt 64 = .ok (.iconst 1, 1) := by decide +kernel
theorem d_M_lineAt_65 : decode b_M_lineAt 65 = .ok (.if_icmp .ne 12, 3) := by decide +kernel
theorem d_M_lineAt_68 : decode b_M_lineAt 68 = .ok (.aload_n 0, 1) := by decide +kernel
theorem d_M_lineAt_69 : decode b_M_lineAt 69 = .ok (.getfield 23, 3) := by decide +kernel
theorem d_M_lineAt_72 : decode b_M_lineAt 72 = .ok (.iload_n 1, 1) := by decide +kernel
theorem d_M_lineAt_73 : decode b_M_lineAt 73 = .ok (.iaload, 1) := by decide +kernel
theorem d_M_lineAt_74 : decode b_M_lineAt 74 = .ok (.goto 16, 3) := by decide +kernel
theorem d_M_lineAt_77 : decode b_M_lineAt 77 = .ok (.aload_n 0, 1) := by decide +kernel
theorem d_M_lineAt_78 : decode b_M_lineAt 78 = .ok (.getfield 26, 3) := by decide +kernel
theorem d_M_lineAt_81 : decode b_M_lineAt 81 = .ok (.bipush 6, 2) := by decide +kernel
theorem d_M_lineAt_83 : decode b_M_lineAt 83 = .ok (.iload_n 1, 1) := by decide +kernel
theorem d_M_lineAt_84 : decode b_M_lineAt 84 = .ok (.imul, 1) := by decide +kernel
theorem d_M_lineAt_85 : decode b_M_lineAt 85 = .ok (.iload_n 2, 1) := by decide +kernel
theorem d_M_lineAt_86 : decode b_M_lineAt 86 = .ok (.iadd, 1) := by decide +kernel
theorem d_M_lineAt_87 : decode b_M_lineAt 87 = .ok (.iconst 2, 1) := by decide +kernel
theorem d_M_lineAt_88 : decode b_M_lineAt 88 = .ok (.isub, 1) := by decide +kernel
theorem d_M_lineAt_89 : decode b_M_lineAt 89 = .ok (.iaload, 1) := by decide +kernel
theorem d_M_lineAt_90 : decode b_M_lineAt 90 = .ok (.ireturn, 1) := by decide +kernel
theorem d_M_holds_0 : decode b_M_holds 0 = .ok (.aload_n 0, 1) := by decide +kernel
theorem d_M_holds_1 : decode b_M_holds 1 = .ok (.aload_n 0, 1) := by decide +kernel
theorem d_M_holds_2 : decode b_M_holds 2 = .ok (.iload_n 1, 1) := by decide +kernel
theorem d_M_holds_3 : decode b_M_holds 3 = .ok (.invokevirtual 51, 3) := by decide +kernel
theorem d_M_holds_6 : decode b_M_holds 6 = .ok (.ifCond .eq 7, 3) := by decide +kernel
theorem d_M_holds_9 : decode b_M_holds 9 = .ok (.iconst 0, 1) := by decide +kernel
theorem d_M_holds_10 : decode b_M_holds 10 = .ok (.goto 4, 3) := by decide +kernel
theorem d_M_holds_13 : decode b_M_holds 13 = .ok (.iconst 1, 1) := by decide +kernel
theorem d_M_holds_14 : decode b_M_holds 14 = .ok (.putfield 45, 3) := by decide +kernel
theorem d_M_holds_17 : decode b_M_holds 17 = .ok (.aload_n 0, 1) := by decide +kernel
theorem d_M_holds_18 : decode b_M_holds 18 = .ok (.getfield 45, 3) := by decide +kernel
theorem d_M_holds_21 : decode b_M_holds 21 = .ok (.ifCond .le 5, 3) := by decide +kernel
theorem d_M_holds_24 : decode b_M_holds 24 = .ok (.iconst 0, 1) := by decide +kernel
theorem d_M_holds_25 : decode b_M_holds 25 = .ok (.ireturn, 1) := by decide +kernel
theorem d_M_holds_26 : decode b_M_holds 26 = .ok (.iconst 0, 1) := by decide +kernel
theorem d_M_holds_27 : decode b_M_holds 27 = .ok (.istore 4, 2) := by decide +kernel
theorem d_M_holds_29 : decode b_M_holds 29 = .ok (.aload_n 0, 1) := by decide +kernel
theorem d_M_holds_30 : decode b_M_holds 30 = .ok (.getfield 29, 3) := by decide +kernel
theorem d_M_holds_33 : decode b_M_holds 33 = .ok (.iconst 0, 1) := by decide +kernel
theorem d_M_holds_34 : decode b_M_holds 34 = .ok (.iconst 0, 1) := by decide +kernel
theorem d_M_holds_35 : decode b_M_holds 35 = .ok (.iastore, 1) := by decide +kernel
theorem d_M_holds_36 : decode b_M_holds 36 = .ok (.iconst 1, 1) := by decide +kernel
theorem d_M_holds_37 : decode b_M_holds 37 = .ok (.istore 5, 2) := by decide +kernel
theorem d_M_holds_39 : decode b_M_holds 39 = .ok (.iload 5, 2) := by decide +kernel
theorem d_M_holds_41 : decode b_M_holds 41 = .ok (.aload_n 0, 1) := by decide +kernel
theorem d_M_holds_42 : decode b_M_holds 42 = .ok (.getfield 41, 3) := by decide +kernel
theorem d_M_holds_45 : decode b_M_holds 45 = .ok (.if_icmp .ge 106, 3) := by decide +kernel
theorem d_M_holds_48 : decode b_M_holds 48 = .ok (.aload_n 0, 1) := by decide +kernel
theorem d_M_holds_49 : decode b_M_holds 49 = .ok (.getfield 7, 3) := by decide +kernel
theorem d_M_holds_52 : decode b_M_holds 52 = .ok (.iload 5, 2) := by decide +kernel
theorem d_M_holds_54 : decode b_M_holds 54 = .ok (.iaload, 1) := by decide +kernel
theorem d_M_holds_55 : decode b_M_holds 55 = .ok (.ifCond .ne 23, 3) := by decide +kernel
theorem d_M_holds_58 : decode b_M_holds 58 = .ok (.aload_n 0, 1) := by decide +kernel
theorem d_M_holds_59 : decode b_M_holds 59 = .ok (.getfield 29, 3) := by decide +kernel
theorem d_M_holds_62 : decode b_M_holds 62 = .ok (.iload 5, 2) := by decide +kernel
theorem d_M_holds_64 : decode b_M_holds 64 = .ok (.lload_n 2, 1) := by decide +kernel
theorem d_M_holds_65 : decode b_M_holds 65 = .ok (.iload 4, 2) := by decide +kernel
theorem d_M_holds_67 : decode b_M_holds 67 = .ok (.lushr, 1) := by decide +kernel
theorem d_M_holds_68 : decode b_M_holds 68 = .ok (.lconst 1, 1) := by decide +kernel
theorem d_M_holds_69 : decode b_M_holds 69 = .ok (.land, 1) := by decide +kernel
theorem d_M_holds_70 : decode b_M_holds 70 = .ok (.l2i, 1) := by decide +kernel
theorem d_M_holds_71 : decode b_M_holds 71 = .ok (.iastore, 1) := by decide +kernel
theorem d_M_holds_72 : decode b_M_holds 72 = .ok (.iinc 4 1, 3) := by decide +kernel
theorem d_M_holds_75 : decode b_M_holds 75 = .ok (.goto 70, 3) := by decide +kernel
theorem d_M_holds_78 : decode b_M_holds 78 = .ok (.aload_n 0, 1) := by decide +kernel
theorem d_M_holds_79 : decode b_M_holds 79 = .ok (.getfield 29, 3) := by decide +kernel
theorem d_M_holds_82 : decode b_M_holds 82 = .ok (.iload 5, 2) := by decide +kernel
theorem d_M_holds_84 : decode b_M_holds 84 = .ok (.aload_n 0, 1) := by decide +kernel
theorem d_M_holds_85 : decode b_M_holds 85 = .ok (.getfield 7, 3) := by decide +kernel
theorem d_M_holds_88 : decode b_M_holds 88 = .ok (.iload 5, 2) := by decide +kernel
theorem d_M_holds_90 : decode b_M_holds 90 = .ok (.iaload, 1) := by decide +kernel
theorem d_M_holds_91 : decode b_M_holds 91 = .ok (.iconst 1, 1) := by decide +kernel
theorem d_M_holds_92 : decode b_M_holds 92 = .ok (.if_icmp .ne 29, 3) := by decide +kernel
theorem d_M_holds_95 : decode b_M_holds 95 = .ok (.aload_n 0, 1) := by decide +kernel
theorem d_M_holds_96 : decode b_M_holds 96 = .ok (.aload_n 0, 1) := by decide +kernel
theorem d_M_holds_97 : decode b_M_holds 97 = .ok (.getfield 13, 3) := by decide +kernel
theorem d_M_holds_100 : decode b_M_holds 100 = .ok (.iload 5, 2) := by decide +kernel
theorem d_M_holds_102 : decode b_M_holds 102 = .ok (.iaload, 1) := by decide +kernel
theorem d_M_holds_103 : decode b_M_holds 103 = .ok (.invokevirtual 66, 3) := by decide +kernel
theorem d_M_holds_106 : decode b_M_holds 106 = .ok (.aload_n 0, 1) := by decide +kernel
theorem d_M_holds_107 : decode b_M_holds 107 = .ok (.aload_n 0, 1) := by decide +kernel
theorem d_M_holds_108 : decode b_M_holds 108 = .ok (.getfield 16, 3) := by decide +kernel
theorem d_M_holds_111 : decode b_M_holds 111 = .ok (.iload 5, 2) := by decide +kernel
theorem d_M_holds_113 : decode b_M_holds 113 = .ok (.iaload, 1) := by decide +kernel
theorem d_M_holds_114 : decode b_M_holds 114 = .ok (.invokevirtual 66, 3) := by decide +kernel
theorem d_M_holds_117 : decode b_M_holds 117 = .ok (.iand, 1) := by decide +kernel
theorem d_M_holds_118 : decode b_M_holds 118 = .ok (.goto 26, 3) := by decide +kernel
theorem d_M_holds_121 : decode b_M_holds 121 = .ok (.aload_n 0, 1) := by decide +kernel
theorem d_M_holds_122 : decode b_M_holds 122 = .ok (.aload_n 0, 1) := by decide +kernel
theorem d_M_holds_123 : decode b_M_holds 123 = .ok (.getfield 13, 3) := by decide +kernel
theorem d_M_holds_126 : decode b_M_holds 126 = .ok (.iload 5, 2) := by decide +kernel
theorem d_M_holds_128 : decode b_M_holds 128 = .ok (.iaload, 1) := by decide +kernel
theorem d_M_holds_129 : decode b_M_holds 129 = .ok (.invokevirtual 66, 3) := by decide +kernel
theorem d_M_holds_132 : decode b_M_holds 132 = .ok (.aload_n 0, 1) := by decide +kernel
theorem d_M_holds_133 : decode b_M_holds 133 = .ok (.aload_n 0, 1) := by decide +kernel
theorem d_M_holds_134 : decode b_M_holds 134 = .ok (.getfield 16, 3) := by decide +kernel
theorem d_M_holds_137 : decode b_M_holds 137 = .ok (.iload 5, 2) := by decide +kernel
theorem d_M_holds_139 : decode b_M_holds 139 = .ok (.iaload, 1) := by decide +kernel
theorem d_M_holds_140 : decode b_M_holds 140 = .ok (.invokevirtual 66, 3) := by decide +kernel
theorem d_M_holds_143 : decode b_M_holds 143 = .ok (.ixor, 1) := by decide +kernel
theorem d_M_holds_144 : decode b_M_holds 144 = .ok (.iastore, 1) := by decide +kernel
theorem d_M_holds_145 : decode b_M_holds 145 = .ok (.iinc 5 1, 3) := by decide +kernel
theorem d_M_holds_148 : decode b_M_holds 148 = .ok (.goto (-109), 3) := by decide +kernel
theorem d_M_holds_151 : decode b_M_holds 151 = .ok (.aload_n 0, 1) := by decide +kernel
theorem d_M_holds_152 : decode b_M_holds 152 = .ok (.iload_n 1, 1) := by decide +kernel
theorem d_M_holds_153 : decode b_M_holds 153 = .ok (.invokevirtual 66, 3) := by decide +kernel
theorem d_M_holds_156 : decode b_M_holds 156 = .ok (.iconst 1, 1) := by decide +kernel
theorem d_M_holds_157 : decode b_M_holds 157 = .ok (.if_icmp .ne 7, 3) := by decide +kernel
theorem d_M_holds_160 : decode b_M_holds 160 = .ok (.iconst 1, 1) := by decide +kernel
theorem d_M_holds_161 : decode b_M_holds 161 = .ok (.goto 4, 3) := by decide +kernel
theorem d_M_holds_164 : decode b_M_holds 164 = .ok (.iconst 0, 1) := by decide +kernel
theorem d_M_holds_165 : decode b_M_holds 165 = .ok (.ireturn, 1) := by decide +kernel
theorem d_M_inputs_0 : decode b_M_inputs 0 = .ok (.iconst 0, 1) := by decide +kernel
theorem d_M_inputs_1 : decode b_M_inputs 1 = .ok (.istore_n 1, 1) := by decide +kernel
theorem d_M_inputs_2 : decode b_M_inputs 2 = .ok (.iconst 1, 1) := by decide +kernel
theorem d_M_inputs_3 : decode b_M_inputs 3 = .ok (.istore_n 2, 1) := by decide +kernel
theorem d_M_inputs_4 : decode b_M_inputs 4 = .ok (.iload_n 2, 1) := by decide +kernel
theorem d_M_inputs_5 : decode b_M_inputs 5 = .ok (.aload_n 0, 1) := by decide +kernel
theorem d_M_inputs_6 : decode b_M_inputs 6 = .ok (.getfield 41, 3) := by decide +kernel
theorem d_M_inputs_9 : decode b_M_inputs 9 = .ok (.if_icmp .ge 26, 3) := by decide +kernel
theorem d_M_inputs_12 : decode b_M_inputs 12 = .ok (.aload_n 0, 1) := by decide +kernel
theorem d_M_inputs_13 : decode b_M_inputs 13 = .ok (.getfield 7, 3) := by decide +kernel
theorem d_M_inputs_16 : decode b_M_inputs 16 = .ok (.iload_n 2, 1) := by decide +kernel
theorem d_M_inputs_17 : decode b_M_inputs 17 = .ok (.iaload, 1) := by decide +kernel
theorem d_M_inputs_18 : decode b_M_inputs 18 = .ok (.ifCond .ne 9, 3) := by decide +kernel
theorem d_M_inputs_21 : decode b_M_inputs 21 = .ok (.iload_n 1, 1) := by decide +kernel
theorem d_M_inputs_22 : decode b_M_inputs 22 = .ok (.iconst 1, 1) := by decide +kernel
theorem d_M_inputs_23 : decode b_M_inputs 23 = .ok (.iadd, 1) := by decide +kernel
theorem d_M_inputs_24 : decode b_M_inputs 24 = .ok (.goto 4, 3) := by decide +kernel
theorem d_M_inputs_27 : decode b_M_inputs 27 = .ok (.iload_n 1, 1) := by decide +kernel
theorem d_M_inputs_28 : decode b_M_inputs 28 = .ok (.istore_n 1, 1) := by decide +kernel
theorem d_M_inputs_29 : decode b_M_inputs 29 = .ok (.iinc 2 1, 3) := by decide +kernel
theorem d_M_inputs_32 : decode b_M_inputs 32 = .ok (.goto (-28), 3) := by decide +kernel
theorem d_M_inputs_35 : decode b_M_inputs 35 = .ok (.iload_n 1, 1) := by decide +kernel
theorem d_M_inputs_36 : decode b_M_inputs 36 = .ok (.ireturn, 1) := by decide +kernel
theorem d_M_byteAt_0 : decode b_M_byteAt 0 = .ok (.iconst 0, 1) := by decide +kernel
theorem d_M_byteAt_1 : decode b_M_byteAt 1 = .ok (.istore_n 2, 1) := by decide +kernel
theorem d_M_byteAt_2 : decode b_M_byteAt 2 = .ok (.iconst 0, 1) := by decide +kernel
theorem d_M_byteAt_3 : decode b_M_byteAt 3 = .ok (.istore_n 3, 1) := by decide +kernel
theorem d_M_byteAt_4 : decode b_M_byteAt 4 = .ok (.iload_n 3, 1) := by decide +kernel
theorem d_M_byteAt_5 : decode b_M_byteAt 5 = .ok (.aload_n 0, 1) := by decide +kernel
theorem d_M_byteAt_6 : decode b_M_byteAt 6 = .ok (.getfield 48, 3) := by decide +kernel
theorem d_M_byteAt_9 : decode b_M_byteAt 9 = .ok (.if_icmp .ge 187, 3) := by decide +kernel
theorem d_M_byteAt_12 : decode b_M_byteAt 12 = .ok (.iload_n 1, 1) := by decide +kernel
theorem d_M_byteAt_13 : decode b_M_byteAt 13 = .ok (.iload_n 2, 1) := by decide +kernel
theorem d_M_byteAt_14 : decode b_M_byteAt 14 = .ok (.if_icmp .ne 20, 3) := by decide +kernel
theorem d_M_byteAt_17 : decode b_M_byteAt 17 = .ok (.aload_n 0, 1) := by decide +kernel
theorem d_M_byteAt_18 : decode b_M_byteAt 18 = .ok (.getfield 19, 3) := by decide +kernel
theorem d_M_byteAt_21 : decode b_M_byteAt 21 = .ok (.iload_n 3, 1) := by decide +kernel
theorem d_M_byteAt_22 : decode b_M_byteAt 22 = .ok (.baload, 1) := by decide +kernel
theorem d_M_byteAt_23 : decode b_M_byteAt 23 = .ok (.ifCond .eq 8, 3) := by decide +kernel
theorem d_M_byteAt_26 : decode b_M_byteAt 26 = .ok (.bipush 61, 2) := by decide +kernel
theorem d_M_byteAt_28 : decode b_M_byteAt 28 = .ok (.goto 5, 3) := by decide +kernel
theorem d_M_byteAt_31 : decode b_M_byteAt 31 = .ok (.bipush 99, 2) := by decide +kernel
theorem d_M_byteAt_33 : decode b_M_byteAt 33 = .ok (.ireturn, 1) := by decide +kernel
theorem d_M_byteAt_34 : decode b_M_byteAt 34 = .ok (.iinc 2 1, 3) := by decide +kernel
theorem d_M_byteAt_37 : decode b_M_byteAt 37 = .ok (.iconst 0, 1) := by decide +kernel
theorem d_M_byteAt_38 : decode b_M_byteAt 38 = .ok (.istore 4, 2) := by decide +kernel
theorem d_M_byteAt_40 : decode b_M_byteAt 40 = .ok (.iload 4, 2) := by decide +kernel
theorem d_M_byteAt_42 : decode b_M_byteAt 42 = .ok (.aload_n 0, 1) := by decide +kernel
theorem d_M_byteAt_43 : decode b_M_byteAt 43 = .ok (.getfield 23, 3) := by decide +kernel
theorem d_M_byteAt_46 : decode b_M_byteAt 46 = .ok (.iload_n 3, 1) := by decide +kernel
theorem d_M_byteAt_47 : decode b_M_byteAt 47 = .ok (.iaload, 1) := by decide +kernel
theorem d_M_byteAt_48 : decode b_M_byteAt 48 = .ok (.if_icmp .ge 131, 3) := by decide +kernel
theorem d_M_byteAt_51 : decode b_M_byteAt 51 = .ok (.aload_n 0, 1) := by decide +kernel
theorem d_M_byteAt_52 : decode b_M_byteAt 52 = .ok (.getfield 26, 3) := by decide +kernel
theorem d_M_byteAt_55 : decode b_M_byteAt 55 = .ok (.bipush 6, 2) := by decide +kernel
theorem d_M_byteAt_57 : decode b_M_byteAt 57 = .ok (.iload_n 3, 1) := by decide +kernel
theorem d_M_byteAt_58 : decode b_M_byteAt 58 = .ok (.imul, 1) := by decide +kernel
theorem d_M_byteAt_59 : decode b_M_byteAt 59 = .ok (.iload 4, 2) := by decide +kernel
theorem d_M_byteAt_61 : decode b_M_byteAt 61 = .ok (.iadd, 1) := by decide +kernel
theorem d_M_byteAt_62 : decode b_M_byteAt 62 = .ok (.iaload, 1) := by decide +kernel
theorem d_M_byteAt_63 : decode b_M_byteAt 63 = .ok (.istore 5, 2) := by decide +kernel
theorem d_M_byteAt_65 : decode b_M_byteAt 65 = .ok (.iload 5, 2) := by decide +kernel
theorem d_M_byteAt_67 : decode b_M_byteAt 67 = .ok (.iconst 2, 1) := by decide +kernel
theorem d_M_byteAt_68 : decode b_M_byteAt 68 = .ok (.idiv, 1) := by decide +kernel
theorem d_M_byteAt_69 : decode b_M_byteAt 69 = .ok (.istore 6, 2) := by decide +kernel
theorem d_M_byteAt_71 : decode b_M_byteAt 71 = .ok (.iload 6, 2) := by decide +kernel
theorem d_M_byteAt_73 : decode b_M_byteAt 73 = .ok (.bipush 9, 2) := by decide +kernel
theorem d_M_byteAt_75 : decode b_M_byteAt 75 = .ok (.if_icmp .le 7, 3) := by decide +kernel
theorem d_M_byteAt_78 : decode b_M_byteAt 78 = .ok (.iconst 2, 1) := by decide +kernel
theorem d_M_byteAt_79 : decode b_M_byteAt 79 = .ok (.goto 4, 3) := by decide +kernel
theorem d_M_byteAt_82 : decode b_M_byteAt 82 = .ok (.iconst 1, 1) := by decide +kernel
theorem d_M_byteAt_83 : decode b_M_byteAt 83 = .ok (.istore 7, 2) := by decide +kernel
theorem d_M_byteAt_85 : decode b_M_byteAt 85 = .ok (.iload_n 1, 1) := by decide +kernel
theorem d_M_byteAt_86 : decode b_M_byteAt 86 = .ok (.iload_n 2, 1) := by decide +kernel
theorem d_M_byteAt_87 : decode b_M_byteAt 87 = .ok (.isub, 1) := by decide +kernel
theorem d_M_byteAt_88 : decode b_M_byteAt 88 = .ok (.istore 8, 2) := by decide +kernel
theorem d_M_byteAt_90 : decode b_M_byteAt 90 = .ok (.iload 8, 2) := by decide +kernel
theorem d_M_byteAt_92 : decode b_M_byteAt 92 = .ok (.ifCond .lt 74, 3) := by decide +kernel
theorem d_M_byteAt_95 : decode b_M_byteAt 95 = .ok (.iload 8, 2) := by decide +kernel
theorem d_M_byteAt_97 : decode b_M_byteAt 97 = .ok (.iconst 2, 1) := by decide +kernel
theorem d_M_byteAt_98 : decode b_M_byteAt 98 = .ok (.iload 7, 2) := by decide +kernel
theorem d_M_byteAt_100 : decode b_M_byteAt 100 = .ok (.iadd, 1) := by decide +kernel
theorem d_M_byteAt_101 : decode b_M_byteAt 101 = .ok (.if_icmp .ge 65, 3) := by decide +kernel
theorem d_M_byteAt_104 : decode b_M_byteAt 104 = .ok (.iload 8, 2) := by decide +kernel
theorem d_M_byteAt_106 : decode b_M_byteAt 106 = .ok (.ifCond .ne 8, 3) := by decide +kernel
theorem d_M_byteAt_109 : decode b_M_byteAt 109 = .ok (.bipush 32, 2) := by decide +kernel
theorem d_M_byteAt_111 : decode b_M_byteAt 111 = .ok (.goto 54, 3) := by decide +kernel
theorem d_M_byteAt_114 : decode b_M_byteAt 114 = .ok (.iload 8, 2) := by decide +kernel
theorem d_M_byteAt_116 : decode b_M_byteAt 116 = .ok (.iconst 1, 1) := by decide +kernel
theorem d_M_byteAt_117 : decode b_M_byteAt 117 = .ok (.if_icmp .ne 20, 3) := by decide +kernel
theorem d_M_byteAt_120 : decode b_M_byteAt 120 = .ok (.iload 5, 2) := by decide +kernel
theorem d_M_byteAt_122 : decode b_M_byteAt 122 = .ok (.iconst 2, 1) := by decide +kernel
theorem d_M_byteAt_123 : decode b_M_byteAt 123 = .ok (.irem, 1) := by decide +kernel
theorem d_M_byteAt_124 : decode b_M_byteAt 124 = .ok (.ifCond .ne 8, 3) := by decide +kernel
theorem d_M_byteAt_127 : decode b_M_byteAt 127 = .ok (.bipush 43, 2) := by decide +kernel
theorem d_M_byteAt_129 : decode b_M_byteAt 129 = .ok (.goto 36, 3) := by decide +kernel
theorem d_M_byteAt_132 : decode b_M_byteAt 132 = .ok (.bipush 45, 2) := by decide +kernel
theorem d_M_byteAt_134 : decode b_M_byteAt 134 = .ok (.goto 31, 3) := by decide +kernel
theorem d_M_byteAt_137 : decode b_M_byteAt 137 = .ok (.bipush 48, 2) := by decide +kernel
theorem d_M_byteAt_139 : decode b_M_byteAt 139 = .ok (.iload 7, 2) := by decide +kernel
theorem d_M_byteAt_141 : decode b_M_byteAt 141 = .ok (.iconst 2, 1) := by decide +kernel
theorem d_M_byteAt_142 : decode b_M_byteAt 142 = .ok (.if_icmp .ne 17, 3) := by decide +kernel
theorem d_M_byteAt_145 : decode b_M_byteAt 145 = .ok (.iload 8, 2) := by decide +kernel
theorem d_M_byteAt_147 : decode b_M_byteAt 147 = .ok (.iconst 2, 1) := by decide +kernel
theorem d_M_byteAt_148 : decode b_M_byteAt 148 = .ok (.if_icmp .ne 11, 3) := by decide +kernel
theorem d_M_byteAt_151 : decode b_M_byteAt 151 = .ok (.iload 6, 2) := by decide +kernel
theorem d_M_byteAt_153 : decode b_M_byteAt 153 = .ok (.bipush 10, 2) := by decide +kernel
theorem d_M_byteAt_155 : decode b_M_byteAt 155 = .ok (.idiv, 1) := by decide +kernel
theorem d_M_byteAt_156 : decode b_M_byteAt 156 = .ok (.goto 8, 3) := by decide +kernel
theorem d_M_byteAt_159 : decode b_M_byteAt 159 = .ok (.iload 6, 2) := by decide +kernel
theorem d_M_byteAt_161 : decode b_M_byteAt 161 = .ok (.bipush 10, 2) := by decide +kernel
theorem d_M_byteAt_163 : decode b_M_byteAt 163 = .ok (.irem, 1) := by decide +kernel
theorem d_M_byteAt_164 : decode b_M_byteAt 164 = .ok (.iadd, 1) := by decide +kernel
theorem d_M_byteAt_165 : decode b_M_byteAt 165 = .ok (.ireturn, 1) := by decide +kernel
theorem d_M_byteAt_166 : decode b_M_byteAt 166 = .ok (.iload_n 2, 1) := by decide +kernel
theorem d_M_byteAt_167 : decode b_M_byteAt 167 = .ok (.iconst 2, 1) := by decide +kernel
theorem d_M_byteAt_168 : decode b_M_byteAt 168 = .ok (.iadd, 1) := by decide +kernel
theorem d_M_byteAt_169 : decode b_M_byteAt 169 = .ok (.iload 7, 2) := by decide +kernel
theorem d_M_byteAt_171 : decode b_M_byteAt 171 = .ok (.iadd, 1) := by decide +kernel
theorem d_M_byteAt_172 : decode b_M_byteAt 172 = .ok (.istore_n 2, 1) := by decide +kernel
theorem d_M_byteAt_173 : decode b_M_byteAt 173 = .ok (.iinc 4 1, 3) := by decide +kernel
theorem d_M_byteAt_176 : decode b_M_byteAt 176 = .ok (.goto (-136), 3) := by decide +kernel
theorem d_M_byteAt_179 : decode b_M_byteAt 179 = .ok (.iload_n 1, 1) := by decide +kernel
theorem d_M_byteAt_180 : decode b_M_byteAt 180 = .ok (.iload_n 2, 1) := by decide +kernel
theorem d_M_byteAt_181 : decode b_M_byteAt 181 = .ok (.if_icmp .ne 6, 3) := by decide +kernel
theorem d_M_byteAt_184 : decode b_M_byteAt 184 = .ok (.bipush 10, 2) := by decide +kernel
theorem d_M_byteAt_186 : decode b_M_byteAt 186 = .ok (.ireturn, 1) := by decide +kernel
theorem d_M_byteAt_187 : decode b_M_byteAt 187 = .ok (.iinc 2 1, 3) := by decide +kernel
theorem d_M_byteAt_190 : decode b_M_byteAt 190 = .ok (.iinc 3 1, 3) := by decide +kernel
theorem d_M_byteAt_193 : decode b_M_byteAt 193 = .ok (.goto (-189), 3) := by decide +kernel
theorem d_M_byteAt_196 : decode b_M_byteAt 196 = .ok (.aload_n 0, 1) := by decide +kernel
theorem d_M_byteAt_197 : decode b_M_byteAt 197 = .ok (.iload_n 2, 1) := by decide +kernel
theorem d_M_byteAt_198 : decode b_M_byteAt 198 = .ok (.putfield 112, 3) := by decide +kernel
theorem d_M_byteAt_201 : decode b_M_byteAt 201 = .ok (.iconst (-1), 1) := by decide +kernel
theorem d_M_byteAt_202 : decode b_M_byteAt 202 = .ok (.ireturn, 1) := by decide +kernel
theorem d_M_text_0 : decode b_M_text 0 = .ok (.iload_n 1, 1) := by decide +kernel
theorem d_M_text_1 : decode b_M_text 1 = .ok (.ifCond .ge 7, 3) := by decide +kernel
theorem d_M_text_4 : decode b_M_text 4 = .ok (.iconst (-1), 1) := by decide +kernel
theorem d_M_text_5 : decode b_M_text 5 = .ok (.goto 8, 3) := by decide +kernel
theorem d_M_text_8 : decode b_M_text 8 = .ok (.aload_n 0, 1) := by decide +kernel
theorem d_M_text_9 : decode b_M_text 9 = .ok (.iload_n 1, 1) := by decide +kernel
theorem d_M_text_10 : decode b_M_text 10 = .ok (.invokevirtual 115, 3) := by decide +kernel
theorem d_M_text_13 : decode b_M_text 13 = .ok (.istore_n 2, 1) := by decide +kernel
theorem d_M_text_14 : decode b_M_text 14 = .ok (.aload_n 0, 1) := by decide +kernel
theorem d_M_text_15 : decode b_M_text 15 = .ok (.iload_n 2, 1) := by decide +kernel
theorem d_M_text_16 : decode b_M_text 16 = .ok (.ifCond .ge 7, 3) := by decide +kernel
theorem d_M_text_19 : decode b_M_text 19 = .ok (.iconst 1, 1) := by decide +kernel
theorem d_M_text_20 : decode b_M_text 20 = .ok (.goto 4, 3) := by decide +kernel
theorem d_M_text_23 : decode b_M_text 23 = .ok (.iconst 0, 1) := by decide +kernel
theorem d_M_text_24 : decode b_M_text 24 = .ok (.putfield 45, 3) := by decide +kernel
theorem d_M_text_27 : decode b_M_text 27 = .ok (.iload_n 2, 1) := by decide +kernel
theorem d_M_text_28 : decode b_M_text 28 = .ok (.ifCond .ge 7, 3) := by decide +kernel
theorem d_M_text_31 : decode b_M_text 31 = .ok (.iconst 0, 1) := by decide +kernel
theorem d_M_text_32 : decode b_M_text 32 = .ok (.goto 4, 3) := by decide +kernel
theorem d_M_text_35 : decode b_M_text 35 = .ok (.iload_n 2, 1) := by decide +kernel
theorem d_M_text_36 : decode b_M_text 36 = .ok (.ireturn, 1) := by decide +kernel
theorem d_M_count_0 : decode b_M_count 0 = .ok (.aload_n 0, 1) := by decide +kernel
theorem d_M_count_1 : decode b_M_count 1 = .ok (.iload_n 1, 1) := by decide +kernel
theorem d_M_count_2 : decode b_M_count 2 = .ok (.ifCond .lt 12, 3) := by decide +kernel
theorem d_M_count_5 : decode b_M_count 5 = .ok (.iload_n 1, 1) := by decide +kernel
theorem d_M_count_6 : decode b_M_count 6 = .ok (.iconst 4, 1) := by decide +kernel
theorem d_M_count_7 : decode b_M_count 7 = .ok (.if_icmp .gt 7, 3) := by decide +kernel
theorem d_M_count_10 : decode b_M_count 10 = .ok (.iconst 0, 1) := by decide +kernel
theorem d_M_count_11 : decode b_M_count 11 = .ok (.goto 4, 3) := by decide +kernel
theorem d_M_count_14 : decode b_M_count 14 = .ok (.iconst 1, 1) := by decide +kernel
theorem d_M_count_15 : decode b_M_count 15 = .ok (.putfield 45, 3) := by decide +kernel
theorem d_M_count_18 : decode b_M_count 18 = .ok (.aload_n 0, 1) := by decide +kernel
theorem d_M_count_19 : decode b_M_count 19 = .ok (.getfield 45, 3) := by decide +kernel
theorem d_M_count_22 : decode b_M_count 22 = .ok (.ifCond .le 5, 3) := by decide +kernel
theorem d_M_count_25 : decode b_M_count 25 = .ok (.iconst 0, 1) := by decide +kernel
theorem d_M_count_26 : decode b_M_count 26 = .ok (.ireturn, 1) := by decide +kernel
theorem d_M_count_27 : decode b_M_count 27 = .ok (.iload_n 1, 1) := by decide +kernel
theorem d_M_count_28 : decode b_M_count 28 = .ok (.iconst 4, 1) := by decide +kernel
theorem d_M_count_29 : decode b_M_count 29 = .ok (.if_icmp .ne 15, 3) := by decide +kernel
theorem d_M_count_32 : decode b_M_count 32 = .ok (.aload_n 0, 1) := by decide +kernel
theorem d_M_count_33 : decode b_M_count 33 = .ok (.ldc 118, 2) := by decide +kernel
theorem d_M_count_35 : decode b_M_count 35 = .ok (.invokevirtual 115, 3) := by decide +kernel
theorem d_M_count_38 : decode b_M_count 38 = .ok (.pop, 1) := by decide +kernel
theorem d_M_count_39 : decode b_M_count 39 = .ok (.aload_n 0, 1) := by decide +kernel
theorem d_M_count_40 : decode b_M_count 40 = .ok (.getfield 112, 3) := by decide +kernel
theorem d_M_count_43 : decode b_M_count 43 = .ok (.ireturn, 1) := by decide +kernel
theorem d_M_count_44 : decode b_M_count 44 = .ok (.iload_n 1, 1) := by decide +kernel
theorem d_M_count_45 : decode b_M_count 45 = .ok (.ifCond .ne 10, 3) := by decide +kernel
theorem d_M_count_48 : decode b_M_count 48 = .ok (.aload_n 0, 1) := by decide +kernel
theorem d_M_count_49 : decode b_M_count 49 = .ok (.getfield 41, 3) := by decide +kernel
theorem d_M_count_52 : decode b_M_count 52 = .ok (.goto 31, 3) := by decide +kernel
theorem d_M_count_55 : decode b_M_count 55 = .ok (.iload_n 1, 1) := by decide +kernel
theorem d_M_count_56 : decode b_M_count 56 = .ok (.iconst 1, 1) := by decide +kernel
theorem d_M_count_57 : decode b_M_count 57 = .ok (.if_icmp .ne 10, 3) := by decide +kernel
theorem d_M_count_60 : decode b_M_count 60 = .ok (.aload_n 0, 1) := by decide +kernel
theorem d_M_count_61 : decode b_M_count 61 = .ok (.invokevirtual 119, 3) := by decide +kernel
theorem d_M_count_64 : decode b_M_count 64 = .ok (.goto 19, 3) := by decide +kernel
theorem d_M_count_67 : decode b_M_count 67 = .ok (.iload_n 1, 1) := by decide +kernel
theorem d_M_count_68 : decode b_M_count 68 = .ok (.iconst 2, 1) := by decide +kernel
theorem d_M_count_69 : decode b_M_count 69 = .ok (.if_icmp .ne 10, 3) := by decide +kernel
theorem d_M_count_72 : decode b_M_count 72 = .ok (.aload_n 0, 1) := by decide +kernel
theorem d_M_count_73 : decode b_M_count 73 = .ok (.getfield 48, 3) := by decide +kernel
theorem d_M_count_76 : decode b_M_count 76 = .ok (.goto 7, 3) := by decide +kernel
theorem d_M_count_79 : decode b_M_count 79 = .ok (.aload_n 0, 1) := by decide +kernel
theorem d_M_count_80 : decode b_M_count 80 = .ok (.getfield 123, 3) := by decide +kernel
theorem d_M_count_83 : decode b_M_count 83 = .ok (.ireturn, 1) := by decide +kernel
theorem d_M_clear_0 : decode b_M_clear 0 = .ok (.aload_n 0, 1) := by decide +kernel
theorem d_M_clear_1 : decode b_M_clear 1 = .ok (.iconst 0, 1) := by decide +kernel
theorem d_M_clear_2 : decode b_M_clear 2 = .ok (.putfield 45, 3) := by decide +kernel
theorem d_M_clear_5 : decode b_M_clear 5 = .ok (.aload_n 0, 1) := by decide +kernel
theorem d_M_clear_6 : decode b_M_clear 6 = .ok (.iconst 0, 1) := by decide +kernel
theorem d_M_clear_7 : decode b_M_clear 7 = .ok (.putfield 48, 3) := by decide +kernel
theorem d_M_clear_10 : decode b_M_clear 10 = .ok (.return_, 1) := by decide +kernel
theorem d_M_unit_0 : decode b_M_unit 0 = .ok (.aload_n 0, 1) := by decide +kernel
theorem d_M_unit_1 : decode b_M_unit 1 = .ok (.iconst 0, 1) := by decide +kernel
theorem d_M_unit_2 : decode b_M_unit 2 = .ok (.putfield 45, 3) := by decide +kernel
theorem d_M_unit_5 : decode b_M_unit 5 = .ok (.aload_n 0, 1) := by decide +kernel
theorem d_M_unit_6 : decode b_M_unit 6 = .ok (.getfield 123, 3) := by decide +kernel
theorem d_M_unit_9 : decode b_M_unit 9 = .ok (.sipush 1000, 3) := by decide +kernel
theorem d_M_unit_12 : decode b_M_unit 12 = .ok (.if_icmp .ge 7, 3) := by decide +kernel
theorem d_M_unit_15 : decode b_M_unit 15 = .ok (.iconst 1, 1) := by decide +kernel
theorem d_M_unit_16 : decode b_M_unit 16 = .ok (.goto 4, 3) := by decide +kernel
theorem d_M_unit_19 : decode b_M_unit 19 = .ok (.iconst 0, 1) := by decide +kernel
theorem d_M_unit_20 : decode b_M_unit 20 = .ok (.istore_n 2, 1) := by decide +kernel
theorem d_M_unit_21 : decode b_M_unit 21 = .ok (.iload_n 2, 1) := by decide +kernel
theorem d_M_unit_22 : decode b_M_unit 22 = .ok (.ifCond .eq 27, 3) := by decide +kernel
theorem d_M_unit_25 : decode b_M_unit 25 = .ok (.aload_n 0, 1) := by decide +kernel
theorem d_M_unit_26 : decode b_M_unit 26 = .ok (.getfield 32, 3) := by decide +kernel
theorem d_M_unit_29 : decode b_M_unit 29 = .ok (.aload_n 0, 1) := by decide +kernel
theorem d_M_unit_30 : decode b_M_unit 30 = .ok (.getfield 123, 3) := by decide +kernel
theorem d_M_unit_33 : decode b_M_unit 33 = .ok (.iload_n 1, 1) := by decide +kernel
theorem d_M_unit_34 : decode b_M_unit 34 = .ok (.sipush 255, 3) := by decide +kernel
theorem d_M_unit_37 : decode b_M_unit 37 = .ok (.iand, 1) := by decide +kernel
theorem d_M_unit_38 : decode b_M_unit 38 = .ok (.iastore, 1) := by decide +kernel
theorem d_M_unit_39 : decode b_M_unit 39 = .ok (.aload_n 0, 1) := by decide +kernel
theorem d_M_unit_40 : decode b_M_unit 40 = .ok (.dup, 1) := by decide +kernel
theorem d_M_unit_41 : decode b_M_unit 41 = .ok (.getfield 123, 3) := by decide +kernel
theorem d_M_unit_44 : decode b_M_unit 44 = .ok (.iconst 1, 1) := by decide +kernel
theorem d_M_unit_45 : decode b_M_unit 45 = .ok (.iadd, 1) := by decide +kernel
theorem d_M_unit_46 : decode b_M_unit 46 = .ok (.putfield 123, 3) := by decide +kernel
theorem d_M_unit_49 : decode b_M_unit 49 = .ok (.iload_n 2, 1) := by decide +kernel
theorem d_M_unit_50 : decode b_M_unit 50 = .ok (.ireturn, 1) := by decide +kernel
theorem d_M_next_0 : decode b_M_next 0 = .ok (.aload_n 0, 1) := by decide +kernel
theorem d_M_next_1 : decode b_M_next 1 = .ok (.getfield 126, 3) := by decide +kernel
theorem d_M_next_4 : decode b_M_next 4 = .ok (.aload_n 0, 1) := by decide +kernel
theorem d_M_next_5 : decode b_M_next 5 = .ok (.getfield 123, 3) := by decide +kernel
theorem d_M_next_8 : decode b_M_next 8 = .ok (.if_icmp .ge 58, 3) := by decide +kernel
theorem d_M_next_11 : decode b_M_next 11 = .ok (.aload_n 0, 1) := by decide +kernel
theorem d_M_next_12 : decode b_M_next 12 = .ok (.getfield 32, 3) := by decide +kernel
theorem d_M_next_15 : decode b_M_next 15 = .ok (.aload_n 0, 1) := by decide +kernel
theorem d_M_next_16 : decode b_M_next 16 = .ok (.getfield 126, 3) := by decide +kernel
theorem d_M_next_19 : decode b_M_next 19 = .ok (.iaload, 1) := by decide +kernel
theorem d_M_next_20 : decode b_M_next 20 = .ok (.bipush 32, 2) := by decide +kernel
theorem d_M_next_22 : decode b_M_next 22 = .ok (.if_icmp .eq 31, 3) := by decide +kernel
theorem d_M_next_25 : decode b_M_next 25 = .ok (.aload_n 0, 1) := by decide +kernel
theorem d_M_next_26 : decode b_M_next 26 = .ok (.getfield 32, 3) := by decide +kernel
theorem d_M_next_29 : decode b_M_next 29 = .ok (.aload_n 0, 1) := by decide +kernel
theorem d_M_next_30 : decode b_M_next 30 = .ok (.getfield 126, 3) := by decide +kernel
theorem d_M_next_33 : decode b_M_next 33 = .ok (.iaload, 1) := by decide +kernel
theorem d_M_next_34 : decode b_M_next 34 = .ok (.bipush 9, 2) := by decide +kernel
theorem d_M_next_36 : decode b_M_next 36 = .ok (.if_icmp .eq 17, 3) := by decide +kernel
theorem d_M_next_39 : decode b_M_next 39 = .ok (.aload_n 0, 1) := by decide +kernel
theorem d_M_next_40 : decode b_M_next 40 = .ok (.getfield 32, 3) := by decide +kernel
theorem d_M_next_43 : decode b_M_next 43 = .ok (.aload_n 0, 1) := by decide +kernel
theorem d_M_next_44 : decode b_M_next 44 = .ok (.getfield 126, 3) := by decide +kernel
theorem d_M_next_47 : decode b_M_next 47 = .ok (.iaload, 1) := by decide +kernel
theorem d_M_next_48 : decode b_M_next 48 = .ok (.bipush 13, 2) := by decide +kernel
theorem d_M_next_50 : decode b_M_next 50 = .ok (.if_icmp .ne 16, 3) := by decide +kernel
theorem d_M_next_53 : decode b_M_next 53 = .ok (.aload_n 0, 1) := by decide +kernel
theorem d_M_next_54 : decode b_M_next 54 = .ok (.dup, 1) := by decide +kernel
theorem d_M_next_55 : decode b_M_next 55 = .ok (.getfield 126, 3) := by decide +kernel
theorem d_M_next_58 : decode b_M_next 58 = .ok (.iconst 1, 1) := by decide +kernel
theorem d_M_next_59 : decode b_M_next 59 = .ok (.iadd, 1) := by decide +kernel
theorem d_M_next_60 : decode b_M_next 60 = .ok (.putfield 126, 3) := by decide +kernel
theorem d_M_next_63 : decode b_M_next 63 = .ok (.goto (-63), 3) := by decide +kernel
theorem d_M_next_66 : decode b_M_next 66 = .ok (.aload_n 0, 1) := by decide +kernel
theorem d_M_next_67 : decode b_M_next 67 = .ok (.getfield 126, 3) := by decide +kernel
theorem d_M_next_70 : decode b_M_next 70 = .ok (.aload_n 0, 1) := by decide +kernel
theorem d_M_next_71 : decode b_M_next 71 = .ok (.getfield 123, 3) := by decide +kernel
theorem d_M_next_74 : decode b_M_next 74 = .ok (.if_icmp .ge 15, 3) := by decide +kernel
theorem d_M_next_77 : decode b_M_next 77 = .ok (.aload_n 0, 1) := by decide +kernel
theorem d_M_next_78 : decode b_M_next 78 = .ok (.getfield 32, 3) := by decide +kernel
theorem d_M_next_81 : decode b_M_next 81 = .ok (.aload_n 0, 1) := by decide +kernel
theorem d_M_next_82 : decode b_M_next 82 = .ok (.getfield 126, 3) := by decide +kernel
theorem d_M_next_85 : decode b_M_next 85 = .ok (.iaload, 1) := by decide +kernel
theorem d_M_next_86 : decode b_M_next 86 = .ok (.goto 4, 3) := by decide +kernel
theorem d_M_next_89 : decode b_M_next 89 = .ok (.iconst (-1), 1) := by decide +kernel
theorem d_M_next_90 : decode b_M_next 90 = .ok (.ireturn, 1) := by decide +kernel
theorem d_M_readLiteral_0 : decode b_M_readLiteral 0 = .ok (.aload_n 0, 1) := by decide +kernel
theorem d_M_readLiteral_1 : decode b_M_readLiteral 1 = .ok (.getfield 32, 3) := by decide +kernel
theorem d_M_readLiteral_4 : decode b_M_readLiteral 4 = .ok (.aload_n 0, 1) := by decide +kernel
theorem d_M_readLiteral_5 : decode b_M_readLiteral 5 = .ok (.getfield 126, 3) := by decide +kernel
theorem d_M_readLiteral_8 : decode b_M_readLiteral 8 = .ok (.iaload, 1) := by decide +kernel
theorem d_M_readLiteral_9 : decode b_M_readLiteral 9 = .ok (.bipush 45, 2) := by decide +kernel
theorem d_M_readLiteral_11 : decode b_M_readLiteral 11 = .ok (.if_icmp .ne 7, 3) := by decide +kernel
theorem d_M_readLiteral_14 : decode b_M_readLiteral 14 = .ok (.iconst 1, 1) := by decide +kernel
theorem d_M_readLiteral_15 : decode b_M_readLiteral 15 = .ok (.goto 4, 3) := by decide +kernel
theorem d_M_readLiteral_18 : decode b_M_readLiteral 18 = .ok (.iconst 0, 1) := by decide +kernel
theorem d_M_readLiteral_19 : decode b_M_readLiteral 19 = .ok (.istore_n 1, 1) := by decide +kernel
theorem d_M_readLiteral_20 : decode b_M_readLiteral 20 = .ok (.aload_n 0, 1) := by decide +kernel
theorem d_M_readLiteral_21 : decode b_M_readLiteral 21 = .ok (.dup, 1) := by decide +kernel
theorem d_M_readLiteral_22 : decode b_M_readLiteral 22 = .ok (.getfield 126, 3) := by decide +kernel
theorem d_M_readLiteral_25 : decode b_M_readLiteral 25 = .ok (.iconst 1, 1) := by decide +kernel
theorem d_M_readLiteral_26 : decode b_M_readLiteral 26 = .ok (.iadd, 1) := by decide +kernel
theorem d_M_readLiteral_27 : decode b_M_readLiteral 27 = .ok (.putfield 126, 3) := by decide +kernel
theorem d_M_readLiteral_30 : decode b_M_readLiteral 30 = .ok (.aload_n 0, 1) := by decide +kernel
theorem d_M_readLiteral_31 : decode b_M_readLiteral 31 = .ok (.invokevirtual 129, 3) := by decide +kernel
theorem d_M_readLiteral_34 : decode b_M_readLiteral 34 = .ok (.istore_n 2, 1) := by decide +kernel
theorem d_M_readLiteral_35 : decode b_M_readLiteral 35 = .ok (.iconst 0, 1) := by decide +kernel
theorem d_M_readLiteral_36 : decode b_M_readLiteral 36 = .ok (.istore_n 3, 1) := by decide +kernel
theorem d_M_readLiteral_37 : decode b_M_readLiteral 37 = .ok (.iconst 0, 1) := by decide +kernel
theorem d_M_readLiteral_38 : decode b_M_readLiteral 38 = .ok (.istore 4, 2) := by decide +kernel
theorem d_M_readLiteral_40 : decode b_M_readLiteral 40 = .ok (.aload_n 0, 1) := by decide +kernel
theorem d_M_readLiteral_41 : decode b_M_readLiteral 41 = .ok (.getfield 126, 3) := by decide +kernel
theorem d_M_readLiteral_44 : decode b_M_readLiteral 44 = .ok (.aload_n 0, 1) := by decide +kernel
theorem d_M_readLiteral_45 : decode b_M_readLiteral 45 = .ok (.getfield 123, 3) := by decide +kernel
theorem d_M_readLiteral_48 : decode b_M_readLiteral 48 = .ok (.if_icmp .ge 76, 3) := by decide +kernel
theorem d_M_readLiteral_51 : decode b_M_readLiteral 51 = .ok (.aload_n 0, 1) := by decide +kernel
theorem d_M_readLiteral_52 : decode b_M_readLiteral 52 = .ok (.getfield 32, 3) := by decide +kernel
theorem d_M_readLiteral_55 : decode b_M_readLiteral 55 = .ok (.aload_n 0, 1) := by decide +kernel
theorem d_M_readLiteral_56 : decode b_M_readLiteral 56 = .ok (.getfield 126, 3) := by decide +kernel
theorem d_M_readLiteral_59 : decode b_M_readLiteral 59 = .ok (.iaload, 1) := by decide +kernel
theorem d_M_readLiteral_60 : decode b_M_readLiteral 60 = .ok (.bipush 48, 2) := by decide +kernel
theorem d_M_readLiteral_62 : decode b_M_readLiteral 62 = .ok (.if_icmp .lt 62, 3) := by decide +kernel
theorem d_M_readLiteral_65 : decode b_M_readLiteral 65 = .ok (.aload_n 0, 1) := by decide +kernel
theorem d_M_readLiteral_66 : decode b_M_readLiteral 66 = .ok (.getfield 32, 3) := by decide +kernel
theorem d_M_readLiteral_69 : decode b_M_readLiteral 69 = .ok (.aload_n 0, 1) := by decide +kernel
theorem d_M_readLiteral_70 : decode b_M_readLiteral 70 = .ok (.getfield 126, 3) := by decide +kernel
theorem d_M_readLiteral_73 : decode b_M_readLiteral 73 = .ok (.iaload, 1) := by decide +kernel
theorem d_M_readLiteral_74 : decode b_M_readLiteral 74 = .ok (.bipush 57, 2) := by decide +kernel
theorem d_M_readLiteral_76 : decode b_M_readLiteral 76 = .ok (.if_icmp .gt 48, 3) := by decide +kernel
theorem d_M_readLiteral_79 : decode b_M_readLiteral 79 = .ok (.iload_n 3, 1) := by decide +kernel
theorem d_M_readLiteral_80 : decode b_M_readLiteral 80 = .ok (.sipush 1000, 3) := by decide +kernel
theorem d_M_readLiteral_83 : decode b_M_readLiteral 83 = .ok (.if_icmp .le 7, 3) := by decide +kernel
theorem d_M_readLiteral_86 : decode b_M_readLiteral 86 = .ok (.iload_n 3, 1) := by decide +kernel
theorem d_M_readLiteral_87 : decode b_M_readLiteral 87 = .ok (.goto 20, 3) := by decide +kernel
theorem d_M_readLiteral_90 : decode b_M_readLiteral 90 = .ok (.bipush 10, 2) := by decide +kernel
theorem d_M_readLiteral_92 : decode b_M_readLiteral 92 = .ok (.iload_n 3, 1) := by decide +kernel
theorem d_M_readLiteral_93 : decode b_M_readLiteral 93 = .ok (.imul, 1) := by decide +kernel
theorem d_M_readLiteral_94 : decode b_M_readLiteral 94 = .ok (.aload_n 0, 1) := by decide +kernel
theorem d_M_readLiteral_95 : decode b_M_readLiteral 95 = .ok (.getfield 32, 3) := by decide +kernel
theorem d_M_readLiteral_98 : decode b_M_readLiteral 98 = .ok (.aload_n 0, 1) := by decide +kernel
theorem d_M_readLiteral_99 : decode b_M_readLiteral 99 = .ok (.getfield 126, 3) := by decide +kernel
theorem d_M_readLiteral_102 : decode b_M_readLiteral 102 = .ok (.iaload, 1) := by decide +kernel
theorem d_M_readLiteral_103 : decode b_M_readLiteral 103 = .ok (.iadd, 1) := by decide +kernel
theorem d_M_readLiteral_104 : decode b_M_readLiteral 104 = .ok (.bipush 48, 2) := by decide +kernel
theorem d_M_readLiteral_106 : decode b_M_readLiteral 106 = .ok (.isub, 1) := by decide +kernel
theorem d_M_readLiteral_107 : decode b_M_readLiteral 107 = .ok (.istore_n 3, 1) := by decide +kernel
theorem d_M_readLiteral_108 : decode b_M_readLiteral 108 = .ok (.iinc 4 1, 3) := by decide +kernel
theorem d_M_readLiteral_111 : decode b_M_readLiteral 111 = .ok (.aload_n 0, 1) := by decide +kernel
theorem d_M_readLiteral_112 : decode b_M_readLiteral 112 = .ok (.dup, 1) := by decide +kernel
theorem d_M_readLiteral_113 : decode b_M_readLiteral 113 = .ok (.getfield 126, 3) := by decide +kernel
theorem d_M_readLiteral_116 : decode b_M_readLiteral 116 = .ok (.iconst 1, 1) := by decide +kernel
theorem d_M_readLiteral_117 : decode b_M_readLiteral 117 = .ok (.iadd, 1) := by decide +kernel
theorem d_M_readLiteral_118 : decode b_M_readLiteral 118 = .ok (.putfield 126, 3) := by decide +kernel
theorem d_M_readLiteral_121 : decode b_M_readLiteral 121 = .ok (.goto (-81), 3) := by decide +kernel
theorem d_M_readLiteral_124 : decode b_M_readLiteral 124 = .ok (.iload_n 2, 1) := by decide +kernel
theorem d_M_readLiteral_125 : decode b_M_readLiteral 125 = .ok (.iconst (-1), 1) := by decide +kernel
theorem d_M_readLiteral_126 : decode b_M_readLiteral 126 = .ok (.if_icmp .eq 16, 3) := by decide +kernel
theorem d_M_readLiteral_129 : decode b_M_readLiteral 129 = .ok (.iload 4, 2) := by decide +kernel
theorem d_M_readLiteral_131 : decode b_M_readLiteral 131 = .ok (.ifCond .eq 11, 3) := by decide +kernel
theorem d_M_readLiteral_134 : decode b_M_readLiteral 134 = .ok (.iload_n 3, 1) := by decide +kernel
theorem d_M_readLiteral_135 : decode b_M_readLiteral 135 = .ok (.aload_n 0, 1) := by decide +kernel
theorem d_M_readLiteral_136 : decode b_M_readLiteral 136 = .ok (.getfield 41, 3) := by decide +kernel
theorem d_M_readLiteral_139 : decode b_M_readLiteral 139 = .ok (.if_icmp .lt 7, 3) := by decide +kernel
theorem d_M_readLiteral_142 : decode b_M_readLiteral 142 = .ok (.iconst (-1), 1) := by decide +kernel
theorem d_M_readLiteral_143 : decode b_M_readLiteral 143 = .ok (.goto 8, 3) := by decide +kernel
theorem d_M_readLiteral_146 : decode b_M_readLiteral 146 = .ok (.iconst 2, 1) := by decide +kernel
theorem d_M_readLiteral_147 : decode b_M_readLiteral 147 = .ok (.iload_n 3, 1) := by decide +kernel
theorem d_M_readLiteral_148 : decode b_M_readLiteral 148 = .ok (.imul, 1) := by decide +kernel
theorem d_M_readLiteral_149 : decode b_M_readLiteral 149 = .ok (.iload_n 1, 1) := by decide +kernel
theorem d_M_readLiteral_150 : decode b_M_readLiteral 150 = .ok (.iadd, 1) := by decide +kernel
theorem d_M_readLiteral_151 : decode b_M_readLiteral 151 = .ok (.ireturn, 1) := by decide +kernel
theorem d_M_readLine_0 : decode b_M_readLine 0 = .ok (.aload_n 0, 1) := by decide +kernel
theorem d_M_readLine_1 : decode b_M_readLine 1 = .ok (.invokevirtual 129, 3) := by decide +kernel
theorem d_M_readLine_4 : decode b_M_readLine 4 = .ok (.istore_n 2, 1) := by decide +kernel
theorem d_M_readLine_5 : decode b_M_readLine 5 = .ok (.iload_n 2, 1) := by decide +kernel
theorem d_M_readLine_6 : decode b_M_readLine 6 = .ok (.bipush 43, 2) := by decide +kernel
theorem d_M_readLine_8 : decode b_M_readLine 8 = .ok (.if_icmp .eq 9, 3) := by decide +kernel
theorem d_M_readLine_11 : decode b_M_readLine 11 = .ok (.iload_n 2, 1) := by decide +kernel
theorem d_M_readLine_12 : decode b_M_readLine 12 = .ok (.bipush 45, 2) := by decide +kernel
theorem d_M_readLine_14 : decode b_M_readLine 14 = .ok (.if_icmp .ne 84, 3) := by decide +kernel
theorem d_M_readLine_17 : decode b_M_readLine 17 = .ok (.aload_n 0, 1) := by decide +kernel
theorem d_M_readLine_18 : decode b_M_readLine 18 = .ok (.getfield 126, 3) := by decide +kernel
theorem d_M_readLine_21 : decode b_M_readLine 21 = .ok (.istore_n 3, 1) := by decide +kernel
theorem d_M_readLine_22 : decode b_M_readLine 22 = .ok (.aload_n 0, 1) := by decide +kernel
theorem d_M_readLine_23 : decode b_M_readLine 23 = .ok (.getfield 19, 3) := by decide +kernel
theorem d_M_readLine_26 : decode b_M_readLine 26 = .ok (.iload_n 1, 1) := by decide +kernel
theorem d_M_readLine_27 : decode b_M_readLine 27 = .ok (.baload, 1) := by decide +kernel
theorem d_M_readLine_28 : decode b_M_readLine 28 = .ok (.ifCond .eq 7, 3) := by decide +kernel
theorem d_M_readLine_31 : decode b_M_readLine 31 = .ok (.iconst 2, 1) := by decide +kernel
theorem d_M_readLine_32 : decode b_M_readLine 32 = .ok (.goto 5, 3) := by decide +kernel
theorem d_M_readLine_35 : decode b_M_readLine 35 = .ok (.bipush 6, 2) := by decide +kernel
theorem d_M_readLine_37 : decode b_M_readLine 37 = .ok (.istore 4, 2) := by decide +kernel
theorem d_M_readLine_39 : decode b_M_readLine 39 = .ok (.aload_n 0, 1) := by decide +kernel
theorem d_M_readLine_40 : decode b_M_readLine 40 = .ok (.invokevirtual 132, 3) := by decide +kernel
theorem d_M_readLine_43 : decode b_M_readLine 43 = .ok (.istore 5, 2) := by decide +kernel
theorem d_M_readLine_45 : decode b_M_readLine 45 = .ok (.iload 5, 2) := by decide +kernel
theorem d_M_readLine_47 : decode b_M_readLine 47 = .ok (.iconst (-1), 1) := by decide +kernel
theorem d_M_readLine_48 : decode b_M_readLine 48 = .ok (.if_icmp .eq 14, 3) := by decide +kernel
theorem d_M_readLine_51 : decode b_M_readLine 51 = .ok (.aload_n 0, 1) := by decide +kernel
theorem d_M_readLine_52 : decode b_M_readLine 52 = .ok (.getfield 23, 3) := by decide +kernel
theorem d_M_readLine_55 : decode b_M_readLine 55 = .ok (.iload_n 1, 1) := by decide +kernel
theorem d_M_readLine_56 : decode b_M_readLine 56 = .ok (.iaload, 1) := by decide +kernel
theorem d_M_readLine_57 : decode b_M_readLine 57 = .ok (.iload 4, 2) := by decide +kernel
theorem d_M_readLine_59 : decode b_M_readLine 59 = .ok (.if_icmp .ne 5, 3) := by decide +kernel
theorem d_M_readLine_62 : decode b_M_readLine 62 = .ok (.iload_n 3, 1) := by decide +kernel
theorem d_M_readLine_63 : decode b_M_readLine 63 = .ok (.ireturn, 1) := by decide +kernel
theorem d_M_readLine_64 : decode b_M_readLine 64 = .ok (.aload_n 0, 1) := by decide +kernel
theorem d_M_readLine_65 : decode b_M_readLine 65 = .ok (.getfield 19, 3) := by decide +kernel
theorem d_M_readLine_68 : decode b_M_readLine 68 = .ok (.iload_n 1, 1) := by decide +kernel
theorem d_M_readLine_69 : decode b_M_readLine 69 = .ok (.baload, 1) := by decide +kernel
theorem d_M_readLine_70 : decode b_M_readLine 70 = .ok (.ifCond .ne 13, 3) := by decide +kernel
theorem d_M_readLine_73 : decode b_M_readLine 73 = .ok (.aload_n 0, 1) := by decide +kernel
theorem d_M_readLine_74 : decode b_M_readLine 74 = .ok (.iload_n 1, 1) := by decide +kernel
theorem d_M_readLine_75 : decode b_M_readLine 75 = .ok (.iload 5, 2) := by decide +kernel
theorem d_M_readLine_77 : decode b_M_readLine 77 = .ok (.invokevirtual 58, 3) := by decide +kernel
theorem d_M_readLine_80 : decode b_M_readLine 80 = .ok (.ifCond .ne 10, 3) := by decide +kernel
theorem d_M_readLine_83 : decode b_M_readLine 83 = .ok (.aload_n 0, 1) := by decide +kernel
theorem d_M_readLine_84 : decode b_M_readLine 84 = .ok (.iload_n 1, 1) := by decide +kernel
theorem d_M_readLine_85 : decode b_M_readLine 85 = .ok (.iload 5, 2) := by decide +kernel
theorem d_M_readLine_87 : decode b_M_readLine 87 = .ok (.invokevirtual 62, 3) := by decide +kernel
theorem d_M_readLine_90 : decode b_M_readLine 90 = .ok (.aload_n 0, 1) := by decide +kernel
theorem d_M_readLine_91 : decode b_M_readLine 91 = .ok (.invokevirtual 129, 3) := by decide +kernel
theorem d_M_readLine_94 : decode b_M_readLine 94 = .ok (.istore_n 2, 1) := by decide +kernel
theorem d_M_readLine_95 : decode b_M_readLine 95 = .ok (.goto (-90), 3) := by decide +kernel
theorem d_M_readLine_98 : decode b_M_readLine 98 = .ok (.iload_n 2, 1) := by decide +kernel
theorem d_M_readLine_99 : decode b_M_readLine 99 = .ok (.iconst (-1), 1) := by decide +kernel
theorem d_M_readLine_100 : decode b_M_readLine 100 = .ok (.if_icmp .eq 9, 3) := by decide +kernel
theorem d_M_readLine_103 : decode b_M_readLine 103 = .ok (.iload_n 2, 1) := by decide +kernel
theorem d_M_readLine_104 : decode b_M_readLine 104 = .ok (.bipush 10, 2) := by decide +kernel
theorem d_M_readLine_106 : decode b_M_readLine 106 = .ok (.if_icmp .ne 7, 3) := by decide +kernel
theorem d_M_readLine_109 : decode b_M_readLine 109 = .ok (.iconst 1, 1) := by decide +kernel
theorem d_M_readLine_110 : decode b_M_readLine 110 = .ok (.goto 4, 3) := by decide +kernel
theorem d_M_readLine_113 : decode b_M_readLine 113 = .ok (.iconst 0, 1) := by decide +kernel
theorem d_M_readLine_114 : decode b_M_readLine 114 = .ok (.istore_n 3, 1) := by decide +kernel
theorem d_M_readLine_115 : decode b_M_readLine 115 = .ok (.iload_n 3, 1) := by decide +kernel
theorem d_M_readLine_116 : decode b_M_readLine 116 = .ok (.ifCond .eq 26, 3) := by decide +kernel
theorem d_M_readLine_119 : decode b_M_readLine 119 = .ok (.aload_n 0, 1) := by decide +kernel
theorem d_M_readLine_120 : decode b_M_readLine 120 = .ok (.getfield 19, 3) := by decide +kernel
theorem d_M_readLine_123 : decode b_M_readLine 123 = .ok (.iload_n 1, 1) := by decide +kernel
theorem d_M_readLine_124 : decode b_M_readLine 124 = .ok (.baload, 1) := by decide +kernel
theorem d_M_readLine_125 : decode b_M_readLine 125 = .ok (.ifCond .eq 13, 3) := by decide +kernel
theorem d_M_readLine_128 : decode b_M_readLine 128 = .ok (.aload_n 0, 1) := by decide +kernel
theorem d_M_readLine_129 : decode b_M_readLine 129 = .ok (.getfield 23, 3) := by decide +kernel
theorem d_M_readLine_132 : decode b_M_readLine 132 = .ok (.iload_n 1, 1) := by decide +kernel
theorem d_M_readLine_133 : decode b_M_readLine 133 = .ok (.iaload, 1) := by decide +kernel
theorem d_M_readLine_134 : decode b_M_readLine 134 = .ok (.iconst 2, 1) := by decide +kernel
theorem d_M_readLine_135 : decode b_M_readLine 135 = .ok (.if_icmp .ne 7, 3) := by decide +kernel
theorem d_M_readLine_138 : decode b_M_readLine 138 = .ok (.iconst (-1), 1) := by decide +kernel
theorem d_M_readLine_139 : decode b_M_readLine 139 = .ok (.goto 7, 3) := by decide +kernel
theorem d_M_readLine_142 : decode b_M_readLine 142 = .ok (.aload_n 0, 1) := by decide +kernel
theorem d_M_readLine_143 : decode b_M_readLine 143 = .ok (.getfield 126, 3) := by decide +kernel
theorem d_M_readLine_146 : decode b_M_readLine 146 = .ok (.ireturn, 1) := by decide +kernel
theorem d_M_read_0 : decode b_M_read 0 = .ok (.aload_n 0, 1) := by decide +kernel
theorem d_M_read_1 : decode b_M_read 1 = .ok (.iconst 0, 1) := by decide +kernel
theorem d_M_read_2 : decode b_M_read 2 = .ok (.putfield 45, 3) := by decide +kernel
theorem d_M_read_5 : decode b_M_read 5 = .ok (.aload_n 0, 1) := by decide +kernel
theorem d_M_read_6 : decode b_M_read 6 = .ok (.getfield 48, 3) := by decide +kernel
theorem d_M_read_9 : decode b_M_read 9 = .ok (.istore_n 1, 1) := by decide +kernel
theorem d_M_read_10 : decode b_M_read 10 = .ok (.aload_n 0, 1) := by decide +kernel
theorem d_M_read_11 : decode b_M_read 11 = .ok (.iconst 0, 1) := by decide +kernel
theorem d_M_read_12 : decode b_M_read 12 = .ok (.putfield 126, 3) := by decide +kernel
theorem d_M_read_15 : decode b_M_read 15 = .ok (.iconst (-1), 1) := by decide +kernel
theorem d_M_read_16 : decode b_M_read 16 = .ok (.istore_n 2, 1) := by decide +kernel
theorem d_M_read_17 : decode b_M_read 17 = .ok (.iload_n 2, 1) := by decide +kernel
theorem d_M_read_18 : decode b_M_read 18 = .ok (.ifCond .ge 133, 3) := by decide +kernel
theorem d_M_read_21 : decode b_M_read 21 = .ok (.aload_n 0, 1) := by decide +kernel
theorem d_M_read_22 : decode b_M_read 22 = .ok (.invokevirtual 129, 3) := by decide +kernel
theorem d_M_read_25 : decode b_M_read 25 = .ok (.iconst (-1), 1) := by decide +kernel
theorem d_M_read_26 : decode b_M_read 26 = .ok (.if_icmp .eq 125, 3) := by decide +kernel
theorem d_M_read_29 : decode b_M_read 29 = .ok (.aload_n 0, 1) := by decide +kernel
theorem d_M_read_30 : decode b_M_read 30 = .ok (.getfield 32, 3) := by decide +kernel
theorem d_M_read_33 : decode b_M_read 33 = .ok (.aload_n 0, 1) := by decide +kernel
theorem d_M_read_34 : decode b_M_read 34 = .ok (.getfield 126, 3) := by decide +kernel
theorem d_M_read_37 : decode b_M_read 37 = .ok (.iaload, 1) := by decide +kernel
theorem d_M_read_38 : decode b_M_read 38 = .ok (.istore_n 3, 1) := by decide +kernel
theorem d_M_read_39 : decode b_M_read 39 = .ok (.iload_n 3, 1) := by decide +kernel
theorem d_M_read_40 : decode b_M_read 40 = .ok (.bipush 10, 2) := by decide +kernel
theorem d_M_read_42 : decode b_M_read 42 = .ok (.if_icmp .ne 16, 3) := by decide +kernel
theorem d_M_read_45 : decode b_M_read 45 = .ok (.aload_n 0, 1) := by decide +kernel
theorem d_M_read_46 : decode b_M_read 46 = .ok (.dup, 1) := by decide +kernel
theorem d_M_read_47 : decode b_M_read 47 = .ok (.getfield 126, 3) := by decide +kernel
theorem d_M_read_50 : decode b_M_read 50 = .ok (.iconst 1, 1) := by decide +kernel
theorem d_M_read_51 : decode b_M_read 51 = .ok (.iadd, 1) := by decide +kernel
theorem d_M_read_52 : decode b_M_read 52 = .ok (.putfield 126, 3) := by decide +kernel
theorem d_M_read_55 : decode b_M_read 55 = .ok (.goto 93, 3) := by decide +kernel
theorem d_M_read_58 : decode b_M_read 58 = .ok (.iload_n 3, 1) := by decide +kernel
theorem d_M_read_59 : decode b_M_read 59 = .ok (.bipush 99, 2) := by decide +kernel
theorem d_M_read_61 : decode b_M_read 61 = .ok (.if_icmp .eq 9, 3) := by decide +kernel
theorem d_M_read_64 : decode b_M_read 64 = .ok (.iload_n 3, 1) := by decide +kernel
theorem d_M_read_65 : decode b_M_read 65 = .ok (.bipush 61, 2) := by decide +kernel
theorem d_M_read_67 : decode b_M_read 67 = .ok (.if_icmp .ne 12, 3) := by decide +kernel
theorem d_M_read_70 : decode b_M_read 70 = .ok (.aload_n 0, 1) := by decide +kernel
theorem d_M_read_71 : decode b_M_read 71 = .ok (.getfield 48, 3) := by decide +kernel
theorem d_M_read_74 : decode b_M_read 74 = .ok (.bipush 24, 2) := by decide +kernel
theorem d_M_read_76 : decode b_M_read 76 = .ok (.if_icmp .ne 11, 3) := by decide +kernel
theorem d_M_read_79 : decode b_M_read 79 = .ok (.aload_n 0, 1) := by decide +kernel
theorem d_M_read_80 : decode b_M_read 80 = .ok (.getfield 126, 3) := by decide +kernel
theorem d_M_read_83 : decode b_M_read 83 = .ok (.istore_n 2, 1) := by decide +kernel
theorem d_M_read_84 : decode b_M_read 84 = .ok (.goto 64, 3) := by decide +kernel
theorem d_M_read_87 : decode b_M_read 87 = .ok (.aload_n 0, 1) := by decide +kernel
theorem d_M_read_88 : decode b_M_read 88 = .ok (.dup, 1) := by decide +kernel
theorem d_M_read_89 : decode b_M_read 89 = .ok (.getfield 126, 3) := by decide +kernel
theorem d_M_read_92 : decode b_M_read 92 = .ok (.iconst 1, 1) := by decide +kernel
theorem d_M_read_93 : decode b_M_read 93 = .ok (.iadd, 1) := by decide +kernel
theorem d_M_read_94 : decode b_M_read 94 = .ok (.putfield 126, 3) := by decide +kernel
theorem d_M_read_97 : decode b_M_read 97 = .ok (.aload_n 0, 1) := by decide +kernel
theorem d_M_read_98 : decode b_M_read 98 = .ok (.getfield 19, 3) := by decide +kernel
theorem d_M_read_101 : decode b_M_read 101 = .ok (.aload_n 0, 1) := by decide +kernel
theorem d_M_read_102 : decode b_M_read 102 = .ok (.getfield 48, 3) := by decide +kernel
theorem d_M_read_105 : decode b_M_read 105 = .ok (.iload_n 3, 1) := by decide +kernel
theorem d_M_read_106 : decode b_M_read 106 = .ok (.bipush 61, 2) := by decide +kernel
theorem d_M_read_108 : decode b_M_read 108 = .ok (.if_icmp .ne 7, 3) := by decide +kernel
theorem d_M_read_111 : decode b_M_read 111 = .ok (.iconst 1, 1) := by decide +kernel
theorem d_M_read_112 : decode b_M_read 112 = .ok (.goto 4, 3) := by decide +kernel
theorem d_M_read_115 : decode b_M_read 115 = .ok (.iconst 0, 1) := by decide +kernel
theorem d_M_read_116 : decode b_M_read 116 = .ok (.bastore, 1) := by decide +kernel
theorem d_M_read_117 : decode b_M_read 117 = .ok (.aload_n 0, 1) := by decide +kernel
theorem d_M_read_118 : decode b_M_read 118 = .ok (.getfield 23, 3) := by decide +kernel
theorem d_M_read_121 : decode b_M_read 121 = .ok (.aload_n 0, 1) := by decide +kernel
theorem d_M_read_122 : decode b_M_read 122 = .ok (.getfield 48, 3) := by decide +kernel
theorem d_M_read_125 : decode b_M_read 125 = .ok (.iconst 0, 1) := by decide +kernel
theorem d_M_read_126 : decode b_M_read 126 = .ok (.iastore, 1) := by decide +kernel
theorem d_M_read_127 : decode b_M_read 127 = .ok (.aload_n 0, 1) := by decide +kernel
theorem d_M_read_128 : decode b_M_read 128 = .ok (.dup, 1) := by decide +kernel
theorem d_M_read_129 : decode b_M_read 129 = .ok (.getfield 48, 3) := by decide +kernel
theorem d_M_read_132 : decode b_M_read 132 = .ok (.iconst 1, 1) := by decide +kernel
theorem d_M_read_133 : decode b_M_read 133 = .ok (.iadd, 1) := by decide +kernel
theorem d_M_read_134 : decode b_M_read 134 = .ok (.putfield 48, 3) := by decide +kernel
theorem d_M_read_137 : decode b_M_read 137 = .ok (.aload_n 0, 1) := by decide +kernel
theorem d_M_read_138 : decode b_M_read 138 = .ok (.aload_n 0, 1) := by decide +kernel
theorem d_M_read_139 : decode b_M_read 139 = .ok (.getfield 48, 3) := by decide +kernel
theorem d_M_read_142 : decode b_M_read 142 = .ok (.iconst 1, 1) := by decide +kernel
theorem d_M_read_143 : decode b_M_read 143 = .ok (.isub, 1) := by decide +kernel
theorem d_M_read_144 : decode b_M_read 144 = .ok (.invokevirtual 135, 3) := by decide +kernel
theorem d_M_read_147 : decode b_M_read 147 = .ok (.istore_n 2, 1) := by decide +kernel
theorem d_M_read_148 : decode b_M_read 148 = .ok (.goto (-131), 3) := by decide +kernel
theorem d_M_read_151 : decode b_M_read 151 = .ok (.aload_n 0, 1) := by decide +kernel
theorem d_M_read_152 : decode b_M_read 152 = .ok (.iconst 0, 1) := by decide +kernel
theorem d_M_read_153 : decode b_M_read 153 = .ok (.putfield 123, 3) := by decide +kernel
theorem d_M_read_156 : decode b_M_read 156 = .ok (.iload_n 2, 1) := by decide +kernel
theorem d_M_read_157 : decode b_M_read 157 = .ok (.ifCond .lt 12, 3) := by decide +kernel
theorem d_M_read_160 : decode b_M_read 160 = .ok (.aload_n 0, 1) := by decide +kernel
theorem d_M_read_161 : decode b_M_read 161 = .ok (.iload_n 1, 1) := by decide +kernel
theorem d_M_read_162 : decode b_M_read 162 = .ok (.putfield 48, 3) := by decide +kernel
theorem d_M_read_165 : decode b_M_read 165 = .ok (.iconst (-1), 1) := by decide +kernel
theorem d_M_read_166 : decode b_M_read 166 = .ok (.iload_n 2, 1) := by decide +kernel
theorem d_M_read_167 : decode b_M_read 167 = .ok (.isub, 1) := by decide +kernel
theorem d_M_read_168 : decode b_M_read 168 = .ok (.ireturn, 1) := by decide +kernel
theorem d_M_read_169 : decode b_M_read 169 = .ok (.aload_n 0, 1) := by decide +kernel
theorem d_M_read_170 : decode b_M_read 170 = .ok (.getfield 48, 3) := by decide +kernel
theorem d_M_read_173 : decode b_M_read 173 = .ok (.ireturn, 1) := by decide +kernel
theorem d_M_new_0 : decode b_M_new 0 = .ok (.aload_n 0, 1) := by decide +kernel
theorem d_M_new_1 : decode b_M_new 1 = .ok (.invokespecial 1, 3) := by decide +kernel
theorem d_M_new_4 : decode b_M_new 4 = .ok (.aload_n 0, 1) := by decide +kernel
theorem d_M_new_5 : decode b_M_new 5 = .ok (.bipush 40, 2) := by decide +kernel
theorem d_M_new_7 : decode b_M_new 7 = .ok (.newarray .int, 2) := by decide +kernel
theorem d_M_new_9 : decode b_M_new 9 = .ok (.putfield 7, 3) := by decide +kernel
theorem d_M_new_12 : decode b_M_new 12 = .ok (.aload_n 0, 1) := by decide +kernel
theorem d_M_new_13 : decode b_M_new 13 = .ok (.bipush 40, 2) := by decide +kernel
theorem d_M_new_15 : decode b_M_new 15 = .ok (.newarray .int, 2) := by decide +kernel
theorem d_M_new_17 : decode b_M_new 17 = .ok (.putfield 13, 3) := by decide +kernel
theorem d_M_new_20 : decode b_M_new 20 = .ok (.aload_n 0, 1) := by decide +kernel
theorem d_M_new_21 : decode b_M_new 21 = .ok (.bipush 40, 2) := by decide +kernel
theorem d_M_new_23 : decode b_M_new 23 = .ok (.newarray .int, 2) := by decide +kernel
theorem d_M_new_25 : decode b_M_new 25 = .ok (.putfield 16, 3) := by decide +kernel
theorem d_M_new_28 : decode b_M_new 28 = .ok (.aload_n 0, 1) := by decide +kernel
theorem d_M_new_29 : decode b_M_new 29 = .ok (.bipush 24, 2) := by decide +kernel
theorem d_M_new_31 : decode b_M_new 31 = .ok (.newarray .boolean, 2) := by decide +kernel
theorem d_M_new_33 : decode b_M_new 33 = .ok (.putfield 19, 3) := by decide +kernel
theorem d_M_new_36 : decode b_M_new 36 = .ok (.aload_n 0, 1) := by decide +kernel
theorem d_M_new_37 : decode b_M_new 37 = .ok (.bipush 24, 2) := by decide +kernel
theorem d_M_new_39 : decode b_M_new 39 = .ok (.newarray .int, 2) := by decide +kernel
theorem d_M_new_41 : decode b_M_new 41 = .ok (.putfield 23, 3) := by decide +kernel
theorem d_M_new_44 : decode b_M_new 44 = .ok (.aload_n 0, 1) := by decide +kernel
theorem d_M_new_45 : decode b_M_new 45 = .ok (.sipush 144, 3) := by decide +kernel
theorem d_M_new_48 : decode b_M_new 48 = .ok (.newarray .int, 2) := by decide +kernel
theorem d_M_new_50 : decode b_M_new 50 = .ok (.putfield 26, 3) := by decide +kernel
theorem d_M_new_53 : decode b_M_new 53 = .ok (.aload_n 0, 1) := by decide +kernel
theorem d_M_new_54 : decode b_M_new 54 = .ok (.bipush 40, 2) := by decide +kernel
theorem d_M_new_56 : decode b_M_new 56 = .ok (.newarray .int, 2) := by decide +kernel
theorem d_M_new_58 : decode b_M_new 58 = .ok (.putfield 29, 3) := by decide +kernel
theorem d_M_new_61 : decode b_M_new 61 = .ok (.aload_n 0, 1) := by decide +kernel
theorem d_M_new_62 : decode b_M_new 62 = .ok (.sipush 1000, 3) := by decide +kernel
theorem d_M_new_65 : decode b_M_new 65 = .ok (.newarray .int, 2) := by decide +kernel
theorem d_M_new_67 : decode b_M_new 67 = .ok (.putfield 32, 3) := by decide +kernel
theorem d_M_new_70 : decode b_M_new 70 = .ok (.aload_n 0, 1) := by decide +kernel
theorem d_M_new_71 : decode b_M_new 71 = .ok (.bipush 24, 2) := by decide +kernel
theorem d_M_new_73 : decode b_M_new 73 = .ok (.newarray .boolean, 2) := by decide +kernel
theorem d_M_new_75 : decode b_M_new 75 = .ok (.putfield 35, 3) := by decide +kernel
theorem d_M_new_78 : decode b_M_new 78 = .ok (.aload_n 0, 1) := by decide +kernel
theorem d_M_new_79 : decode b_M_new 79 = .ok (.bipush 24, 2) := by decide +kernel
theorem d_M_new_81 : decode b_M_new 81 = .ok (.newarray .boolean, 2) := by decide +kernel
theorem d_M_new_83 : decode b_M_new 83 = .ok (.putfield 38, 3) := by decide +kernel
theorem d_M_new_86 : decode b_M_new 86 = .ok (.aload_n 0, 1) := by decide +kernel
theorem d_M_new_87 : decode b_M_new 87 = .ok (.iconst 1, 1) := by decide +kernel
theorem d_M_new_88 : decode b_M_new 88 = .ok (.putfield 41, 3) := by decide +kernel
theorem d_M_new_91 : decode b_M_new 91 = .ok (.aload_n 0, 1) := by decide +kernel
theorem d_M_new_92 : decode b_M_new 92 = .ok (.getfield 7, 3) := by decide +kernel
theorem d_M_new_95 : decode b_M_new 95 = .ok (.iconst 0, 1) := by decide +kernel
theorem d_M_new_96 : decode b_M_new 96 = .ok (.iconst (-1), 1) := by decide +kernel
theorem d_M_new_97 : decode b_M_new 97 = .ok (.iastore, 1) := by decide +kernel
theorem d_M_new_98 : decode b_M_new 98 = .ok (.return_, 1) := by decide +kernel
