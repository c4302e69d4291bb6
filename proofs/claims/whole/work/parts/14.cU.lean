theorem d_U_begin_0 : decode b_U_begin 0 = .ok (.aload_n 0, 1) := by decide +kernel
theorem d_U_begin_1 : decode b_U_begin 1 = .ok (.getfield 9, 3) := by decide +kernel
theorem d_U_begin_4 : decode b_U_begin 4 = .ok (.iconst 2, 1) := by decide +kernel
theorem d_U_begin_5 : decode b_U_begin 5 = .ok (.invokestatic 61, 3) := by decide +kernel
theorem d_U_begin_8 : decode b_U_begin 8 = .ok (.aload_n 0, 1) := by decide +kernel
theorem d_U_begin_9 : decode b_U_begin 9 = .ok (.getfield 9, 3) := by decide +kernel
theorem d_U_begin_12 : decode b_U_begin 12 = .ok (.iconst 0, 1) := by decide +kernel
theorem d_U_begin_13 : decode b_U_begin 13 = .ok (.iconst 0, 1) := by decide +kernel
theorem d_U_begin_14 : decode b_U_begin 14 = .ok (.iastore, 1) := by decide +kernel
theorem d_U_begin_15 : decode b_U_begin 15 = .ok (.aload_n 0, 1) := by decide +kernel
theorem d_U_begin_16 : decode b_U_begin 16 = .ok (.iconst 0, 1) := by decide +kernel
theorem d_U_begin_17 : decode b_U_begin 17 = .ok (.putfield 15, 3) := by decide +kernel
theorem d_U_begin_20 : decode b_U_begin 20 = .ok (.return_, 1) := by decide +kernel
theorem d_U_tell_0 : decode b_U_tell 0 = .ok (.iload_n 1, 1) := by decide +kernel
theorem d_U_tell_1 : decode b_U_tell 1 = .ok (.iconst 1, 1) := by decide +kernel
theorem d_U_tell_2 : decode b_U_tell 2 = .ok (.ishr, 1) := by decide +kernel
theorem d_U_tell_3 : decode b_U_tell 3 = .ok (.istore_n 3, 1) := by decide +kernel
theorem d_U_tell_4 : decode b_U_tell 4 = .ok (.iload_n 2, 1) := by decide +kernel
theorem d_U_tell_5 : decode b_U_tell 5 = .ok (.iload_n 1, 1) := by decide +kernel
theorem d_U_tell_6 : decode b_U_tell 6 = .ok (.iconst 1, 1) := by decide +kernel
theorem d_U_tell_7 : decode b_U_tell 7 = .ok (.iand, 1) := by decide +kernel
theorem d_U_tell_8 : decode b_U_tell 8 = .ok (.ixor, 1) := by decide +kernel
theorem d_U_tell_9 : decode b_U_tell 9 = .ok (.istore 4, 2) := by decide +kernel
theorem d_U_tell_11 : decode b_U_tell 11 = .ok (.aload_n 0, 1) := by decide +kernel
theorem d_U_tell_12 : decode b_U_tell 12 = .ok (.getfield 9, 3) := by decide +kernel
theorem d_U_tell_15 : decode b_U_tell 15 = .ok (.iload_n 3, 1) := by decide +kernel
theorem d_U_tell_16 : decode b_U_tell 16 = .ok (.iaload, 1) := by decide +kernel
theorem d_U_tell_17 : decode b_U_tell 17 = .ok (.iconst 2, 1) := by decide +kernel
theorem d_U_tell_18 : decode b_U_tell 18 = .ok (.if_icmp .ne 19, 3) := by decide +kernel
theorem d_U_tell_21 : decode b_U_tell 21 = .ok (.aload_n 0, 1) := by decide +kernel
theorem d_U_tell_22 : decode b_U_tell 22 = .ok (.getfield 9, 3) := by decide +kernel
theorem d_U_tell_25 : decode b_U_tell 25 = .ok (.iload_n 3, 1) := by decide +kernel
theorem d_U_tell_26 : decode b_U_tell 26 = .ok (.iload 4, 2) := by decide +kernel
theorem d_U_tell_28 : decode b_U_tell 28 = .ok (.iastore, 1) := by decide +kernel
theorem d_U_tell_29 : decode b_U_tell 29 = .ok (.aload_n 0, 1) := by decide +kernel
theorem d_U_tell_30 : decode b_U_tell 30 = .ok (.iconst 1, 1) := by decide +kernel
theorem d_U_tell_31 : decode b_U_tell 31 = .ok (.putfield 19, 3) := by decide +kernel
theorem d_U_tell_34 : decode b_U_tell 34 = .ok (.goto 19, 3) := by decide +kernel
theorem d_U_tell_37 : decode b_U_tell 37 = .ok (.aload_n 0, 1) := by decide +kernel
theorem d_U_tell_38 : decode b_U_tell 38 = .ok (.getfield 9, 3) := by decide +kernel
theorem d_U_tell_41 : decode b_U_tell 41 = .ok (.iload_n 3, 1) := by decide +kernel
theorem d_U_tell_42 : decode b_U_tell 42 = .ok (.iaload, 1) := by decide +kernel
theorem d_U_tell_43 : decode b_U_tell 43 = .ok (.iload 4, 2) := by decide +kernel
theorem d_U_tell_45 : decode b_U_tell 45 = .ok (.if_icmp .eq 8, 3) := by decide +kernel
theorem d_U_tell_48 : decode b_U_tell 48 = .ok (.aload_n 0, 1) := by decide +kernel
theorem d_U_tell_49 : decode b_U_tell 49 = .ok (.iconst 1, 1) := by decide +kernel
theorem d_U_tell_50 : decode b_U_tell 50 = .ok (.putfield 15, 3) := by decide +kernel
theorem d_U_tell_53 : decode b_U_tell 53 = .ok (.return_, 1) := by decide +kernel
theorem d_U_toldOf_0 : decode b_U_toldOf 0 = .ok (.aload_n 0, 1) := by decide +kernel
theorem d_U_toldOf_1 : decode b_U_toldOf 1 = .ok (.getfield 9, 3) := by decide +kernel
theorem d_U_toldOf_4 : decode b_U_toldOf 4 = .ok (.iload_n 1, 1) := by decide +kernel
theorem d_U_toldOf_5 : decode b_U_toldOf 5 = .ok (.iconst 1, 1) := by decide +kernel
theorem d_U_toldOf_6 : decode b_U_toldOf 6 = .ok (.ishr, 1) := by decide +kernel
theorem d_U_toldOf_7 : decode b_U_toldOf 7 = .ok (.iaload, 1) := by decide +kernel
theorem d_U_toldOf_8 : decode b_U_toldOf 8 = .ok (.istore_n 2, 1) := by decide +kernel
theorem d_U_toldOf_9 : decode b_U_toldOf 9 = .ok (.iload_n 2, 1) := by decide +kernel
theorem d_U_toldOf_10 : decode b_U_toldOf 10 = .ok (.iconst 2, 1) := by decide +kernel
theorem d_U_toldOf_11 : decode b_U_toldOf 11 = .ok (.if_icmp .ne 7, 3) := by decide +kernel
theorem d_U_toldOf_14 : decode b_U_toldOf 14 = .ok (.iconst 2, 1) := by decide +kernel
theorem d_U_toldOf_15 : decode b_U_toldOf 15 = .ok (.goto 8, 3) := by decide +kernel
theorem d_U_toldOf_18 : decode b_U_toldOf 18 = .ok (.iload_n 2, 1) := by decide +kernel
theorem d_U_toldOf_19 : decode b_U_toldOf 19 = .ok (.iload_n 1, 1) := by decide +kernel
theorem d_U_toldOf_20 : decode b_U_toldOf 20 = .ok (.iconst 1, 1) := by decide +kernel
theorem d_U_toldOf_21 : decode b_U_toldOf 21 = .ok (.iand, 1) := by decide +kernel
theorem d_U_toldOf_22 : decode b_U_toldOf 22 = .ok (.ixor, 1) := by decide +kernel
theorem d_U_toldOf_23 : decode b_U_toldOf 23 = .ok (.ireturn, 1) := by decide +kernel
theorem d_U_stepEither_0 : decode b_U_stepEither 0 = .ok (.aload_n 0, 1) := by decide +kernel
theorem d_U_stepEither_1 : decode b_U_stepEither 1 = .ok (.getfield 9, 3) := by decide +kernel
theorem d_U_stepEither_4 : decode b_U_stepEither 4 = .ok (.iload_n 1, 1) := by decide +kernel
theorem d_U_stepEither_5 : decode b_U_stepEither 5 = .ok (.iaload, 1) := by decide +kernel
theorem d_U_stepEither_6 : decode b_U_stepEither 6 = .ok (.istore 4, 2) := by decide +kernel
theorem d_U_stepEither_8 : decode b_U_stepEither 8 = .ok (.aload_n 0, 1) := by decide +kernel
theorem d_U_stepEither_9 : decode b_U_stepEither 9 = .ok (.iload_n 2, 1) := by decide +kernel
theorem d_U_stepEither_10 : decode b_U_stepEither 10 = .ok (.invokevirtual 95, 3) := by decide +kernel
theorem d_U_stepEither_13 : decode b_U_stepEither 13 = .ok (.istore 5, 2) := by decide +kernel
theorem d_U_stepEither_15 : decode b_U_stepEither 15 = .ok (.aload_n 0, 1) := by decide +kernel
theorem d_U_stepEither_16 : decode b_U_stepEither 16 = .ok (.iload_n 3, 1) := by decide +kernel
theorem d_U_stepEither_17 : decode b_U_stepEither 17 = .ok (.invokevirtual 95, 3) := by decide +kernel
theorem d_U_stepEither_20 : decode b_U_stepEither 20 = .ok (.istore 6, 2) := by decide +kernel
theorem d_U_stepEither_22 : decode b_U_stepEither 22 = .ok (.iload 5, 2) := by decide +kernel
theorem d_U_stepEither_24 : decode b_U_stepEither 24 = .ok (.iconst 2, 1) := by decide +kernel
theorem d_U_stepEither_25 : decode b_U_stepEither 25 = .ok (.if_icmp .eq 21, 3) := by decide +kernel
theorem d_U_stepEither_28 : decode b_U_stepEither 28 = .ok (.iload 6, 2) := by decide +kernel
theorem d_U_stepEither_30 : decode b_U_stepEither 30 = .ok (.iconst 2, 1) := by decide +kernel
theorem d_U_stepEither_31 : decode b_U_stepEither 31 = .ok (.if_icmp .eq 15, 3) := by decide +kernel
theorem d_U_stepEither_34 : decode b_U_stepEither 34 = .ok (.aload_n 0, 1) := by decide +kernel
theorem d_U_stepEither_35 : decode b_U_stepEither 35 = .ok (.iconst 2, 1) := by decide +kernel
theorem d_U_stepEither_36 : decode b_U_stepEither 36 = .ok (.iload_n 1, 1) := by decide +kernel
theorem d_U_stepEither_37 : decode b_U_stepEither 37 = .ok (.imul, 1) := by decide +kernel
theorem d_U_stepEither_38 : decode b_U_stepEither 38 = .ok (.iload 5, 2) := by decide +kernel
theorem d_U_stepEither_40 : decode b_U_stepEither 40 = .ok (.iload 6, 2) := by decide +kernel
theorem d_U_stepEither_42 : decode b_U_stepEither 42 = .ok (.ixor, 1) := by decide +kernel
theorem d_U_stepEither_43 : decode b_U_stepEither 43 = .ok (.invokevirtual 49, 3) := by decide +kernel
theorem d_U_stepEither_46 : decode b_U_stepEither 46 = .ok (.iload 4, 2) := by decide +kernel
theorem d_U_stepEither_48 : decode b_U_stepEither 48 = .ok (.iconst 2, 1) := by decide +kernel
theorem d_U_stepEither_49 : decode b_U_stepEither 49 = .ok (.if_icmp .eq 19, 3) := by decide +kernel
theorem d_U_stepEither_52 : decode b_U_stepEither 52 = .ok (.iload 5, 2) := by decide +kernel
theorem d_U_stepEither_54 : decode b_U_stepEither 54 = .ok (.iconst 2, 1) := by decide +kernel
theorem d_U_stepEither_55 : decode b_U_stepEither 55 = .ok (.if_icmp .eq 13, 3) := by decide +kernel
theorem d_U_stepEither_58 : decode b_U_stepEither 58 = .ok (.aload_n 0, 1) := by decide +kernel
theorem d_U_stepEither_59 : decode b_U_stepEither 59 = .ok (.iload_n 3, 1) := by decide +kernel
theorem d_U_stepEither_60 : decode b_U_stepEither 60 = .ok (.iload 4, 2) := by decide +kernel
theorem d_U_stepEither_62 : decode b_U_stepEither 62 = .ok (.iload 5, 2) := by decide +kernel
theorem d_U_stepEither_64 : decode b_U_stepEither 64 = .ok (.ixor, 1) := by decide +kernel
theorem d_U_stepEither_65 : decode b_U_stepEither 65 = .ok (.invokevirtual 49, 3) := by decide +kernel
theorem d_U_stepEither_68 : decode b_U_stepEither 68 = .ok (.iload 4, 2) := by decide +kernel
theorem d_U_stepEither_70 : decode b_U_stepEither 70 = .ok (.iconst 2, 1) := by decide +kernel
theorem d_U_stepEither_71 : decode b_U_stepEither 71 = .ok (.if_icmp .eq 19, 3) := by decide +kernel
theorem d_U_stepEither_74 : decode b_U_stepEither 74 = .ok (.iload 6, 2) := by decide +kernel
theorem d_U_stepEither_76 : decode b_U_stepEither 76 = .ok (.iconst 2, 1) := by decide +kernel
theorem d_U_stepEither_77 : decode b_U_stepEither 77 = .ok (.if_icmp .eq 13, 3) := by decide +kernel
theorem d_U_stepEither_80 : decode b_U_stepEither 80 = .ok (.aload_n 0, 1) := by decide +kernel
theorem d_U_stepEither_81 : decode b_U_stepEither 81 = .ok (.iload_n 2, 1) := by decide +kernel
theorem d_U_stepEither_82 : decode b_U_stepEither 82 = .ok (.iload 4, 2) := by decide +kernel
theorem d_U_stepEither_84 : decode b_U_stepEither 84 = .ok (.iload 6, 2) := by decide +kernel
theorem d_U_stepEither_86 : decode b_U_stepEither 86 = .ok (.ixor, 1) := by decide +kernel
theorem d_U_stepEither_87 : decode b_U_stepEither 87 = .ok (.invokevirtual 49, 3) := by decide +kernel
theorem d_U_stepEither_90 : decode b_U_stepEither 90 = .ok (.return_, 1) := by decide +kernel
theorem d_U_stepAnd_0 : decode b_U_stepAnd 0 = .ok (.aload_n 0, 1) := by decide +kernel
theorem d_U_stepAnd_1 : decode b_U_stepAnd 1 = .ok (.getfield 9, 3) := by decide +kernel
theorem d_U_stepAnd_4 : decode b_U_stepAnd 4 = .ok (.iload_n 1, 1) := by decide +kernel
theorem d_U_stepAnd_5 : decode b_U_stepAnd 5 = .ok (.iaload, 1) := by decide +kernel
theorem d_U_stepAnd_6 : decode b_U_stepAnd 6 = .ok (.istore 4, 2) := by decide +kernel
theorem d_U_stepAnd_8 : decode b_U_stepAnd 8 = .ok (.aload_n 0, 1) := by decide +kernel
theorem d_U_stepAnd_9 : decode b_U_stepAnd 9 = .ok (.iload_n 2, 1) := by decide +kernel
theorem d_U_stepAnd_10 : decode b_U_stepAnd 10 = .ok (.invokevirtual 95, 3) := by decide +kernel
theorem d_U_stepAnd_13 : decode b_U_stepAnd 13 = .ok (.istore 5, 2) := by decide +kernel
theorem d_U_stepAnd_15 : decode b_U_stepAnd 15 = .ok (.aload_n 0, 1) := by decide +kernel
theorem d_U_stepAnd_16 : decode b_U_stepAnd 16 = .ok (.iload_n 3, 1) := by decide +kernel
theorem d_U_stepAnd_17 : decode b_U_stepAnd 17 = .ok (.invokevirtual 95, 3) := by decide +kernel
theorem d_U_stepAnd_20 : decode b_U_stepAnd 20 = .ok (.istore 6, 2) := by decide +kernel
theorem d_U_stepAnd_22 : decode b_U_stepAnd 22 = .ok (.iload 5, 2) := by decide +kernel
theorem d_U_stepAnd_24 : decode b_U_stepAnd 24 = .ok (.ifCond .eq 8, 3) := by decide +kernel
theorem d_U_stepAnd_27 : decode b_U_stepAnd 27 = .ok (.iload 6, 2) := by decide +kernel
theorem d_U_stepAnd_29 : decode b_U_stepAnd 29 = .ok (.ifCond .ne 11, 3) := by decide +kernel
theorem d_U_stepAnd_32 : decode b_U_stepAnd 32 = .ok (.aload_n 0, 1) := by decide +kernel
theorem d_U_stepAnd_33 : decode b_U_stepAnd 33 = .ok (.iconst 2, 1) := by decide +kernel
theorem d_U_stepAnd_34 : decode b_U_stepAnd 34 = .ok (.iload_n 1, 1) := by decide +kernel
theorem d_U_stepAnd_35 : decode b_U_stepAnd 35 = .ok (.imul, 1) := by decide +kernel
theorem d_U_stepAnd_36 : decode b_U_stepAnd 36 = .ok (.iconst 0, 1) := by decide +kernel
theorem d_U_stepAnd_37 : decode b_U_stepAnd 37 = .ok (.invokevirtual 49, 3) := by decide +kernel
theorem d_U_stepAnd_40 : decode b_U_stepAnd 40 = .ok (.iload 5, 2) := by decide +kernel
theorem d_U_stepAnd_42 : decode b_U_stepAnd 42 = .ok (.iconst 1, 1) := by decide +kernel
theorem d_U_stepAnd_43 : decode b_U_stepAnd 43 = .ok (.if_icmp .ne 17, 3) := by decide +kernel
theorem d_U_stepAnd_46 : decode b_U_stepAnd 46 = .ok (.iload 6, 2) := by decide +kernel
theorem d_U_stepAnd_48 : decode b_U_stepAnd 48 = .ok (.iconst 1, 1) := by decide +kernel
theorem d_U_stepAnd_49 : decode b_U_stepAnd 49 = .ok (.if_icmp .ne 11, 3) := by decide +kernel
theorem d_U_stepAnd_52 : decode b_U_stepAnd 52 = .ok (.aload_n 0, 1) := by decide +kernel
theorem d_U_stepAnd_53 : decode b_U_stepAnd 53 = .ok (.iconst 2, 1) := by decide +kernel
theorem d_U_stepAnd_54 : decode b_U_stepAnd 54 = .ok (.iload_n 1, 1) := by decide +kernel
theorem d_U_stepAnd_55 : decode b_U_stepAnd 55 = .ok (.imul, 1) := by decide +kernel
theorem d_U_stepAnd_56 : decode b_U_stepAnd 56 = .ok (.iconst 1, 1) := by decide +kernel
theorem d_U_stepAnd_57 : decode b_U_stepAnd 57 = .ok (.invokevirtual 49, 3) := by decide +kernel
theorem d_U_stepAnd_60 : decode b_U_stepAnd 60 = .ok (.iload 4, 2) := by decide +kernel
theorem d_U_stepAnd_62 : decode b_U_stepAnd 62 = .ok (.iconst 1, 1) := by decide +kernel
theorem d_U_stepAnd_63 : decode b_U_stepAnd 63 = .ok (.if_icmp .ne 15, 3) := by decide +kernel
theorem d_U_stepAnd_66 : decode b_U_stepAnd 66 = .ok (.aload_n 0, 1) := by decide +kernel
theorem d_U_stepAnd_67 : decode b_U_stepAnd 67 = .ok (.iload_n 2, 1) := by decide +kernel
theorem d_U_stepAnd_68 : decode b_U_stepAnd 68 = .ok (.iconst 1, 1) := by decide +kernel
theorem d_U_stepAnd_69 : decode b_U_stepAnd 69 = .ok (.invokevirtual 49, 3) := by decide +kernel
theorem d_U_stepAnd_72 : decode b_U_stepAnd 72 = .ok (.aload_n 0, 1) := by decide +kernel
theorem d_U_stepAnd_73 : decode b_U_stepAnd 73 = .ok (.iload_n 3, 1) := by decide +kernel
theorem d_U_stepAnd_74 : decode b_U_stepAnd 74 = .ok (.iconst 1, 1) := by decide +kernel
theorem d_U_stepAnd_75 : decode b_U_stepAnd 75 = .ok (.invokevirtual 49, 3) := by decide +kernel
theorem d_U_stepAnd_78 : decode b_U_stepAnd 78 = .ok (.iload 4, 2) := by decide +kernel
theorem d_U_stepAnd_80 : decode b_U_stepAnd 80 = .ok (.ifCond .ne 15, 3) := by decide +kernel
theorem d_U_stepAnd_83 : decode b_U_stepAnd 83 = .ok (.iload 5, 2) := by decide +kernel
theorem d_U_stepAnd_85 : decode b_U_stepAnd 85 = .ok (.iconst 1, 1) := by decide +kernel
theorem d_U_stepAnd_86 : decode b_U_stepAnd 86 = .ok (.if_icmp .ne 9, 3) := by decide +kernel
theorem d_U_stepAnd_89 : decode b_U_stepAnd 89 = .ok (.aload_n 0, 1) := by decide +kernel
theorem d_U_stepAnd_90 : decode b_U_stepAnd 90 = .ok (.iload_n 3, 1) := by decide +kernel
theorem d_U_stepAnd_91 : decode b_U_stepAnd 91 = .ok (.iconst 0, 1) := by decide +kernel
theorem d_U_stepAnd_92 : decode b_U_stepAnd 92 = .ok (.invokevirtual 49, 3) := by decide +kernel
theorem d_U_stepAnd_95 : decode b_U_stepAnd 95 = .ok (.iload 4, 2) := by decide +kernel
theorem d_U_stepAnd_97 : decode b_U_stepAnd 97 = .ok (.ifCond .ne 15, 3) := by decide +kernel
theorem d_U_stepAnd_100 : decode b_U_stepAnd 100 = .ok (.iload 6, 2) := by decide +kernel
theorem d_U_stepAnd_102 : decode b_U_stepAnd 102 = .ok (.iconst 1, 1) := by decide +kernel
theorem d_U_stepAnd_103 : decode b_U_stepAnd 103 = .ok (.if_icmp .ne 9, 3) := by decide +kernel
theorem d_U_stepAnd_106 : decode b_U_stepAnd 106 = .ok (.aload_n 0, 1) := by decide +kernel
theorem d_U_stepAnd_107 : decode b_U_stepAnd 107 = .ok (.iload_n 2, 1) := by decide +kernel
theorem d_U_stepAnd_108 : decode b_U_stepAnd 108 = .ok (.iconst 0, 1) := by decide +kernel
theorem d_U_stepAnd_109 : decode b_U_stepAnd 109 = .ok (.invokevirtual 49, 3) := by decide +kernel
theorem d_U_stepAnd_112 : decode b_U_stepAnd 112 = .ok (.return_, 1) := by decide +kernel
theorem d_U_stepClause_0 : decode b_U_stepClause 0 = .ok (.iconst 0, 1) := by decide +kernel
theorem d_U_stepClause_1 : decode b_U_stepClause 1 = .ok (.istore_n 2, 1) := by decide +kernel
theorem d_U_stepClause_2 : decode b_U_stepClause 2 = .ok (.iconst (-1), 1) := by decide +kernel
theorem d_U_stepClause_3 : decode b_U_stepClause 3 = .ok (.istore_n 3, 1) := by decide +kernel
theorem d_U_stepClause_4 : decode b_U_stepClause 4 = .ok (.iconst 0, 1) := by decide +kernel
theorem d_U_stepClause_5 : decode b_U_stepClause 5 = .ok (.istore 4, 2) := by decide +kernel
theorem d_U_stepClause_7 : decode b_U_stepClause 7 = .ok (.iload 4, 2) := by decide +kernel
theorem d_U_stepClause_9 : decode b_U_stepClause 9 = .ok (.aload_n 0, 1) := by decide +kernel
theorem d_U_stepClause_10 : decode b_U_stepClause 10 = .ok (.getfield 26, 3) := by decide +kernel
theorem d_U_stepClause_13 : decode b_U_stepClause 13 = .ok (.getfield 46, 3) := by decide +kernel
theorem d_U_stepClause_16 : decode b_U_stepClause 16 = .ok (.iload_n 1, 1) := by decide +kernel
theorem d_U_stepClause_17 : decode b_U_stepClause 17 = .ok (.iaload, 1) := by decide +kernel
theorem d_U_stepClause_18 : decode b_U_stepClause 18 = .ok (.if_icmp .ge 36, 3) := by decide +kernel
theorem d_U_stepClause_21 : decode b_U_stepClause 21 = .ok (.aload_n 0, 1) := by decide +kernel
theorem d_U_stepClause_22 : decode b_U_stepClause 22 = .ok (.getfield 26, 3) := by decide +kernel
theorem d_U_stepClause_25 : decode b_U_stepClause 25 = .ok (.iload_n 1, 1) := by decide +kernel
theorem d_U_stepClause_26 : decode b_U_stepClause 26 = .ok (.iload 4, 2) := by decide +kernel
theorem d_U_stepClause_28 : decode b_U_stepClause 28 = .ok (.invokevirtual 35, 3) := by decide +kernel
theorem d_U_stepClause_31 : decode b_U_stepClause 31 = .ok (.istore 5, 2) := by decide +kernel
theorem d_U_stepClause_33 : decode b_U_stepClause 33 = .ok (.aload_n 0, 1) := by decide +kernel
theorem d_U_stepClause_34 : decode b_U_stepClause 34 = .ok (.iload 5, 2) := by decide +kernel
theorem d_U_stepClause_36 : decode b_U_stepClause 36 = .ok (.invokevirtual 95, 3) := by decide +kernel
theorem d_U_stepClause_39 : decode b_U_stepClause 39 = .ok (.ifCond .eq 9, 3) := by decide +kernel
theorem d_U_stepClause_42 : decode b_U_stepClause 42 = .ok (.iinc 2 1, 3) := by decide +kernel
theorem d_U_stepClause_45 : decode b_U_stepClause 45 = .ok (.iload 5, 2) := by decide +kernel
theorem d_U_stepClause_47 : decode b_U_stepClause 47 = .ok (.istore_n 3, 1) := by decide +kernel
theorem d_U_stepClause_48 : decode b_U_stepClause 48 = .ok (.iinc 4 1, 3) := by decide +kernel
theorem d_U_stepClause_51 : decode b_U_stepClause 51 = .ok (.goto (-44), 3) := by decide +kernel
theorem d_U_stepClause_54 : decode b_U_stepClause 54 = .ok (.iload_n 2, 1) := by decide +kernel
theorem d_U_stepClause_55 : decode b_U_stepClause 55 = .ok (.ifCond .ne 11, 3) := by decide +kernel
theorem d_U_stepClause_58 : decode b_U_stepClause 58 = .ok (.aload_n 0, 1) := by decide +kernel
theorem d_U_stepClause_59 : decode b_U_stepClause 59 = .ok (.iconst 1, 1) := by decide +kernel
theorem d_U_stepClause_60 : decode b_U_stepClause 60 = .ok (.putfield 15, 3) := by decide +kernel
theorem d_U_stepClause_63 : decode b_U_stepClause 63 = .ok (.goto 14, 3) := by decide +kernel
theorem d_U_stepClause_66 : decode b_U_stepClause 66 = .ok (.iload_n 2, 1) := by decide +kernel
theorem d_U_stepClause_67 : decode b_U_stepClause 67 = .ok (.iconst 1, 1) := by decide +kernel
theorem d_U_stepClause_68 : decode b_U_stepClause 68 = .ok (.if_icmp .ne 9, 3) := by decide +kernel
theorem d_U_stepClause_71 : decode b_U_stepClause 71 = .ok (.aload_n 0, 1) := by decide +kernel
theorem d_U_stepClause_72 : decode b_U_stepClause 72 = .ok (.iload_n 3, 1) := by decide +kernel
theorem d_U_stepClause_73 : decode b_U_stepClause 73 = .ok (.iconst 1, 1) := by decide +kernel
theorem d_U_stepClause_74 : decode b_U_stepClause 74 = .ok (.invokevirtual 49, 3) := by decide +kernel
theorem d_U_stepClause_77 : decode b_U_stepClause 77 = .ok (.return_, 1) := by decide +kernel
theorem d_U_stepEquality_0 : decode b_U_stepEquality 0 = .ok (.aload_n 0, 1) := by decide +kernel
theorem d_U_stepEquality_1 : decode b_U_stepEquality 1 = .ok (.iload_n 1, 1) := by decide +kernel
theorem d_U_stepEquality_2 : decode b_U_stepEquality 2 = .ok (.invokevirtual 95, 3) := by decide +kernel
theorem d_U_stepEquality_5 : decode b_U_stepEquality 5 = .ok (.istore_n 3, 1) := by decide +kernel
theorem d_U_stepEquality_6 : decode b_U_stepEquality 6 = .ok (.aload_n 0, 1) := by decide +kernel
theorem d_U_stepEquality_7 : decode b_U_stepEquality 7 = .ok (.iload_n 2, 1) := by decide +kernel
theorem d_U_stepEquality_8 : decode b_U_stepEquality 8 = .ok (.invokevirtual 95, 3) := by decide +kernel
theorem d_U_stepEquality_11 : decode b_U_stepEquality 11 = .ok (.istore 4, 2) := by decide +kernel
theorem d_U_stepEquality_13 : decode b_U_stepEquality 13 = .ok (.iload_n 3, 1) := by decide +kernel
theorem d_U_stepEquality_14 : decode b_U_stepEquality 14 = .ok (.iconst 2, 1) := by decide +kernel
theorem d_U_stepEquality_15 : decode b_U_stepEquality 15 = .ok (.if_icmp .eq 9, 3) := by decide +kernel
theorem d_U_stepEquality_18 : decode b_U_stepEquality 18 = .ok (.aload_n 0, 1) := by decide +kernel
theorem d_U_stepEquality_19 : decode b_U_stepEquality 19 = .ok (.iload_n 2, 1) := by decide +kernel
theorem d_U_stepEquality_20 : decode b_U_stepEquality 20 = .ok (.iload_n 3, 1) := by decide +kernel
theorem d_U_stepEquality_21 : decode b_U_stepEquality 21 = .ok (.invokevirtual 49, 3) := by decide +kernel
theorem d_U_stepEquality_24 : decode b_U_stepEquality 24 = .ok (.iload 4, 2) := by decide +kernel
theorem d_U_stepEquality_26 : decode b_U_stepEquality 26 = .ok (.iconst 2, 1) := by decide +kernel
theorem d_U_stepEquality_27 : decode b_U_stepEquality 27 = .ok (.if_icmp .eq 10, 3) := by decide +kernel
theorem d_U_stepEquality_30 : decode b_U_stepEquality 30 = .ok (.aload_n 0, 1) := by decide +kernel
theorem d_U_stepEquality_31 : decode b_U_stepEquality 31 = .ok (.iload_n 1, 1) := by decide +kernel
theorem d_U_stepEquality_32 : decode b_U_stepEquality 32 = .ok (.iload 4, 2) := by decide +kernel
theorem d_U_stepEquality_34 : decode b_U_stepEquality 34 = .ok (.invokevirtual 49, 3) := by decide +kernel
theorem d_U_stepEquality_37 : decode b_U_stepEquality 37 = .ok (.return_, 1) := by decide +kernel
theorem d_U_comeToConflict_0 : decode b_U_comeToConflict 0 = .ok (.aload_n 0, 1) := by decide +kernel
theorem d_U_comeToConflict_1 : decode b_U_comeToConflict 1 = .ok (.iconst 1, 1) := by decide +kernel
theorem d_U_comeToConflict_2 : decode b_U_comeToConflict 2 = .ok (.putfield 19, 3) := by decide +kernel
theorem d_U_comeToConflict_5 : decode b_U_comeToConflict 5 = .ok (.iconst 0, 1) := by decide +kernel
theorem d_U_comeToConflict_6 : decode b_U_comeToConflict 6 = .ok (.istore_n 2, 1) := by decide +kernel
theorem d_U_comeToConflict_7 : decode b_U_comeToConflict 7 = .ok (.iload_n 2, 1) := by decide +kernel
theorem d_U_comeToConflict_8 : decode b_U_comeToConflict 8 = .ok (.bipush 40, 2) := by decide +kernel
theorem d_U_comeToConflict_10 : decode b_U_comeToConflict 10 = .ok (.if_icmp .gt 207, 3) := by decide +kernel
theorem d_U_comeToConflict_13 : decode b_U_comeToConflict 13 = .ok (.aload_n 0, 1) := by decide +kernel
theorem d_U_comeToConflict_14 : decode b_U_comeToConflict 14 = .ok (.getfield 19, 3) := by decide +kernel
theorem d_U_comeToConflict_17 : decode b_U_comeToConflict 17 = .ok (.ifCond .eq 200, 3) := by decide +kernel
theorem d_U_comeToConflict_20 : decode b_U_comeToConflict 20 = .ok (.aload_n 0, 1) := by decide +kernel
theorem d_U_comeToConflict_21 : decode b_U_comeToConflict 21 = .ok (.getfield 15, 3) := by decide +kernel
theorem d_U_comeToConflict_24 : decode b_U_comeToConflict 24 = .ok (.ifCond .ne 193, 3) := by decide +kernel
theorem d_U_comeToConflict_27 : decode b_U_comeToConflict 27 = .ok (.aload_n 0, 1) := by decide +kernel
theorem d_U_comeToConflict_28 : decode b_U_comeToConflict 28 = .ok (.iconst 0, 1) := by decide +kernel
theorem d_U_comeToConflict_29 : decode b_U_comeToConflict 29 = .ok (.putfield 19, 3) := by decide +kernel
theorem d_U_comeToConflict_32 : decode b_U_comeToConflict 32 = .ok (.iconst 1, 1) := by decide +kernel
theorem d_U_comeToConflict_33 : decode b_U_comeToConflict 33 = .ok (.istore_n 3, 1) := by decide +kernel
theorem d_U_comeToConflict_34 : decode b_U_comeToConflict 34 = .ok (.iload_n 3, 1) := by decide +kernel
theorem d_U_comeToConflict_35 : decode b_U_comeToConflict 35 = .ok (.aload_n 0, 1) := by decide +kernel
theorem d_U_comeToConflict_36 : decode b_U_comeToConflict 36 = .ok (.getfield 22, 3) := by decide +kernel
theorem d_U_comeToConflict_39 : decode b_U_comeToConflict 39 = .ok (.getfield 67, 3) := by decide +kernel
theorem d_U_comeToConflict_42 : decode b_U_comeToConflict 42 = .ok (.if_icmp .ge 91, 3) := by decide +kernel
theorem d_U_comeToConflict_45 : decode b_U_comeToConflict 45 = .ok (.aload_n 0, 1) := by decide +kernel
theorem d_U_comeToConflict_46 : decode b_U_comeToConflict 46 = .ok (.getfield 15, 3) := by decide +kernel
theorem d_U_comeToConflict_49 : decode b_U_comeToConflict 49 = .ok (.ifCond .ne 84, 3) := by decide +kernel
theorem d_U_comeToConflict_52 : decode b_U_comeToConflict 52 = .ok (.aload_n 0, 1) := by decide +kernel
theorem d_U_comeToConflict_53 : decode b_U_comeToConflict 53 = .ok (.getfield 22, 3) := by decide +kernel
theorem d_U_comeToConflict_56 : decode b_U_comeToConflict 56 = .ok (.getfield 70, 3) := by decide +kernel
theorem d_U_comeToConflict_59 : decode b_U_comeToConflict 59 = .ok (.iload_n 3, 1) := by decide +kernel
theorem d_U_comeToConflict_60 : decode b_U_comeToConflict 60 = .ok (.iaload, 1) := by decide +kernel
theorem d_U_comeToConflict_61 : decode b_U_comeToConflict 61 = .ok (.iconst 1, 1) := by decide +kernel
theorem d_U_comeToConflict_62 : decode b_U_comeToConflict 62 = .ok (.if_icmp .ne 29, 3) := by decide +kernel
theorem d_U_comeToConflict_65 : decode b_U_comeToConflict 65 = .ok (.aload_n 0, 1) := by decide +kernel
theorem d_U_comeToConflict_66 : decode b_U_comeToConflict 66 = .ok (.iload_n 3, 1) := by decide +kernel
theorem d_U_comeToConflict_67 : decode b_U_comeToConflict 67 = .ok (.aload_n 0, 1) := by decide +kernel
theorem d_U_comeToConflict_68 : decode b_U_comeToConflict 68 = .ok (.getfield 22, 3) := by decide +kernel
theorem d_U_comeToConflict_71 : decode b_U_comeToConflict 71 = .ok (.getfield 71, 3) := by decide +kernel
theorem d_U_comeToConflict_74 : decode b_U_comeToConflict 74 = .ok (.iload_n 3, 1) := by decide +kernel
theorem d_U_comeToConflict_75 : decode b_U_comeToConflict 75 = .ok (.iaload, 1) := by decide +kernel
theorem d_U_comeToConflict_76 : decode b_U_comeToConflict 76 = .ok (.aload_n 0, 1) := by decide +kernel
theorem d_U_comeToConflict_77 : decode b_U_comeToConflict 77 = .ok (.getfield 22, 3) := by decide +kernel
theorem d_U_comeToConflict_80 : decode b_U_comeToConflict 80 = .ok (.getfield 74, 3) := by decide +kernel
theorem d_U_comeToConflict_83 : decode b_U_comeToConflict 83 = .ok (.iload_n 3, 1) := by decide +kernel
theorem d_U_comeToConflict_84 : decode b_U_comeToConflict 84 = .ok (.iaload, 1) := by decide +kernel
theorem d_U_comeToConflict_85 : decode b_U_comeToConflict 85 = .ok (.invokevirtual 77, 3) := by decide +kernel
theorem d_U_comeToConflict_88 : decode b_U_comeToConflict 88 = .ok (.goto 39, 3) := by decide +kernel
theorem d_U_comeToConflict_91 : decode b_U_comeToConflict 91 = .ok (.aload_n 0, 1) := by decide +kernel
theorem d_U_comeToConflict_92 : decode b_U_comeToConflict 92 = .ok (.getfield 22, 3) := by decide +kernel
theorem d_U_comeToConflict_95 : decode b_U_comeToConflict 95 = .ok (.getfield 70, 3) := by decide +kernel
theorem d_U_comeToConflict_98 : decode b_U_comeToConflict 98 = .ok (.iload_n 3, 1) := by decide +kernel
theorem d_U_comeToConflict_99 : decode b_U_comeToConflict 99 = .ok (.iaload, 1) := by decide +kernel
theorem d_U_comeToConflict_100 : decode b_U_comeToConflict 100 = .ok (.iconst 2, 1) := by decide +kernel
theorem d_U_comeToConflict_101 : decode b_U_comeToConflict 101 = .ok (.if_icmp .ne 26, 3) := by decide +kernel
theorem d_U_comeToConflict_104 : decode b_U_comeToConflict 104 = .ok (.aload_n 0, 1) := by decide +kernel
theorem d_U_comeToConflict_105 : decode b_U_comeToConflict 105 = .ok (.iload_n 3, 1) := by decide +kernel
theorem d_U_comeToConflict_106 : decode b_U_comeToConflict 106 = .ok (.aload_n 0, 1) := by decide +kernel
theorem d_U_comeToConflict_107 : decode b_U_comeToConflict 107 = .ok (.getfield 22, 3) := by decide +kernel
theorem d_U_comeToConflict_110 : decode b_U_comeToConflict 110 = .ok (.getfield 71, 3) := by decide +kernel
theorem d_U_comeToConflict_113 : decode b_U_comeToConflict 113 = .ok (.iload_n 3, 1) := by decide +kernel
theorem d_U_comeToConflict_114 : decode b_U_comeToConflict 114 = .ok (.iaload, 1) := by decide +kernel
theorem d_U_comeToConflict_115 : decode b_U_comeToConflict 115 = .ok (.aload_n 0, 1) := by decide +kernel
theorem d_U_comeToConflict_116 : decode b_U_comeToConflict 116 = .ok (.getfield 22, 3) := by decide +kernel
theorem d_U_comeToConflict_119 : decode b_U_comeToConflict 119 = .ok (.getfield 74, 3) := by decide +kernel
theorem d_U_comeToConflict_122 : decode b_U_comeToConflict 122 = .ok (.iload_n 3, 1) := by decide +kernel
theorem d_U_comeToConflict_123 : decode b_U_comeToConflict 123 = .ok (.iaload, 1) := by decide +kernel
theorem d_U_comeToConflict_124 : decode b_U_comeToConflict 124 = .ok (.invokevirtual 81, 3) := by decide +kernel
theorem d_U_comeToConflict_127 : decode b_U_comeToConflict 127 = .ok (.iinc 3 1, 3) := by decide +kernel
theorem d_U_comeToConflict_130 : decode b_U_comeToConflict 130 = .ok (.goto (-96), 3) := by decide +kernel
theorem d_U_comeToConflict_133 : decode b_U_comeToConflict 133 = .ok (.iconst 0, 1) := by decide +kernel
theorem d_U_comeToConflict_134 : decode b_U_comeToConflict 134 = .ok (.istore_n 3, 1) := by decide +kernel
theorem d_U_comeToConflict_135 : decode b_U_comeToConflict 135 = .ok (.iload_n 3, 1) := by decide +kernel
theorem d_U_comeToConflict_136 : decode b_U_comeToConflict 136 = .ok (.iload_n 1, 1) := by decide +kernel
theorem d_U_comeToConflict_137 : decode b_U_comeToConflict 137 = .ok (.if_icmp .ge 74, 3) := by decide +kernel
theorem d_U_comeToConflict_140 : decode b_U_comeToConflict 140 = .ok (.aload_n 0, 1) := by decide +kernel
theorem d_U_comeToConflict_141 : decode b_U_comeToConflict 141 = .ok (.getfield 15, 3) := by decide +kernel
theorem d_U_comeToConflict_144 : decode b_U_comeToConflict 144 = .ok (.ifCond .ne 67, 3) := by decide +kernel
theorem d_U_comeToConflict_147 : decode b_U_comeToConflict 147 = .ok (.aload_n 0, 1) := by decide +kernel
theorem d_U_comeToConflict_148 : decode b_U_comeToConflict 148 = .ok (.getfield 26, 3) := by decide +kernel
theorem d_U_comeToConflict_151 : decode b_U_comeToConflict 151 = .ok (.getfield 84, 3) := by decide +kernel
theorem d_U_comeToConflict_154 : decode b_U_comeToConflict 154 = .ok (.iload_n 3, 1) := by decide +kernel
theorem d_U_comeToConflict_155 : decode b_U_comeToConflict 155 = .ok (.baload, 1) := by decide +kernel
theorem d_U_comeToConflict_156 : decode b_U_comeToConflict 156 = .ok (.ifCond .eq 6, 3) := by decide +kernel
theorem d_U_comeToConflict_159 : decode b_U_comeToConflict 159 = .ok (.goto 46, 3) := by decide +kernel
theorem d_U_comeToConflict_162 : decode b_U_comeToConflict 162 = .ok (.aload_n 0, 1) := by decide +kernel
theorem d_U_comeToConflict_163 : decode b_U_comeToConflict 163 = .ok (.getfield 26, 3) := by decide +kernel
theorem d_U_comeToConflict_166 : decode b_U_comeToConflict 166 = .ok (.getfield 30, 3) := by decide +kernel
theorem d_U_comeToConflict_169 : decode b_U_comeToConflict 169 = .ok (.iload_n 3, 1) := by decide +kernel
theorem d_U_comeToConflict_170 : decode b_U_comeToConflict 170 = .ok (.iaload, 1) := by decide +kernel
theorem d_U_comeToConflict_171 : decode b_U_comeToConflict 171 = .ok (.iconst 1, 1) := by decide +kernel
theorem d_U_comeToConflict_172 : decode b_U_comeToConflict 172 = .ok (.if_icmp .ne 28, 3) := by decide +kernel
theorem d_U_comeToConflict_175 : decode b_U_comeToConflict 175 = .ok (.aload_n 0, 1) := by decide +kernel
theorem d_U_comeToConflict_176 : decode b_U_comeToConflict 176 = .ok (.aload_n 0, 1) := by decide +kernel
theorem d_U_comeToConflict_177 : decode b_U_comeToConflict 177 = .ok (.getfield 26, 3) := by decide +kernel
theorem d_U_comeToConflict_180 : decode b_U_comeToConflict 180 = .ok (.iload_n 3, 1) := by decide +kernel
theorem d_U_comeToConflict_181 : decode b_U_comeToConflict 181 = .ok (.iconst 0, 1) := by decide +kernel
theorem d_U_comeToConflict_182 : decode b_U_comeToConflict 182 = .ok (.invokevirtual 35, 3) := by decide +kernel
theorem d_U_comeToConflict_185 : decode b_U_comeToConflict 185 = .ok (.aload_n 0, 1) := by decide +kernel
theorem d_U_comeToConflict_186 : decode b_U_comeToConflict 186 = .ok (.getfield 26, 3) := by decide +kernel
theorem d_U_comeToConflict_189 : decode b_U_comeToConflict 189 = .ok (.iload_n 3, 1) := by decide +kernel
theorem d_U_comeToConflict_190 : decode b_U_comeToConflict 190 = .ok (.iconst 1, 1) := by decide +kernel
theorem d_U_comeToConflict_191 : decode b_U_comeToConflict 191 = .ok (.invokevirtual 35, 3) := by decide +kernel
theorem d_U_comeToConflict_194 : decode b_U_comeToConflict 194 = .ok (.invokevirtual 88, 3) := by decide +kernel
theorem d_U_comeToConflict_197 : decode b_U_comeToConflict 197 = .ok (.goto 8, 3) := by decide +kernel
theorem d_U_comeToConflict_200 : decode b_U_comeToConflict 200 = .ok (.aload_n 0, 1) := by decide +kernel
theorem d_U_comeToConflict_201 : decode b_U_comeToConflict 201 = .ok (.iload_n 3, 1) := by decide +kernel
theorem d_U_comeToConflict_202 : decode b_U_comeToConflict 202 = .ok (.invokevirtual 91, 3) := by decide +kernel
theorem d_U_comeToConflict_205 : decode b_U_comeToConflict 205 = .ok (.iinc 3 1, 3) := by decide +kernel
theorem d_U_comeToConflict_208 : decode b_U_comeToConflict 208 = .ok (.goto (-73), 3) := by decide +kernel
theorem d_U_comeToConflict_211 : decode b_U_comeToConflict 211 = .ok (.iinc 2 1, 3) := by decide +kernel
theorem d_U_comeToConflict_214 : decode b_U_comeToConflict 214 = .ok (.goto (-207), 3) := by decide +kernel
theorem d_U_comeToConflict_217 : decode b_U_comeToConflict 217 = .ok (.aload_n 0, 1) := by decide +kernel
theorem d_U_comeToConflict_218 : decode b_U_comeToConflict 218 = .ok (.getfield 15, 3) := by decide +kernel
theorem d_U_comeToConflict_221 : decode b_U_comeToConflict 221 = .ok (.ireturn, 1) := by decide +kernel
theorem d_U_literalFollows_0 : decode b_U_literalFollows 0 = .ok (.aload_n 0, 1) := by decide +kernel
theorem d_U_literalFollows_1 : decode b_U_literalFollows 1 = .ok (.invokevirtual 43, 3) := by decide +kernel
theorem d_U_literalFollows_4 : decode b_U_literalFollows 4 = .ok (.aload_n 0, 1) := by decide +kernel
theorem d_U_literalFollows_5 : decode b_U_literalFollows 5 = .ok (.iload_n 1, 1) := by decide +kernel
theorem d_U_literalFollows_6 : decode b_U_literalFollows 6 = .ok (.iconst 0, 1) := by decide +kernel
theorem d_U_literalFollows_7 : decode b_U_literalFollows 7 = .ok (.invokevirtual 49, 3) := by decide +kernel
theorem d_U_literalFollows_10 : decode b_U_literalFollows 10 = .ok (.aload_n 0, 1) := by decide +kernel
theorem d_U_literalFollows_11 : decode b_U_literalFollows 11 = .ok (.aload_n 0, 1) := by decide +kernel
theorem d_U_literalFollows_12 : decode b_U_literalFollows 12 = .ok (.getfield 26, 3) := by decide +kernel
theorem d_U_literalFollows_15 : decode b_U_literalFollows 15 = .ok (.getfield 57, 3) := by decide +kernel
theorem d_U_literalFollows_18 : decode b_U_literalFollows 18 = .ok (.invokevirtual 53, 3) := by decide +kernel
theorem d_U_literalFollows_21 : decode b_U_literalFollows 21 = .ok (.ireturn, 1) := by decide +kernel
theorem d_U_bothConflict_0 : decode b_U_bothConflict 0 = .ok (.aload_n 0, 1) := by decide +kernel
theorem d_U_bothConflict_1 : decode b_U_bothConflict 1 = .ok (.invokevirtual 43, 3) := by decide +kernel
theorem d_U_bothConflict_4 : decode b_U_bothConflict 4 = .ok (.aload_n 0, 1) := by decide +kernel
theorem d_U_bothConflict_5 : decode b_U_bothConflict 5 = .ok (.iload_n 1, 1) := by decide +kernel
theorem d_U_bothConflict_6 : decode b_U_bothConflict 6 = .ok (.iconst 1, 1) := by decide +kernel
theorem d_U_bothConflict_7 : decode b_U_bothConflict 7 = .ok (.invokevirtual 49, 3) := by decide +kernel
theorem d_U_bothConflict_10 : decode b_U_bothConflict 10 = .ok (.aload_n 0, 1) := by decide +kernel
theorem d_U_bothConflict_11 : decode b_U_bothConflict 11 = .ok (.iload_n 2, 1) := by decide +kernel
theorem d_U_bothConflict_12 : decode b_U_bothConflict 12 = .ok (.iconst 1, 1) := by decide +kernel
theorem d_U_bothConflict_13 : decode b_U_bothConflict 13 = .ok (.invokevirtual 49, 3) := by decide +kernel
theorem d_U_bothConflict_16 : decode b_U_bothConflict 16 = .ok (.aload_n 0, 1) := by decide +kernel
theorem d_U_bothConflict_17 : decode b_U_bothConflict 17 = .ok (.iload_n 3, 1) := by decide +kernel
theorem d_U_bothConflict_18 : decode b_U_bothConflict 18 = .ok (.invokevirtual 53, 3) := by decide +kernel
theorem d_U_bothConflict_21 : decode b_U_bothConflict 21 = .ok (.ireturn, 1) := by decide +kernel
theorem d_U_lineFollows_0 : decode b_U_lineFollows 0 = .ok (.aload_n 0, 1) := by decide +kernel
theorem d_U_lineFollows_1 : decode b_U_lineFollows 1 = .ok (.getfield 26, 3) := by decide +kernel
theorem d_U_lineFollows_4 : decode b_U_lineFollows 4 = .ok (.getfield 30, 3) := by decide +kernel
theorem d_U_lineFollows_7 : decode b_U_lineFollows 7 = .ok (.iload_n 1, 1) := by decide +kernel
theorem d_U_lineFollows_8 : decode b_U_lineFollows 8 = .ok (.iaload, 1) := by decide +kernel
theorem d_U_lineFollows_9 : decode b_U_lineFollows 9 = .ok (.iconst 1, 1) := by decide +kernel
theorem d_U_lineFollows_10 : decode b_U_lineFollows 10 = .ok (.if_icmp .ne 53, 3) := by decide +kernel
theorem d_U_lineFollows_13 : decode b_U_lineFollows 13 = .ok (.aload_n 0, 1) := by decide +kernel
theorem d_U_lineFollows_14 : decode b_U_lineFollows 14 = .ok (.getfield 26, 3) := by decide +kernel
theorem d_U_lineFollows_17 : decode b_U_lineFollows 17 = .ok (.iload_n 1, 1) := by decide +kernel
theorem d_U_lineFollows_18 : decode b_U_lineFollows 18 = .ok (.iconst 0, 1) := by decide +kernel
theorem d_U_lineFollows_19 : decode b_U_lineFollows 19 = .ok (.invokevirtual 35, 3) := by decide +kernel
theorem d_U_lineFollows_22 : decode b_U_lineFollows 22 = .ok (.istore_n 2, 1) := by decide +kernel
theorem d_U_lineFollows_23 : decode b_U_lineFollows 23 = .ok (.aload_n 0, 1) := by decide +kernel
theorem d_U_lineFollows_24 : decode b_U_lineFollows 24 = .ok (.getfield 26, 3) := by decide +kernel
theorem d_U_lineFollows_27 : decode b_U_lineFollows 27 = .ok (.iload_n 1, 1) := by decide +kernel
theorem d_U_lineFollows_28 : decode b_U_lineFollows 28 = .ok (.iconst 1, 1) := by decide +kernel
theorem d_U_lineFollows_29 : decode b_U_lineFollows 29 = .ok (.invokevirtual 35, 3) := by decide +kernel
theorem d_U_lineFollows_32 : decode b_U_lineFollows 32 = .ok (.istore_n 3, 1) := by decide +kernel
theorem d_U_lineFollows_33 : decode b_U_lineFollows 33 = .ok (.aload_n 0, 1) := by decide +kernel
theorem d_U_lineFollows_34 : decode b_U_lineFollows 34 = .ok (.iload_n 2, 1) := by decide +kernel
theorem d_U_lineFollows_35 : decode b_U_lineFollows 35 = .ok (.iload_n 3, 1) := by decide +kernel
theorem d_U_lineFollows_36 : decode b_U_lineFollows 36 = .ok (.iconst 1, 1) := by decide +kernel
theorem d_U_lineFollows_37 : decode b_U_lineFollows 37 = .ok (.ixor, 1) := by decide +kernel
theorem d_U_lineFollows_38 : decode b_U_lineFollows 38 = .ok (.iload_n 1, 1) := by decide +kernel
theorem d_U_lineFollows_39 : decode b_U_lineFollows 39 = .ok (.invokevirtual 39, 3) := by decide +kernel
theorem d_U_lineFollows_42 : decode b_U_lineFollows 42 = .ok (.ifCond .eq 19, 3) := by decide +kernel
theorem d_U_lineFollows_45 : decode b_U_lineFollows 45 = .ok (.aload_n 0, 1) := by decide +kernel
theorem d_U_lineFollows_46 : decode b_U_lineFollows 46 = .ok (.iload_n 2, 1) := by decide +kernel
theorem d_U_lineFollows_47 : decode b_U_lineFollows 47 = .ok (.iconst 1, 1) := by decide +kernel
theorem d_U_lineFollows_48 : decode b_U_lineFollows 48 = .ok (.ixor, 1) := by decide +kernel
theorem d_U_lineFollows_49 : decode b_U_lineFollows 49 = .ok (.iload_n 3, 1) := by decide +kernel
theorem d_U_lineFollows_50 : decode b_U_lineFollows 50 = .ok (.iload_n 1, 1) := by decide +kernel
theorem d_U_lineFollows_51 : decode b_U_lineFollows 51 = .ok (.invokevirtual 39, 3) := by decide +kernel
theorem d_U_lineFollows_54 : decode b_U_lineFollows 54 = .ok (.ifCond .eq 7, 3) := by decide +kernel
theorem d_U_lineFollows_57 : decode b_U_lineFollows 57 = .ok (.iconst 1, 1) := by decide +kernel
theorem d_U_lineFollows_58 : decode b_U_lineFollows 58 = .ok (.goto 4, 3) := by decide +kernel
theorem d_U_lineFollows_61 : decode b_U_lineFollows 61 = .ok (.iconst 0, 1) := by decide +kernel
theorem d_U_lineFollows_62 : decode b_U_lineFollows 62 = .ok (.ireturn, 1) := by decide +kernel
theorem d_U_lineFollows_63 : decode b_U_lineFollows 63 = .ok (.aload_n 0, 1) := by decide +kernel
theorem d_U_lineFollows_64 : decode b_U_lineFollows 64 = .ok (.invokevirtual 43, 3) := by decide +kernel
theorem d_U_lineFollows_67 : decode b_U_lineFollows 67 = .ok (.iconst 0, 1) := by decide +kernel
theorem d_U_lineFollows_68 : decode b_U_lineFollows 68 = .ok (.istore_n 2, 1) := by decide +kernel
theorem d_U_lineFollows_69 : decode b_U_lineFollows 69 = .ok (.iload_n 2, 1) := by decide +kernel
theorem d_U_lineFollows_70 : decode b_U_lineFollows 70 = .ok (.aload_n 0, 1) := by decide +kernel
theorem d_U_lineFollows_71 : decode b_U_lineFollows 71 = .ok (.getfield 26, 3) := by decide +kernel
theorem d_U_lineFollows_74 : decode b_U_lineFollows 74 = .ok (.getfield 46, 3) := by decide +kernel
theorem d_U_lineFollows_77 : decode b_U_lineFollows 77 = .ok (.iload_n 1, 1) := by decide +kernel
theorem d_U_lineFollows_78 : decode b_U_lineFollows 78 = .ok (.iaload, 1) := by decide +kernel
theorem d_U_lineFollows_79 : decode b_U_lineFollows 79 = .ok (.if_icmp .ge 23, 3) := by decide +kernel
theorem d_U_lineFollows_82 : decode b_U_lineFollows 82 = .ok (.aload_n 0, 1) := by decide +kernel
theorem d_U_lineFollows_83 : decode b_U_lineFollows 83 = .ok (.aload_n 0, 1) := by decide +kernel
theorem d_U_lineFollows_84 : decode b_U_lineFollows 84 = .ok (.getfield 26, 3) := by decide +kernel
theorem d_U_lineFollows_87 : decode b_U_lineFollows 87 = .ok (.iload_n 1, 1) := by decide +kernel
theorem d_U_lineFollows_88 : decode b_U_lineFollows 88 = .ok (.iload_n 2, 1) := by decide +kernel
theorem d_U_lineFollows_89 : decode b_U_lineFollows 89 = .ok (.invokevirtual 35, 3) := by decide +kernel
theorem d_U_lineFollows_92 : decode b_U_lineFollows 92 = .ok (.iconst 0, 1) := by decide +kernel
theorem d_U_lineFollows_93 : decode b_U_lineFollows 93 = .ok (.invokevirtual 49, 3) := by decide +kernel
theorem d_U_lineFollows_96 : decode b_U_lineFollows 96 = .ok (.iinc 2 1, 3) := by decide +kernel
theorem d_U_lineFollows_99 : decode b_U_lineFollows 99 = .ok (.goto (-30), 3) := by decide +kernel
theorem d_U_lineFollows_102 : decode b_U_lineFollows 102 = .ok (.aload_n 0, 1) := by decide +kernel
theorem d_U_lineFollows_103 : decode b_U_lineFollows 103 = .ok (.iload_n 1, 1) := by decide +kernel
theorem d_U_lineFollows_104 : decode b_U_lineFollows 104 = .ok (.invokevirtual 53, 3) := by decide +kernel
theorem d_U_lineFollows_107 : decode b_U_lineFollows 107 = .ok (.ireturn, 1) := by decide +kernel
theorem d_U_new_0 : decode b_U_new 0 = .ok (.aload_n 0, 1) := by decide +kernel
theorem d_U_new_1 : decode b_U_new 1 = .ok (.invokespecial 3, 3) := by decide +kernel
theorem d_U_new_4 : decode b_U_new 4 = .ok (.aload_n 0, 1) := by decide +kernel
theorem d_U_new_5 : decode b_U_new 5 = .ok (.bipush 40, 2) := by decide +kernel
theorem d_U_new_7 : decode b_U_new 7 = .ok (.newarray .int, 2) := by decide +kernel
theorem d_U_new_9 : decode b_U_new 9 = .ok (.putfield 9, 3) := by decide +kernel
theorem d_U_new_12 : decode b_U_new 12 = .ok (.aload_n 0, 1) := by decide +kernel
theorem d_U_new_13 : decode b_U_new 13 = .ok (.iconst 0, 1) := by decide +kernel
theorem d_U_new_14 : decode b_U_new 14 = .ok (.putfield 15, 3) := by decide +kernel
theorem d_U_new_17 : decode b_U_new 17 = .ok (.aload_n 0, 1) := by decide +kernel
theorem d_U_new_18 : decode b_U_new 18 = .ok (.iconst 0, 1) := by decide +kernel
theorem d_U_new_19 : decode b_U_new 19 = .ok (.putfield 19, 3) := by decide +kernel
theorem d_U_new_22 : decode b_U_new 22 = .ok (.aload_n 0, 1) := by decide +kernel
theorem d_U_new_23 : decode b_U_new 23 = .ok (.aload_n 1, 1) := by decide +kernel
theorem d_U_new_24 : decode b_U_new 24 = .ok (.putfield 22, 3) := by decide +kernel
theorem d_U_new_27 : decode b_U_new 27 = .ok (.aload_n 0, 1) := by decide +kernel
theorem d_U_new_28 : decode b_U_new 28 = .ok (.aload_n 2, 1) := by decide +kernel
theorem d_U_new_29 : decode b_U_new 29 = .ok (.putfield 26, 3) := by decide +kernel
theorem d_U_new_32 : decode b_U_new 32 = .ok (.return_, 1) := by decide +kernel
def rm_U_begin : Room := { frames := 1, cells := 0, slots := 0, locals := 23 }
set_option maxHeartbeats 4000000 in
set_option maxRecDepth 100000 in
theorem c_U_begin (l : Launch) (D : va_G) (cA : Nat → ClassId) (ad : Nat → Nat) (sz : Nat) (U_conflict : Int32) (U_changed : Int32) (U_told : (Nat → Int32)) (post : Int32 → (Nat → Int32) → Prop) (h : wp_U_begin U_conflict U_told post) : Met l y_U_begin w_U_begin rm_U_begin (mPc D cA [.ref (ad 11)] [(k_U cA ad U_conflict U_changed), (k_U_told cA ad U_told)] sz) (va_Qv (fun (u : Int32 × (Nat → Int32)) => post u.1 u.2) (mB D (va_A [(k_U cA ad U_conflict U_changed), (k_U_told cA ad U_told)] sz) (fun (u : Int32 × (Nat → Int32)) => [(k_U cA ad u.1 U_changed), (k_U_told cA ad u.2)])) (va_A [(k_U cA ad U_conflict U_changed), (k_U_told cA ad U_told)] sz)) 0 0 (va_A [(k_U cA ad U_conflict U_changed), (k_U_told cA ad U_told)] sz) := by
  refine m_methV (by decide) rfl (Nat.le_of_ble_eq_true rfl) ?_
  intro p e s m below meth c A Q ls hx hb hml hown hts hK hA hw hl hE
  have hl : lv_has ls 1 [(0, .ref (ad 11))] := hl
  have hown : s.vm.findClass R_U = some m.cls := hown
  have hg : ∀ {w : Cond}, w ∈ gw → w.before _ s = true := fun h => hts _ (List.mem_cons_of_mem _ h)
  unfold wp_U_begin at h
  refine lv_aload_n hx hb d_U_begin_0 rfl (lv_at hl 0 rfl) ?_
  refine va_get (D := D) (ci := 3) (v := .ref (ad 12)) (C := R_U) (T := T_U) (N := 5) hx hb hts (fun w h => List.mem_cons_of_mem _ (iw_U w h)) hown hK.1 hw.1 0 rfl rfl 2 (by decide) (hg gm_100) (fun _ h9 => h9) rfl d_U_begin_1 ?_
  refine lv_iconst (v := 2) hx hb d_U_begin_4 (by decide) ?_
  refine m_callv (hr := va_runS (As := [.ref (ad 12), .int 2]) (rest := []) ⟨hx, hb, hml, hown, hts⟩ (c_A_fill l D cA ad _ U_told 2 _ h) (va_cwS 2 hts (ginS gm_425 gm_426 gm_13 gm_427) rfl rfl rfl (by decide +kernel) ⟨Nat.le_of_ble_eq_true rfl, Nat.le_of_ble_eq_true rfl⟩) (m_preS hK hw [1] rfl rfl) rfl rfl hl.1 rfl (lv_room (Nat.le_of_ble_eq_true rfl)) d_U_begin_5 ⟨Nat.zero_le _, Nat.zero_le _⟩) (w2 := (fun (u : (Nat → Int32)) => [(k_U cA ad U_conflict U_changed), (k_U_told cA ad u)])) (wr := [(k_U cA ad U_conflict U_changed)]) hw hA [1] [0] [0, 1] rfl rfl (by decide) (by decide) (by decide) (fun _ => rfl) (fun u H locs hw h => ?_)
  obtain ⟨U_told_5, rfl⟩ : ∃ z, z = u := ⟨_, rfl⟩
  have hw : mW D A s.heap [(k_U cA ad U_conflict U_changed), (k_U_told cA ad U_told_5)] H locs := hw
  refine lv_aload_n hx hb d_U_begin_8 rfl (lv_at hl 0 rfl) ?_
  refine va_get (D := D) (ci := 3) (v := .ref (ad 12)) (C := R_U) (T := T_U) (N := 5) hx hb hts (fun w h => List.mem_cons_of_mem _ (iw_U w h)) hown hK.1 hw.1 0 rfl rfl 2 (by decide) (hg gm_100) (fun _ h9 => h9) rfl d_U_begin_9 ?_
  refine lv_iconst (v := 0) hx hb d_U_begin_12 (by decide) ?_
  refine lv_iconst (v := 0) hx hb d_U_begin_13 (by decide) ?_
  refine m_iast (ws' := [(k_U cA ad U_conflict U_changed), (k_U_told cA ad (upd U_told_5 (0 : Int32).toNatClampNeg 0))]) hx hb hK.1 hw 1 0 rfl rfl h.1 rfl d_U_begin_14 (fun H locs hw => ?_)
  have h := h.2
  refine lv_aload_n hx hb d_U_begin_15 rfl (lv_at hl 0 rfl) ?_
  refine lv_iconst (v := 0) hx hb d_U_begin_16 (by decide) ?_
  refine m_put (ws' := [(k_U cA ad 0 U_changed), (k_U_told cA ad (upd U_told_5 (0 : Int32).toNatClampNeg 0))]) (ci := 3) (v := .int 0) (ty := .boolean) (C := R_U) (T := T_U) (N := 5) hx hb hts (fun w h => List.mem_cons_of_mem _ (iw_U w h)) ty_U tyok_U nm_U hown hK.1 hw 0 rfl rfl 3 (by decide) (hg gm_102) (fun _ h9 => h9) rfl (by decide +kernel) rfl rfl (Nat.le_of_ble_eq_true rfl) rfl d_U_begin_17 (fun H locs hw => ?_)
  exact hE (0, (upd U_told_5 (0 : Int32).toNatClampNeg 0)) _ _ _ _ h hw d_U_begin_20
def rm_U_tell : Room := { frames := 0, cells := 0, slots := 0, locals := 0 }
set_option maxHeartbeats 4000000 in
set_option maxRecDepth 100000 in
theorem c_U_tell (l : Launch) (D : va_G) (cA : Nat → ClassId) (ad : Nat → Nat) (sz : Nat) (U_conflict : Int32) (U_changed : Int32) (U_told : (Nat → Int32)) (p1 : Int32) (p2 : Int32) (post : Int32 → Int32 → (Nat → Int32) → Prop) (h : wp_U_tell U_conflict U_changed U_told p1 p2 post) : Met l y_U_tell w_U_tell rm_U_tell (mPc D cA [.ref (ad 11), .int p1, .int p2] [(k_U cA ad U_conflict U_changed), (k_U_told cA ad U_told)] sz) (va_Qv (fun (u : Int32 × Int32 × (Nat → Int32)) => post u.1 u.2.1 u.2.2) (mB D (va_A [(k_U cA ad U_conflict U_changed), (k_U_told cA ad U_told)] sz) (fun (u : Int32 × Int32 × (Nat → Int32)) => [(k_U cA ad u.1 u.2.1), (k_U_told cA ad u.2.2)])) (va_A [(k_U cA ad U_conflict U_changed), (k_U_told cA ad U_told)] sz)) 0 0 (va_A [(k_U cA ad U_conflict U_changed), (k_U_told cA ad U_told)] sz) := by
  refine m_methV (by decide) rfl (Nat.le_of_ble_eq_true rfl) ?_
  intro p e s m below meth c A Q ls hx hb hml hown hts hK hA hw hl hE
  have hl : lv_has ls 5 [(0, .ref (ad 11)), (1, .int p1), (2, .int p2)] := hl
  have hown : s.vm.findClass R_U = some m.cls := hown
  have hg : ∀ {w : Cond}, w ∈ gw → w.before _ s = true := fun h => hts _ (List.mem_cons_of_mem _ h)
  unfold wp_U_tell at h
  refine lv_iload_n hx hb d_U_tell_0 rfl (lv_at hl 1 rfl) ?_
  refine lv_iconst (v := 1) hx hb d_U_tell_1 (by decide) ?_
  refine lv_ishr hx hb d_U_tell_2 ?_
  refine lv_istore_n (lv' := [(3, .int (p1 >>> ((1 : Int32) &&& 31))), (0, .ref (ad 11)), (1, .int p1), (2, .int p2)]) hx hb d_U_tell_3 rfl hl (by decide) rfl (fun ls hl => ?_)
  refine lv_iload_n hx hb d_U_tell_4 rfl (lv_at hl 3 rfl) ?_
  refine lv_iload_n hx hb d_U_tell_5 rfl (lv_at hl 2 rfl) ?_
  refine lv_iconst (v := 1) hx hb d_U_tell_6 (by decide) ?_
  refine lv_iand hx hb d_U_tell_7 ?_
  refine lv_ixor hx hb d_U_tell_8 ?_
  refine lv_istore (lv' := [(4, .int (p2 ^^^ (p1 &&& 1))), (3, .int (p1 >>> ((1 : Int32) &&& 31))), (0, .ref (ad 11)), (1, .int p1), (2, .int p2)]) hx hb d_U_tell_9 hl (by decide) rfl (fun ls hl => ?_)
  refine lv_aload_n hx hb d_U_tell_11 rfl (lv_at hl 2 rfl) ?_
  refine va_get (D := D) (ci := 3) (v := .ref (ad 12)) (C := R_U) (T := T_U) (N := 5) hx hb hts (fun w h => List.mem_cons_of_mem _ (iw_U w h)) hown hK.1 hw.1 0 rfl rfl 2 (by decide) (hg gm_100) (fun _ h9 => h9) rfl d_U_tell_12 ?_
  refine lv_iload_n hx hb d_U_tell_15 rfl (lv_at hl 1 rfl) ?_
  refine va_iald hx hb hK.1 hw.1 1 0 rfl rfl h.1 d_U_tell_16 ?_
  have h := h.2
  refine lv_iconst (v := 2) hx hb d_U_tell_17 (by decide) ?_
  refine lv_icmp_ne (tgt := 37) hx hb d_U_tell_18 (by decide) (fun hc => ?_) (fun hc => ?_)
  · have h := h.2 hc
    refine lv_aload_n hx hb d_U_tell_37 rfl (lv_at hl 2 rfl) ?_
    refine va_get (D := D) (ci := 3) (v := .ref (ad 12)) (C := R_U) (T := T_U) (N := 5) hx hb hts (fun w h => List.mem_cons_of_mem _ (iw_U w h)) hown hK.1 hw.1 0 rfl rfl 2 (by decide) (hg gm_100) (fun _ h9 => h9) rfl d_U_tell_38 ?_
    refine lv_iload_n hx hb d_U_tell_41 rfl (lv_at hl 1 rfl) ?_
    refine va_iald hx hb hK.1 hw.1 1 0 rfl rfl h.1 d_U_tell_42 ?_
    have h := h.2
    refine lv_iload hx hb d_U_tell_43 (lv_at hl 0 rfl) ?_
    refine lv_icmp_eq (tgt := 53) hx hb d_U_tell_45 (by decide) (fun hc => ?_) (fun hc => ?_)
    · have h := h.1 hc
      exact hE (U_conflict, U_changed, U_told) _ _ _ _ h hw d_U_tell_53
    · have h := h.2 hc
      refine lv_aload_n hx hb d_U_tell_48 rfl (lv_at hl 2 rfl) ?_
      refine lv_iconst (v := 1) hx hb d_U_tell_49 (by decide) ?_
      refine m_put (ws' := [(k_U cA ad 1 U_changed), (k_U_told cA ad U_told)]) (ci := 3) (v := .int 1) (ty := .boolean) (C := R_U) (T := T_U) (N := 5) hx hb hts (fun w h => List.mem_cons_of_mem _ (iw_U w h)) ty_U tyok_U nm_U hown hK.1 hw 0 rfl rfl 3 (by decide) (hg gm_102) (fun _ h9 => h9) rfl (by decide +kernel) rfl rfl (Nat.le_of_ble_eq_true rfl) rfl d_U_tell_50 (fun H locs hw => ?_)
      exact hE (1, U_changed, U_told) _ _ _ _ h hw d_U_tell_53
  · have h := h.1 hc
    refine lv_aload_n hx hb d_U_tell_21 rfl (lv_at hl 2 rfl) ?_
    refine va_get (D := D) (ci := 3) (v := .ref (ad 12)) (C := R_U) (T := T_U) (N := 5) hx hb hts (fun w h => List.mem_cons_of_mem _ (iw_U w h)) hown hK.1 hw.1 0 rfl rfl 2 (by decide) (hg gm_100) (fun _ h9 => h9) rfl d_U_tell_22 ?_
    refine lv_iload_n hx hb d_U_tell_25 rfl (lv_at hl 1 rfl) ?_
    refine lv_iload hx hb d_U_tell_26 (lv_at hl 0 rfl) ?_
    refine m_iast (ws' := [(k_U cA ad U_conflict U_changed), (k_U_told cA ad (upd U_told (p1 >>> ((1 : Int32) &&& 31)).toNatClampNeg (p2 ^^^ (p1 &&& 1))))]) hx hb hK.1 hw 1 0 rfl rfl h.1 rfl d_U_tell_28 (fun H locs hw => ?_)
    have h := h.2
    refine lv_aload_n hx hb d_U_tell_29 rfl (lv_at hl 2 rfl) ?_
    refine lv_iconst (v := 1) hx hb d_U_tell_30 (by decide) ?_
    refine m_put (ws' := [(k_U cA ad U_conflict 1), (k_U_told cA ad (upd U_told (p1 >>> ((1 : Int32) &&& 31)).toNatClampNeg (p2 ^^^ (p1 &&& 1))))]) (ci := 3) (v := .int 1) (ty := .boolean) (C := R_U) (T := T_U) (N := 5) hx hb hts (fun w h => List.mem_cons_of_mem _ (iw_U w h)) ty_U tyok_U nm_U hown hK.1 hw 0 rfl rfl 4 (by decide) (hg gm_103) (fun _ h9 => h9) rfl (by decide +kernel) rfl rfl (Nat.le_of_ble_eq_true rfl) rfl d_U_tell_31 (fun H locs hw => ?_)
    refine lv_goto (tgt := 53) hx hb d_U_tell_34 (by decide) ?_
    exact hE (U_conflict, 1, (upd U_told (p1 >>> ((1 : Int32) &&& 31)).toNatClampNeg (p2 ^^^ (p1 &&& 1)))) _ _ _ _ h hw d_U_tell_53
def rm_U_toldOf : Room := { frames := 0, cells := 0, slots := 0, locals := 0 }
set_option maxHeartbeats 4000000 in
set_option maxRecDepth 100000 in
theorem c_U_toldOf (l : Launch) (D : va_G) (cA : Nat → ClassId) (ad : Nat → Nat) (sz : Nat) (U_conflict : Int32) (U_changed : Int32) (U_told : (Nat → Int32)) (p1 : Int32) (post : Int32 → Prop) (h : wp_U_toldOf U_told p1 post) : Met l y_U_toldOf w_U_toldOf rm_U_toldOf (mPc D cA [.ref (ad 11), .int p1] [(k_U cA ad U_conflict U_changed), (k_U_told cA ad U_told)] sz) (va_Qi (fun (r : Int32) (_ : Unit) => post r) (mB D (va_A [(k_U cA ad U_conflict U_changed), (k_U_told cA ad U_told)] sz) (fun (_ : Unit) => [(k_U cA ad U_conflict U_changed), (k_U_told cA ad U_told)])) (va_A [(k_U cA ad U_conflict U_changed), (k_U_told cA ad U_told)] sz)) 0 0 (va_A [(k_U cA ad U_conflict U_changed), (k_U_told cA ad U_told)] sz) := by
  refine m_methI (by decide) rfl (Nat.le_of_ble_eq_true rfl) ?_
  intro p e s m below meth c A Q ls hx hb hml hown hts hK hA hw hl hE
  have hl : lv_has ls 3 [(0, .ref (ad 11)), (1, .int p1)] := hl
  have hown : s.vm.findClass R_U = some m.cls := hown
  have hg : ∀ {w : Cond}, w ∈ gw → w.before _ s = true := fun h => hts _ (List.mem_cons_of_mem _ h)
  unfold wp_U_toldOf at h
  refine lv_aload_n hx hb d_U_toldOf_0 rfl (lv_at hl 0 rfl) ?_
  refine va_get (D := D) (ci := 3) (v := .ref (ad 12)) (C := R_U) (T := T_U) (N := 5) hx hb hts (fun w h => List.mem_cons_of_mem _ (iw_U w h)) hown hK.1 hw.1 0 rfl rfl 2 (by decide) (hg gm_100) (fun _ h9 => h9) rfl d_U_toldOf_1 ?_
  refine lv_iload_n hx hb d_U_toldOf_4 rfl (lv_at hl 1 rfl) ?_
  refine lv_iconst (v := 1) hx hb d_U_toldOf_5 (by decide) ?_
  refine lv_ishr hx hb d_U_toldOf_6 ?_
  refine va_iald hx hb hK.1 hw.1 1 0 rfl rfl h.1 d_U_toldOf_7 ?_
  have h := h.2
  refine lv_istore_n (lv' := [(2, .int (U_told (p1 >>> ((1 : Int32) &&& 31)).toNatClampNeg)), (0, .ref (ad 11)), (1, .int p1)]) hx hb d_U_toldOf_8 rfl hl (by decide) rfl (fun ls hl => ?_)
  refine lv_iload_n hx hb d_U_toldOf_9 rfl (lv_at hl 0 rfl) ?_
  refine lv_iconst (v := 2) hx hb d_U_toldOf_10 (by decide) ?_
  refine lv_icmp_ne (tgt := 18) hx hb d_U_toldOf_11 (by decide) (fun hc => ?_) (fun hc => ?_)
  · have h := h.2 hc
    refine lv_iload_n hx hb d_U_toldOf_18 rfl (lv_at hl 0 rfl) ?_
    refine lv_iload_n hx hb d_U_toldOf_19 rfl (lv_at hl 2 rfl) ?_
    refine lv_iconst (v := 1) hx hb d_U_toldOf_20 (by decide) ?_
    refine lv_iand hx hb d_U_toldOf_21 ?_
    refine lv_ixor hx hb d_U_toldOf_22 ?_
    exact hE ((U_told (p1 >>> ((1 : Int32) &&& 31)).toNatClampNeg) ^^^ (p1 &&& 1)) () _ _ _ _ h hw d_U_toldOf_23
  · have h := h.1 hc
    refine lv_iconst (v := 2) hx hb d_U_toldOf_14 (by decide) ?_
    refine lv_goto (tgt := 23) hx hb d_U_toldOf_15 (by decide) ?_
    exact hE 2 () _ _ _ _ h hw d_U_toldOf_23
def rm_U_stepEither : Room := { frames := 1, cells := 0, slots := 0, locals := 24 }
set_option maxHeartbeats 4000000 in
set_option maxRecDepth 100000 in
theorem c_U_stepEither (l : Launch) (D : va_G) (cA : Nat → ClassId) (ad : Nat → Nat) (sz : Nat) (U_conflict : Int32) (U_changed : Int32) (U_told : (Nat → Int32)) (p1 : Int32) (p2 : Int32) (p3 : Int32) (post : Int32 → Int32 → (Nat → Int32) → Prop) (h : wp_U_stepEither U_conflict U_changed U_told p1 p2 p3 post) : Met l y_U_stepEither w_U_stepEither rm_U_stepEither (mPc D cA [.ref (ad 11), .int p1, .int p2, .int p3] [(k_U cA ad U_conflict U_changed), (k_U_told cA ad U_told)] sz) (va_Qv (fun (u : Int32 × Int32 × (Nat → Int32)) => post u.1 u.2.1 u.2.2) (mB D (va_A [(k_U cA ad U_conflict U_changed), (k_U_told cA ad U_told)] sz) (fun (u : Int32 × Int32 × (Nat → Int32)) => [(k_U cA ad u.1 u.2.1), (k_U_told cA ad u.2.2)])) (va_A [(k_U cA ad U_conflict U_changed), (k_U_told cA ad U_told)] sz)) 0 0 (va_A [(k_U cA ad U_conflict U_changed), (k_U_told cA ad U_told)] sz) := by
  refine m_methV (by decide) rfl (Nat.le_of_ble_eq_true rfl) ?_
  intro p e s m below meth c A Q ls hx hb hml hown hts hK hA hw hl hE
  have hl : lv_has ls 7 [(0, .ref (ad 11)), (1, .int p1), (2, .int p2), (3, .int p3)] := hl
  have hown : s.vm.findClass R_U = some m.cls := hown
  have hg : ∀ {w : Cond}, w ∈ gw → w.before _ s = true := fun h => hts _ (List.mem_cons_of_mem _ h)
  have j68 : ∀ (x4 : Int32) (x6 : Int32) (U_conflict : Int32) (U_changed : Int32) (U_told : (Nat → Int32)) (H : Heap) (locs : List Loc) (ls : Array Slot), s_U_stepEither_68 p1 p2 p3 post x4 x6 U_conflict U_changed U_told → mW D A s.heap [(k_U cA ad U_conflict U_changed), (k_U_told cA ad U_told)] H locs → lv_has ls 7 [(0, .ref (ad 11)), (2, .int p2), (4, .int x4), (6, .int x6)] → W p l e rm_U_stepEither s m [.ref (ad 11), .int p1, .int p2, .int p3].toArray below meth c H locs 0 0 Q (F0 m 68 ls []) := by
    intro x4 x6 U_conflict U_changed U_told H locs ls h hw hl
    unfold s_U_stepEither_68 at h
    refine lv_iload hx hb d_U_stepEither_68 (lv_at hl 2 rfl) ?_
    refine lv_iconst (v := 2) hx hb d_U_stepEither_70 (by decide) ?_
    refine lv_icmp_eq (tgt := 90) hx hb d_U_stepEither_71 (by decide) (fun hc => ?_) (fun hc => ?_)
    · have h := h.1 hc
      exact hE (U_conflict, U_changed, U_told) _ _ _ _ h hw d_U_stepEither_90
    · have h := h.2 hc
      refine lv_iload hx hb d_U_stepEither_74 (lv_at hl 3 rfl) ?_
      refine lv_iconst (v := 2) hx hb d_U_stepEither_76 (by decide) ?_
      refine lv_icmp_eq (tgt := 90) hx hb d_U_stepEither_77 (by decide) (fun hc => ?_) (fun hc => ?_)
      · have h := h.1 hc
        exact hE (U_conflict, U_changed, U_told) _ _ _ _ h hw d_U_stepEither_90
      · have h := h.2 hc
        refine lv_aload_n hx hb d_U_stepEither_80 rfl (lv_at hl 0 rfl) ?_
        refine lv_iload_n hx hb d_U_stepEither_81 rfl (lv_at hl 1 rfl) ?_
        refine lv_iload hx hb d_U_stepEither_82 (lv_at hl 2 rfl) ?_
        refine lv_iload hx hb d_U_stepEither_84 (lv_at hl 3 rfl) ?_
        refine lv_ixor hx hb d_U_stepEither_86 ?_
        refine m_callv (hr := va_runV (As := [.int p2, .int (x4 ^^^ x6)]) (rest := []) ⟨hx, hb, hml, hown, hts⟩ (c_U_tell l D cA ad _ U_conflict U_changed U_told p2 (x4 ^^^ x6) _ h) (cwV 2 hts (ginV gm_428 gm_430 gs_27 gm_4 gm_431) rfl rfl rfl (by decide +kernel) ⟨Nat.le_of_ble_eq_true rfl, Nat.le_of_ble_eq_true rfl⟩) (m_preV 3 0 rfl rfl hK hw [0, 1] rfl rfl) rfl rfl hl.1 rfl (lv_room (Nat.le_of_ble_eq_true rfl)) d_U_stepEither_87 ⟨Nat.zero_le _, Nat.zero_le _⟩) (w2 := (fun (u : Int32 × Int32 × (Nat → Int32)) => [(k_U cA ad u.1 u.2.1), (k_U_told cA ad u.2.2)])) (wr := []) hw hA [0, 1] [] [0, 1] rfl rfl (by decide) (by decide) (by decide) (fun _ => rfl) (fun u H locs hw h => ?_)
        obtain ⟨U_conflict_87, U_changed_87, U_told_87⟩ := u
        have hw : mW D A s.heap [(k_U cA ad U_conflict_87 U_changed_87), (k_U_told cA ad U_told_87)] H locs := hw
        exact hE (U_conflict_87, U_changed_87, U_told_87) _ _ _ _ h hw d_U_stepEither_90
  have j46 : ∀ (x4 : Int32) (x5 : Int32) (x6 : Int32) (U_conflict : Int32) (U_changed : Int32) (U_told : (Nat → Int32)) (H : Heap) (locs : List Loc) (ls : Array Slot), s_U_stepEither_46 p1 p2 p3 post x4 x5 x6 U_conflict U_changed U_told → mW D A s.heap [(k_U cA ad U_conflict U_changed), (k_U_told cA ad U_told)] H locs → lv_has ls 7 [(0, .ref (ad 11)), (2, .int p2), (3, .int p3), (4, .int x4), (5, .int x5), (6, .int x6)] → W p l e rm_U_stepEither s m [.ref (ad 11), .int p1, .int p2, .int p3].toArray below meth c H locs 0 0 Q (F0 m 46 ls []) := by
    intro x4 x5 x6 U_conflict U_changed U_told H locs ls h hw hl
    unfold s_U_stepEither_46 at h
    refine lv_iload hx hb d_U_stepEither_46 (lv_at hl 3 rfl) ?_
    refine lv_iconst (v := 2) hx hb d_U_stepEither_48 (by decide) ?_
    refine lv_icmp_eq (tgt := 68) hx hb d_U_stepEither_49 (by decide) (fun hc => ?_) (fun hc => ?_)
    · have h := h.1 hc
      exact j68 _ _ _ _ _ _ _ _ h hw (lv_sub hl [0, 1, 3, 5] rfl)
    · have h := h.2 hc
      refine lv_iload hx hb d_U_stepEither_52 (lv_at hl 4 rfl) ?_
      refine lv_iconst (v := 2) hx hb d_U_stepEither_54 (by decide) ?_
      refine lv_icmp_eq (tgt := 68) hx hb d_U_stepEither_55 (by decide) (fun hc => ?_) (fun hc => ?_)
      · have h := h.1 hc
        exact j68 _ _ _ _ _ _ _ _ h hw (lv_sub hl [0, 1, 3, 5] rfl)
      · have h := h.2 hc
        refine lv_aload_n hx hb d_U_stepEither_58 rfl (lv_at hl 0 rfl) ?_
        refine lv_iload_n hx hb d_U_stepEither_59 rfl (lv_at hl 2 rfl) ?_
        refine lv_iload hx hb d_U_stepEither_60 (lv_at hl 3 rfl) ?_
        refine lv_iload hx hb d_U_stepEither_62 (lv_at hl 4 rfl) ?_
        refine lv_ixor hx hb d_U_stepEither_64 ?_
        refine m_callv (hr := va_runV (As := [.int p3, .int (x4 ^^^ x5)]) (rest := []) ⟨hx, hb, hml, hown, hts⟩ (c_U_tell l D cA ad _ U_conflict U_changed U_told p3 (x4 ^^^ x5) _ h) (cwV 2 hts (ginV gm_428 gm_430 gs_27 gm_4 gm_431) rfl rfl rfl (by decide +kernel) ⟨Nat.le_of_ble_eq_true rfl, Nat.le_of_ble_eq_true rfl⟩) (m_preV 3 0 rfl rfl hK hw [0, 1] rfl rfl) rfl rfl hl.1 rfl (lv_room (Nat.le_of_ble_eq_true rfl)) d_U_stepEither_65 ⟨Nat.zero_le _, Nat.zero_le _⟩) (w2 := (fun (u : Int32 × Int32 × (Nat → Int32)) => [(k_U cA ad u.1 u.2.1), (k_U_told cA ad u.2.2)])) (wr := []) hw hA [0, 1] [] [0, 1] rfl rfl (by decide) (by decide) (by decide) (fun _ => rfl) (fun u H locs hw h => ?_)
        obtain ⟨U_conflict_65, U_changed_65, U_told_65⟩ := u
        have hw : mW D A s.heap [(k_U cA ad U_conflict_65 U_changed_65), (k_U_told cA ad U_told_65)] H locs := hw
        exact j68 _ _ _ _ _ _ _ _ h hw (lv_sub hl [0, 1, 3, 5] rfl)
  unfold wp_U_stepEither at h
  refine lv_aload_n hx hb d_U_stepEither_0 rfl (lv_at hl 0 rfl) ?_
  refine va_get (D := D) (ci := 3) (v := .ref (ad 12)) (C := R_U) (T := T_U) (N := 5) hx hb hts (fun w h => List.mem_cons_of_mem _ (iw_U w h)) hown hK.1 hw.1 0 rfl rfl 2 (by decide) (hg gm_100) (fun _ h9 => h9) rfl d_U_stepEither_1 ?_
  refine lv_iload_n hx hb d_U_stepEither_4 rfl (lv_at hl 1 rfl) ?_
  refine va_iald hx hb hK.1 hw.1 1 0 rfl rfl h.1 d_U_stepEither_5 ?_
  have h := h.2
  refine lv_istore (lv' := [(4, .int (U_told p1.toNatClampNeg)), (0, .ref (ad 11)), (1, .int p1), (2, .int p2), (3, .int p3)]) hx hb d_U_stepEither_6 hl (by decide) rfl (fun ls hl => ?_)
  refine lv_aload_n hx hb d_U_stepEither_8 rfl (lv_at hl 1 rfl) ?_
  refine lv_iload_n hx hb d_U_stepEither_9 rfl (lv_at hl 3 rfl) ?_
  refine m_calli (hr := va_runV (As := [.int p2]) (rest := []) ⟨hx, hb, hml, hown, hts⟩ (c_U_toldOf l D cA ad _ U_conflict U_changed U_told p2 _ h) (cwV 1 hts (ginV gm_440 gm_442 gs_30 gm_4 gm_443) rfl rfl rfl (by decide +kernel) ⟨Nat.le_of_ble_eq_true rfl, Nat.le_of_ble_eq_true rfl⟩) (m_preV 3 0 rfl rfl hK hw [0, 1] rfl rfl) rfl rfl hl.1 rfl (lv_room (Nat.le_of_ble_eq_true rfl)) d_U_stepEither_10 ⟨Nat.zero_le _, Nat.zero_le _⟩) (w2 := (fun (_ : Unit) => [(k_U cA ad U_conflict U_changed), (k_U_told cA ad U_told)])) (wr := []) hw hA [0, 1] [] [0, 1] rfl rfl (by decide) (by decide) (by decide) (fun _ => rfl) (fun r10 u H locs hw h => ?_)
  refine lv_istore (lv' := [(5, .int r10), (4, .int (U_told p1.toNatClampNeg)), (0, .ref (ad 11)), (1, .int p1), (2, .int p2), (3, .int p3)]) hx hb d_U_stepEither_13 hl (by decide) rfl (fun ls hl => ?_)
  refine lv_aload_n hx hb d_U_stepEither_15 rfl (lv_at hl 2 rfl) ?_
  refine lv_iload_n hx hb d_U_stepEither_16 rfl (lv_at hl 5 rfl) ?_
  refine m_calli (hr := va_runV (As := [.int p3]) (rest := []) ⟨hx, hb, hml, hown, hts⟩ (c_U_toldOf l D cA ad _ U_conflict U_changed U_told p3 _ h) (cwV 1 hts (ginV gm_440 gm_442 gs_30 gm_4 gm_443) rfl rfl rfl (by decide +kernel) ⟨Nat.le_of_ble_eq_true rfl, Nat.le_of_ble_eq_true rfl⟩) (m_preV 3 0 rfl rfl hK hw [0, 1] rfl rfl) rfl rfl hl.1 rfl (lv_room (Nat.le_of_ble_eq_true rfl)) d_U_stepEither_17 ⟨Nat.zero_le _, Nat.zero_le _⟩) (w2 := (fun (_ : Unit) => [(k_U cA ad U_conflict U_changed), (k_U_told cA ad U_told)])) (wr := []) hw hA [0, 1] [] [0, 1] rfl rfl (by decide) (by decide) (by decide) (fun _ => rfl) (fun r17 u H locs hw h => ?_)
  refine lv_istore (lv' := [(6, .int r17), (5, .int r10), (4, .int (U_told p1.toNatClampNeg)), (0, .ref (ad 11)), (1, .int p1), (2, .int p2), (3, .int p3)]) hx hb d_U_stepEither_20 hl (by decide) rfl (fun ls hl => ?_)
  refine lv_iload hx hb d_U_stepEither_22 (lv_at hl 1 rfl) ?_
  refine lv_iconst (v := 2) hx hb d_U_stepEither_24 (by decide) ?_
  refine lv_icmp_eq (tgt := 46) hx hb d_U_stepEither_25 (by decide) (fun hc => ?_) (fun hc => ?_)
  · have h := h.1 hc
    exact j46 _ _ _ _ _ _ _ _ _ h hw (lv_sub hl [3, 5, 6, 2, 1, 0] rfl)
  · have h := h.2 hc
    refine lv_iload hx hb d_U_stepEither_28 (lv_at hl 0 rfl) ?_
    refine lv_iconst (v := 2) hx hb d_U_stepEither_30 (by decide) ?_
    refine lv_icmp_eq (tgt := 46) hx hb d_U_stepEither_31 (by decide) (fun hc => ?_) (fun hc => ?_)
    · have h := h.1 hc
      exact j46 _ _ _ _ _ _ _ _ _ h hw (lv_sub hl [3, 5, 6, 2, 1, 0] rfl)
    · have h := h.2 hc
      refine lv_aload_n hx hb d_U_stepEither_34 rfl (lv_at hl 3 rfl) ?_
      refine lv_iconst (v := 2) hx hb d_U_stepEither_35 (by decide) ?_
      refine lv_iload_n hx hb d_U_stepEither_36 rfl (lv_at hl 4 rfl) ?_
      refine lv_imul hx hb d_U_stepEither_37 ?_
      refine lv_iload hx hb d_U_stepEither_38 (lv_at hl 1 rfl) ?_
      refine lv_iload hx hb d_U_stepEither_40 (lv_at hl 0 rfl) ?_
      refine lv_ixor hx hb d_U_stepEither_42 ?_
      refine m_callv (hr := va_runV (As := [.int (2 * p1), .int (r10 ^^^ r17)]) (rest := []) ⟨hx, hb, hml, hown, hts⟩ (c_U_tell l D cA ad _ U_conflict U_changed U_told (2 * p1) (r10 ^^^ r17) _ h) (cwV 2 hts (ginV gm_428 gm_430 gs_27 gm_4 gm_431) rfl rfl rfl (by decide +kernel) ⟨Nat.le_of_ble_eq_true rfl, Nat.le_of_ble_eq_true rfl⟩) (m_preV 3 0 rfl rfl hK hw [0, 1] rfl rfl) rfl rfl hl.1 rfl (lv_room (Nat.le_of_ble_eq_true rfl)) d_U_stepEither_43 ⟨Nat.zero_le _, Nat.zero_le _⟩) (w2 := (fun (u : Int32 × Int32 × (Nat → Int32)) => [(k_U cA ad u.1 u.2.1), (k_U_told cA ad u.2.2)])) (wr := []) hw hA [0, 1] [] [0, 1] rfl rfl (by decide) (by decide) (by decide) (fun _ => rfl) (fun u H locs hw h => ?_)
      obtain ⟨U_conflict_43, U_changed_43, U_told_43⟩ := u
      have hw : mW D A s.heap [(k_U cA ad U_conflict_43 U_changed_43), (k_U_told cA ad U_told_43)] H locs := hw
      exact j46 _ _ _ _ _ _ _ _ _ h hw (lv_sub hl [3, 5, 6, 2, 1, 0] rfl)
def rm_U_stepAnd : Room := { frames := 1, cells := 0, slots := 0, locals := 24 }
set_option maxHeartbeats 4000000 in
set_option maxRecDepth 100000 in
theorem c_U_stepAnd (l : Launch) (D : va_G) (cA : Nat → ClassId) (ad : Nat → Nat) (sz : Nat) (U_conflict : Int32) (U_changed : Int32) (U_told : (Nat → Int32)) (p1 : Int32) (p2 : Int32) (p3 : Int32) (post : Int32 → Int32 → (Nat → Int32) → Prop) (h : wp_U_stepAnd U_conflict U_changed U_told p1 p2 p3 post) : Met l y_U_stepAnd w_U_stepAnd rm_U_stepAnd (mPc D cA [.ref (ad 11), .int p1, .int p2, .int p3] [(k_U cA ad U_conflict U_changed), (k_U_told cA ad U_told)] sz) (va_Qv (fun (u : Int32 × Int32 × (Nat → Int32)) => post u.1 u.2.1 u.2.2) (mB D (va_A [(k_U cA ad U_conflict U_changed), (k_U_told cA ad U_told)] sz) (fun (u : Int32 × Int32 × (Nat → Int32)) => [(k_U cA ad u.1 u.2.1), (k_U_told cA ad u.2.2)])) (va_A [(k_U cA ad U_conflict U_changed), (k_U_told cA ad U_told)] sz)) 0 0 (va_A [(k_U cA ad U_conflict U_changed), (k_U_told cA ad U_told)] sz) := by
  refine m_methV (by decide) rfl (Nat.le_of_ble_eq_true rfl) ?_
  intro p e s m below meth c A Q ls hx hb hml hown hts hK hA hw hl hE
  have hl : lv_has ls 7 [(0, .ref (ad 11)), (1, .int p1), (2, .int p2), (3, .int p3)] := hl
  have hown : s.vm.findClass R_U = some m.cls := hown
  have hg : ∀ {w : Cond}, w ∈ gw → w.before _ s = true := fun h => hts _ (List.mem_cons_of_mem _ h)
  have j95 : ∀ (x4 : Int32) (x6 : Int32) (U_conflict : Int32) (U_changed : Int32) (U_told : (Nat → Int32)) (H : Heap) (locs : List Loc) (ls : Array Slot), s_U_stepAnd_95 p1 p2 p3 post x4 x6 U_conflict U_changed U_told → mW D A s.heap [(k_U cA ad U_conflict U_changed), (k_U_told cA ad U_told)] H locs → lv_has ls 7 [(0, .ref (ad 11)), (2, .int p2), (4, .int x4), (6, .int x6)] → W p l e rm_U_stepAnd s m [.ref (ad 11), .int p1, .int p2, .int p3].toArray below meth c H locs 0 0 Q (F0 m 95 ls []) := by
    intro x4 x6 U_conflict U_changed U_told H locs ls h hw hl
    unfold s_U_stepAnd_95 at h
    refine lv_iload hx hb d_U_stepAnd_95 (lv_at hl 2 rfl) ?_
    refine lv_if_ne (tgt := 112) hx hb d_U_stepAnd_97 (by decide) (fun hc => ?_) (fun hc => ?_)
    · have h := h.2 hc
      exact hE (U_conflict, U_changed, U_told) _ _ _ _ h hw d_U_stepAnd_112
    · have h := h.1 hc
      refine lv_iload hx hb d_U_stepAnd_100 (lv_at hl 3 rfl) ?_
      refine lv_iconst (v := 1) hx hb d_U_stepAnd_102 (by decide) ?_
      refine lv_icmp_ne (tgt := 112) hx hb d_U_stepAnd_103 (by decide) (fun hc => ?_) (fun hc => ?_)
      · have h := h.2 hc
        exact hE (U_conflict, U_changed, U_told) _ _ _ _ h hw d_U_stepAnd_112
      · have h := h.1 hc
        refine lv_aload_n hx hb d_U_stepAnd_106 rfl (lv_at hl 0 rfl) ?_
        refine lv_iload_n hx hb d_U_stepAnd_107 rfl (lv_at hl 1 rfl) ?_
        refine lv_iconst (v := 0) hx hb d_U_stepAnd_108 (by decide) ?_
        refine m_callv (hr := va_runV (As := [.int p2, .int 0]) (rest := []) ⟨hx, hb, hml, hown, hts⟩ (c_U_tell l D cA ad _ U_conflict U_changed U_told p2 0 _ h) (cwV 2 hts (ginV gm_428 gm_430 gs_27 gm_4 gm_431) rfl rfl rfl (by decide +kernel) ⟨Nat.le_of_ble_eq_true rfl, Nat.le_of_ble_eq_true rfl⟩) (m_preV 3 0 rfl rfl hK hw [0, 1] rfl rfl) rfl rfl hl.1 rfl (lv_room (Nat.le_of_ble_eq_true rfl)) d_U_stepAnd_109 ⟨Nat.zero_le _, Nat.zero_le _⟩) (w2 := (fun (u : Int32 × Int32 × (Nat → Int32)) => [(k_U cA ad u.1 u.2.1), (k_U_told cA ad u.2.2)])) (wr := []) hw hA [0, 1] [] [0, 1] rfl rfl (by decide) (by decide) (by decide) (fun _ => rfl) (fun u H locs hw h => ?_)
        obtain ⟨U_conflict_109, U_changed_109, U_told_109⟩ := u
        have hw : mW D A s.heap [(k_U cA ad U_conflict_109 U_changed_109), (k_U_told cA ad U_told_109)] H locs := hw
        exact hE (U_conflict_109, U_changed_109, U_told_109) _ _ _ _ h hw d_U_stepAnd_112
  have j78 : ∀ (x4 : Int32) (x5 : Int32) (x6 : Int32) (U_conflict : Int32) (U_changed : Int32) (U_told : (Nat → Int32)) (H : Heap) (locs : List Loc) (ls : Array Slot), s_U_stepAnd_78 p1 p2 p3 post x4 x5 x6 U_conflict U_changed U_told → mW D A s.heap [(k_U cA ad U_conflict U_changed), (k_U_told cA ad U_told)] H locs → lv_has ls 7 [(0, .ref (ad 11)), (2, .int p2), (3, .int p3), (4, .int x4), (5, .int x5), (6, .int x6)] → W p l e rm_U_stepAnd s m [.ref (ad 11), .int p1, .int p2, .int p3].toArray below meth c H locs 0 0 Q (F0 m 78 ls []) := by
    intro x4 x5 x6 U_conflict U_changed U_told H locs ls h hw hl
    unfold s_U_stepAnd_78 at h
    refine lv_iload hx hb d_U_stepAnd_78 (lv_at hl 3 rfl) ?_
    refine lv_if_ne (tgt := 95) hx hb d_U_stepAnd_80 (by decide) (fun hc => ?_) (fun hc => ?_)
    · have h := h.2 hc
      exact j95 _ _ _ _ _ _ _ _ h hw (lv_sub hl [0, 1, 3, 5] rfl)
    · have h := h.1 hc
      refine lv_iload hx hb d_U_stepAnd_83 (lv_at hl 4 rfl) ?_
      refine lv_iconst (v := 1) hx hb d_U_stepAnd_85 (by decide) ?_
      refine lv_icmp_ne (tgt := 95) hx hb d_U_stepAnd_86 (by decide) (fun hc => ?_) (fun hc => ?_)
      · have h := h.2 hc
        exact j95 _ _ _ _ _ _ _ _ h hw (lv_sub hl [0, 1, 3, 5] rfl)
      · have h := h.1 hc
        refine lv_aload_n hx hb d_U_stepAnd_89 rfl (lv_at hl 0 rfl) ?_
        refine lv_iload_n hx hb d_U_stepAnd_90 rfl (lv_at hl 2 rfl) ?_
        refine lv_iconst (v := 0) hx hb d_U_stepAnd_91 (by decide) ?_
        refine m_callv (hr := va_runV (As := [.int p3, .int 0]) (rest := []) ⟨hx, hb, hml, hown, hts⟩ (c_U_tell l D cA ad _ U_conflict U_changed U_told p3 0 _ h) (cwV 2 hts (ginV gm_428 gm_430 gs_27 gm_4 gm_431) rfl rfl rfl (by decide +kernel) ⟨Nat.le_of_ble_eq_true rfl, Nat.le_of_ble_eq_true rfl⟩) (m_preV 3 0 rfl rfl hK hw [0, 1] rfl rfl) rfl rfl hl.1 rfl (lv_room (Nat.le_of_ble_eq_true rfl)) d_U_stepAnd_92 ⟨Nat.zero_le _, Nat.zero_le _⟩) (w2 := (fun (u : Int32 × Int32 × (Nat → Int32)) => [(k_U cA ad u.1 u.2.1), (k_U_told cA ad u.2.2)])) (wr := []) hw hA [0, 1] [] [0, 1] rfl rfl (by decide) (by decide) (by decide) (fun _ => rfl) (fun u H locs hw h => ?_)
        obtain ⟨U_conflict_92, U_changed_92, U_told_92⟩ := u
        have hw : mW D A s.heap [(k_U cA ad U_conflict_92 U_changed_92), (k_U_told cA ad U_told_92)] H locs := hw
        exact j95 _ _ _ _ _ _ _ _ h hw (lv_sub hl [0, 1, 3, 5] rfl)
  have j60 : ∀ (x4 : Int32) (x5 : Int32) (x6 : Int32) (U_conflict : Int32) (U_changed : Int32) (U_told : (Nat → Int32)) (H : Heap) (locs : List Loc) (ls : Array Slot), s_U_stepAnd_60 p1 p2 p3 post x4 x5 x6 U_conflict U_changed U_told → mW D A s.heap [(k_U cA ad U_conflict U_changed), (k_U_told cA ad U_told)] H locs → lv_has ls 7 [(0, .ref (ad 11)), (2, .int p2), (3, .int p3), (4, .int x4), (5, .int x5), (6, .int x6)] → W p l e rm_U_stepAnd s m [.ref (ad 11), .int p1, .int p2, .int p3].toArray below meth c H locs 0 0 Q (F0 m 60 ls []) := by
    intro x4 x5 x6 U_conflict U_changed U_told H locs ls h hw hl
    unfold s_U_stepAnd_60 at h
    refine lv_iload hx hb d_U_stepAnd_60 (lv_at hl 3 rfl) ?_
    refine lv_iconst (v := 1) hx hb d_U_stepAnd_62 (by decide) ?_
    refine lv_icmp_ne (tgt := 78) hx hb d_U_stepAnd_63 (by decide) (fun hc => ?_) (fun hc => ?_)
    · have h := h.2 hc
      exact j78 _ _ _ _ _ _ _ _ _ h hw (lv_sub hl [0, 1, 2, 3, 4, 5] rfl)
    · have h := h.1 hc
      refine lv_aload_n hx hb d_U_stepAnd_66 rfl (lv_at hl 0 rfl) ?_
      refine lv_iload_n hx hb d_U_stepAnd_67 rfl (lv_at hl 1 rfl) ?_
      refine lv_iconst (v := 1) hx hb d_U_stepAnd_68 (by decide) ?_
      refine m_callv (hr := va_runV (As := [.int p2, .int 1]) (rest := []) ⟨hx, hb, hml, hown, hts⟩ (c_U_tell l D cA ad _ U_conflict U_changed U_told p2 1 _ h) (cwV 2 hts (ginV gm_428 gm_430 gs_27 gm_4 gm_431) rfl rfl rfl (by decide +kernel) ⟨Nat.le_of_ble_eq_true rfl, Nat.le_of_ble_eq_true rfl⟩) (m_preV 3 0 rfl rfl hK hw [0, 1] rfl rfl) rfl rfl hl.1 rfl (lv_room (Nat.le_of_ble_eq_true rfl)) d_U_stepAnd_69 ⟨Nat.zero_le _, Nat.zero_le _⟩) (w2 := (fun (u : Int32 × Int32 × (Nat → Int32)) => [(k_U cA ad u.1 u.2.1), (k_U_told cA ad u.2.2)])) (wr := []) hw hA [0, 1] [] [0, 1] rfl rfl (by decide) (by decide) (by decide) (fun _ => rfl) (fun u H locs hw h => ?_)
      obtain ⟨U_conflict_69, U_changed_69, U_told_69⟩ := u
      have hw : mW D A s.heap [(k_U cA ad U_conflict_69 U_changed_69), (k_U_told cA ad U_told_69)] H locs := hw
      refine lv_aload_n hx hb d_U_stepAnd_72 rfl (lv_at hl 0 rfl) ?_
      refine lv_iload_n hx hb d_U_stepAnd_73 rfl (lv_at hl 2 rfl) ?_
      refine lv_iconst (v := 1) hx hb d_U_stepAnd_74 (by decide) ?_
      refine m_callv (hr := va_runV (As := [.int p3, .int 1]) (rest := []) ⟨hx, hb, hml, hown, hts⟩ (c_U_tell l D cA ad _ U_conflict_69 U_changed_69 U_told_69 p3 1 _ h) (cwV 2 hts (ginV gm_428 gm_430 gs_27 gm_4 gm_431) rfl rfl rfl (by decide +kernel) ⟨Nat.le_of_ble_eq_true rfl, Nat.le_of_ble_eq_true rfl⟩) (m_preV 3 0 rfl rfl hK hw [0, 1] rfl rfl) rfl rfl hl.1 rfl (lv_room (Nat.le_of_ble_eq_true rfl)) d_U_stepAnd_75 ⟨Nat.zero_le _, Nat.zero_le _⟩) (w2 := (fun (u : Int32 × Int32 × (Nat → Int32)) => [(k_U cA ad u.1 u.2.1), (k_U_told cA ad u.2.2)])) (wr := []) hw hA [0, 1] [] [0, 1] rfl rfl (by decide) (by decide) (by decide) (fun _ => rfl) (fun u H locs hw h => ?_)
      obtain ⟨U_conflict_75, U_changed_75, U_told_75⟩ := u
      have hw : mW D A s.heap [(k_U cA ad U_conflict_75 U_changed_75), (k_U_told cA ad U_told_75)] H locs := hw
      exact j78 _ _ _ _ _ _ _ _ _ h hw (lv_sub hl [0, 1, 2, 3, 4, 5] rfl)
  have j40 : ∀ (x4 : Int32) (x5 : Int32) (x6 : Int32) (U_conflict : Int32) (U_changed : Int32) (U_told : (Nat → Int32)) (H : Heap) (locs : List Loc) (ls : Array Slot), s_U_stepAnd_40 p1 p2 p3 post x4 x5 x6 U_conflict U_changed U_told → mW D A s.heap [(k_U cA ad U_conflict U_changed), (k_U_told cA ad U_told)] H locs → lv_has ls 7 [(0, .ref (ad 11)), (1, .int p1), (2, .int p2), (3, .int p3), (4, .int x4), (5, .int x5), (6, .int x6)] → W p l e rm_U_stepAnd s m [.ref (ad 11), .int p1, .int p2, .int p3].toArray below meth c H locs 0 0 Q (F0 m 40 ls []) := by
    intro x4 x5 x6 U_conflict U_changed U_told H locs ls h hw hl
    unfold s_U_stepAnd_40 at h
    refine lv_iload hx hb d_U_stepAnd_40 (lv_at hl 5 rfl) ?_
    refine lv_iconst (v := 1) hx hb d_U_stepAnd_42 (by decide) ?_
    refine lv_icmp_ne (tgt := 60) hx hb d_U_stepAnd_43 (by decide) (fun hc => ?_) (fun hc => ?_)
    · have h := h.2 hc
      exact j60 _ _ _ _ _ _ _ _ _ h hw (lv_sub hl [0, 2, 3, 4, 5, 6] rfl)
    · have h := h.1 hc
      refine lv_iload hx hb d_U_stepAnd_46 (lv_at hl 6 rfl) ?_
      refine lv_iconst (v := 1) hx hb d_U_stepAnd_48 (by decide) ?_
      refine lv_icmp_ne (tgt := 60) hx hb d_U_stepAnd_49 (by decide) (fun hc => ?_) (fun hc => ?_)
      · have h := h.2 hc
        exact j60 _ _ _ _ _ _ _ _ _ h hw (lv_sub hl [0, 2, 3, 4, 5, 6] rfl)
      · have h := h.1 hc
        refine lv_aload_n hx hb d_U_stepAnd_52 rfl (lv_at hl 0 rfl) ?_
        refine lv_iconst (v := 2) hx hb d_U_stepAnd_53 (by decide) ?_
        refine lv_iload_n hx hb d_U_stepAnd_54 rfl (lv_at hl 1 rfl) ?_
        refine lv_imul hx hb d_U_stepAnd_55 ?_
        refine lv_iconst (v := 1) hx hb d_U_stepAnd_56 (by decide) ?_
        refine m_callv (hr := va_runV (As := [.int (2 * p1), .int 1]) (rest := []) ⟨hx, hb, hml, hown, hts⟩ (c_U_tell l D cA ad _ U_conflict U_changed U_told (2 * p1) 1 _ h) (cwV 2 hts (ginV gm_428 gm_430 gs_27 gm_4 gm_431) rfl rfl rfl (by decide +kernel) ⟨Nat.le_of_ble_eq_true rfl, Nat.le_of_ble_eq_true rfl⟩) (m_preV 3 0 rfl rfl hK hw [0, 1] rfl rfl) rfl rfl hl.1 rfl (lv_room (Nat.le_of_ble_eq_true rfl)) d_U_stepAnd_57 ⟨Nat.zero_le _, Nat.zero_le _⟩) (w2 := (fun (u : Int32 × Int32 × (Nat → Int32)) => [(k_U cA ad u.1 u.2.1), (k_U_told cA ad u.2.2)])) (wr := []) hw hA [0, 1] [] [0, 1] rfl rfl (by decide) (by decide) (by decide) (fun _ => rfl) (fun u H locs hw h => ?_)
        obtain ⟨U_conflict_57, U_changed_57, U_told_57⟩ := u
        have hw : mW D A s.heap [(k_U cA ad U_conflict_57 U_changed_57), (k_U_told cA ad U_told_57)] H locs := hw
        exact j60 _ _ _ _ _ _ _ _ _ h hw (lv_sub hl [0, 2, 3, 4, 5, 6] rfl)
  have j32 : ∀ (x4 : Int32) (x5 : Int32) (x6 : Int32) (U_conflict : Int32) (U_changed : Int32) (U_told : (Nat → Int32)) (H : Heap) (locs : List Loc) (ls : Array Slot), s_U_stepAnd_32 p1 p2 p3 post x4 x5 x6 U_conflict U_changed U_told → mW D A s.heap [(k_U cA ad U_conflict U_changed), (k_U_told cA ad U_told)] H locs → lv_has ls 7 [(0, .ref (ad 11)), (1, .int p1), (2, .int p2), (3, .int p3), (4, .int x4), (5, .int x5), (6, .int x6)] → W p l e rm_U_stepAnd s m [.ref (ad 11), .int p1, .int p2, .int p3].toArray below meth c H locs 0 0 Q (F0 m 32 ls []) := by
    intro x4 x5 x6 U_conflict U_changed U_told H locs ls h hw hl
    unfold s_U_stepAnd_32 at h
    refine lv_aload_n hx hb d_U_stepAnd_32 rfl (lv_at hl 0 rfl) ?_
    refine lv_iconst (v := 2) hx hb d_U_stepAnd_33 (by decide) ?_
    refine lv_iload_n hx hb d_U_stepAnd_34 rfl (lv_at hl 1 rfl) ?_
    refine lv_imul hx hb d_U_stepAnd_35 ?_
    refine lv_iconst (v := 0) hx hb d_U_stepAnd_36 (by decide) ?_
    refine m_callv (hr := va_runV (As := [.int (2 * p1), .int 0]) (rest := []) ⟨hx, hb, hml, hown, hts⟩ (c_U_tell l D cA ad _ U_conflict U_changed U_told (2 * p1) 0 _ h) (cwV 2 hts (ginV gm_428 gm_430 gs_27 gm_4 gm_431) rfl rfl rfl (by decide +kernel) ⟨Nat.le_of_ble_eq_true rfl, Nat.le_of_ble_eq_true rfl⟩) (m_preV 3 0 rfl rfl hK hw [0, 1] rfl rfl) rfl rfl hl.1 rfl (lv_room (Nat.le_of_ble_eq_true rfl)) d_U_stepAnd_37 ⟨Nat.zero_le _, Nat.zero_le _⟩) (w2 := (fun (u : Int32 × Int32 × (Nat → Int32)) => [(k_U cA ad u.1 u.2.1), (k_U_told cA ad u.2.2)])) (wr := []) hw hA [0, 1] [] [0, 1] rfl rfl (by decide) (by decide) (by decide) (fun _ => rfl) (fun u H locs hw h => ?_)
    obtain ⟨U_conflict_37, U_changed_37, U_told_37⟩ := u
    have hw : mW D A s.heap [(k_U cA ad U_conflict_37 U_changed_37), (k_U_told cA ad U_told_37)] H locs := hw
    exact j40 _ _ _ _ _ _ _ _ _ h hw (lv_sub hl [0, 1, 2, 3, 4, 5, 6] rfl)
  unfold wp_U_stepAnd at h
  refine lv_aload_n hx hb d_U_stepAnd_0 rfl (lv_at hl 0 rfl) ?_
  refine va_get (D := D) (ci := 3) (v := .ref (ad 12)) (C := R_U) (T := T_U) (N := 5) hx hb hts (fun w h => List.mem_cons_of_mem _ (iw_U w h)) hown hK.1 hw.1 0 rfl rfl 2 (by decide) (hg gm_100) (fun _ h9 => h9) rfl d_U_stepAnd_1 ?_
  refine lv_iload_n hx hb d_U_stepAnd_4 rfl (lv_at hl 1 rfl) ?_
  refine va_iald hx hb hK.1 hw.1 1 0 rfl rfl h.1 d_U_stepAnd_5 ?_
  have h := h.2
  refine lv_istore (lv' := [(4, .int (U_told p1.toNatClampNeg)), (0, .ref (ad 11)), (1, .int p1), (2, .int p2), (3, .int p3)]) hx hb d_U_stepAnd_6 hl (by decide) rfl (fun ls hl => ?_)
  refine lv_aload_n hx hb d_U_stepAnd_8 rfl (lv_at hl 1 rfl) ?_
  refine lv_iload_n hx hb d_U_stepAnd_9 rfl (lv_at hl 3 rfl) ?_
  refine m_calli (hr := va_runV (As := [.int p2]) (rest := []) ⟨hx, hb, hml, hown, hts⟩ (c_U_toldOf l D cA ad _ U_conflict U_changed U_told p2 _ h) (cwV 1 hts (ginV gm_440 gm_442 gs_30 gm_4 gm_443) rfl rfl rfl (by decide +kernel) ⟨Nat.le_of_ble_eq_true rfl, Nat.le_of_ble_eq_true rfl⟩) (m_preV 3 0 rfl rfl hK hw [0, 1] rfl rfl) rfl rfl hl.1 rfl (lv_room (Nat.le_of_ble_eq_true rfl)) d_U_stepAnd_10 ⟨Nat.zero_le _, Nat.zero_le _⟩) (w2 := (fun (_ : Unit) => [(k_U cA ad U_conflict U_changed), (k_U_told cA ad U_told)])) (wr := []) hw hA [0, 1] [] [0, 1] rfl rfl (by decide) (by decide) (by decide) (fun _ => rfl) (fun r10 u H locs hw h => ?_)
  refine lv_istore (lv' := [(5, .int r10), (4, .int (U_told p1.toNatClampNeg)), (0, .ref (ad 11)), (1, .int p1), (2, .int p2), (3, .int p3)]) hx hb d_U_stepAnd_13 hl (by decide) rfl (fun ls hl => ?_)
  refine lv_aload_n hx hb d_U_stepAnd_15 rfl (lv_at hl 2 rfl) ?_
  refine lv_iload_n hx hb d_U_stepAnd_16 rfl (lv_at hl 5 rfl) ?_
  refine m_calli (hr := va_runV (As := [.int p3]) (rest := []) ⟨hx, hb, hml, hown, hts⟩ (c_U_toldOf l D cA ad _ U_conflict U_changed U_told p3 _ h) (cwV 1 hts (ginV gm_440 gm_442 gs_30 gm_4 gm_443) rfl rfl rfl (by decide +kernel) ⟨Nat.le_of_ble_eq_true rfl, Nat.le_of_ble_eq_true rfl⟩) (m_preV 3 0 rfl rfl hK hw [0, 1] rfl rfl) rfl rfl hl.1 rfl (lv_room (Nat.le_of_ble_eq_true rfl)) d_U_stepAnd_17 ⟨Nat.zero_le _, Nat.zero_le _⟩) (w2 := (fun (_ : Unit) => [(k_U cA ad U_conflict U_changed), (k_U_told cA ad U_told)])) (wr := []) hw hA [0, 1] [] [0, 1] rfl rfl (by decide) (by decide) (by decide) (fun _ => rfl) (fun r17 u H locs hw h => ?_)
  refine lv_istore (lv' := [(6, .int r17), (5, .int r10), (4, .int (U_told p1.toNatClampNeg)), (0, .ref (ad 11)), (1, .int p1), (2, .int p2), (3, .int p3)]) hx hb d_U_stepAnd_20 hl (by decide) rfl (fun ls hl => ?_)
  refine lv_iload hx hb d_U_stepAnd_22 (lv_at hl 1 rfl) ?_
  refine lv_if_eq (tgt := 32) hx hb d_U_stepAnd_24 (by decide) (fun hc => ?_) (fun hc => ?_)
  · have h := h.1 hc
    exact j32 _ _ _ _ _ _ _ _ _ h hw (lv_sub hl [3, 4, 5, 6, 2, 1, 0] rfl)
  · have h := h.2 hc
    refine lv_iload hx hb d_U_stepAnd_27 (lv_at hl 0 rfl) ?_
    refine lv_if_ne (tgt := 40) hx hb d_U_stepAnd_29 (by decide) (fun hc => ?_) (fun hc => ?_)
    · have h := h.2 hc
      exact j40 _ _ _ _ _ _ _ _ _ h hw (lv_sub hl [3, 4, 5, 6, 2, 1, 0] rfl)
    · have h := h.1 hc
      exact j32 _ _ _ _ _ _ _ _ _ h hw (lv_sub hl [3, 4, 5, 6, 2, 1, 0] rfl)
def rm_U_stepClause : Room := { frames := 1, cells := 0, slots := 0, locals := 24 }
set_option maxHeartbeats 4000000 in
set_option maxRecDepth 100000 in
theorem c_U_stepClause (l : Launch) (D : va_G) (cA : Nat → ClassId) (ad : Nat → Nat) (sz : Nat) (F_size : Int32) (F_sizes : (Nat → Int32)) (F_literals : (Nat → Int32)) (U_conflict : Int32) (U_changed : Int32) (U_told : (Nat → Int32)) (p1 : Int32) (post : Int32 → Int32 → (Nat → Int32) → Prop) (h : wp_U_stepClause F_sizes F_literals U_conflict U_changed U_told p1 post) : Met l y_U_stepClause w_U_stepClause rm_U_stepClause (mPc D cA [.ref (ad 11), .int p1] [(k_F cA ad F_size), (k_F_sizes cA ad F_sizes), (k_F_literals cA ad F_literals), (k_U cA ad U_conflict U_changed), (k_U_told cA ad U_told)] sz) (va_Qv (fun (u : Int32 × Int32 × (Nat → Int32)) => post u.1 u.2.1 u.2.2) (mB D (va_A [(k_F cA ad F_size), (k_F_sizes cA ad F_sizes), (k_F_literals cA ad F_literals), (k_U cA ad U_conflict U_changed), (k_U_told cA ad U_told)] sz) (fun (u : Int32 × Int32 × (Nat → Int32)) => [(k_F cA ad F_size), (k_F_sizes cA ad F_sizes), (k_F_literals cA ad F_literals), (k_U cA ad u.1 u.2.1), (k_U_told cA ad u.2.2)])) (va_A [(k_F cA ad F_size), (k_F_sizes cA ad F_sizes), (k_F_literals cA ad F_literals), (k_U cA ad U_conflict U_changed), (k_U_told cA ad U_told)] sz)) 0 0 (va_A [(k_F cA ad F_size), (k_F_sizes cA ad F_sizes), (k_F_literals cA ad F_literals), (k_U cA ad U_conflict U_changed), (k_U_told cA ad U_told)] sz) := by
  refine m_methV (by decide) rfl (Nat.le_of_ble_eq_true rfl) ?_
  intro p e s m below meth c A Q ls hx hb hml hown hts hK hA hw hl hE
  have hl : lv_has ls 6 [(0, .ref (ad 11)), (1, .int p1)] := hl
  have hown : s.vm.findClass R_U = some m.cls := hown
  have hg : ∀ {w : Cond}, w ∈ gw → w.before _ s = true := fun h => hts _ (List.mem_cons_of_mem _ h)
  obtain ⟨C7, hC7⟩ : ∃ C : Int32 → Int32 → Int32 → Int32 → Int32 → (Nat → Int32) → Prop, ∀ (x2 : Int32) (x3 : Int32) (x4 : Int32) (U_conflict : Int32) (U_changed : Int32) (U_told : (Nat → Int32)), C x2 x3 x4 U_conflict U_changed U_told ↔ (∀ (H : Heap) (locs : List Loc) (ls : Array Slot), mW D A s.heap [(k_F cA ad F_size), (k_F_sizes cA ad F_sizes), (k_F_literals cA ad F_literals), (k_U cA ad U_conflict U_changed), (k_U_told cA ad U_told)] H locs → lv_has ls 6 [(0, .ref (ad 11)), (1, .int p1), (2, .int x2), (3, .int x3), (4, .int x4)] → W p l e rm_U_stepClause s m [.ref (ad 11), .int p1].toArray below meth c H locs 0 0 Q (F0 m 7 ls [])) := ⟨_, fun _ _ _ _ _ _ => Iff.rfl⟩
  have j48 : ∀ (x2 : Int32) (x3 : Int32) (x4 : Int32) (U_conflict : Int32) (U_changed : Int32) (U_told : (Nat → Int32)) (H : Heap) (locs : List Loc) (ls : Array Slot), s_U_stepClause_48 F_sizes F_literals p1 C7 post x2 x3 x4 U_conflict U_changed U_told → mW D A s.heap [(k_F cA ad F_size), (k_F_sizes cA ad F_sizes), (k_F_literals cA ad F_literals), (k_U cA ad U_conflict U_changed), (k_U_told cA ad U_told)] H locs → lv_has ls 6 [(0, .ref (ad 11)), (1, .int p1), (2, .int x2), (3, .int x3), (4, .int x4)] → W p l e rm_U_stepClause s m [.ref (ad 11), .int p1].toArray below meth c H locs 0 0 Q (F0 m 48 ls []) := by
    intro x2 x3 x4 U_conflict U_changed U_told H locs ls h hw hl
    unfold s_U_stepClause_48 at h
    refine lv_iinc (v := (x4 + 1)) (lv' := [(4, .int (x4 + 1)), (0, .ref (ad 11)), (1, .int p1), (2, .int x2), (3, .int x3)]) hx hb d_U_stepClause_48 hl (k := 4) rfl rfl (by decide) rfl (fun ls hl => ?_)
    refine lv_goto (tgt := 7) hx hb d_U_stepClause_51 (by decide) ?_
    exact (hC7 _ _ _ _ _ _).1 h _ _ _ hw (lv_sub hl [1, 2, 3, 4, 0] rfl)
  have hc7 : ∀ (x2 : Int32) (x3 : Int32) (x4 : Int32) (U_conflict : Int32) (U_changed : Int32) (U_told : (Nat → Int32)), s_U_stepClause_7 F_sizes F_literals p1 C7 post x2 x3 x4 U_conflict U_changed U_told → C7 x2 x3 x4 U_conflict U_changed U_told := by
    intro x2 x3 x4 U_conflict U_changed U_told h
    unfold s_U_stepClause_7 at h
    refine (hC7 _ _ _ _ _ _).2 ?_
    intro H locs ls hw hl
    refine lv_iload hx hb d_U_stepClause_7 (lv_at hl 4 rfl) ?_
    refine lv_aload_n hx hb d_U_stepClause_9 rfl (lv_at hl 0 rfl) ?_
    refine va_get (D := D) (ci := 3) (v := .ref (ad 6)) (C := R_U) (T := T_U) (N := 5) hx hb hts (fun w h => List.mem_cons_of_mem _ (iw_U w h)) hown hK.1 hw.1 3 rfl rfl 1 (by decide) (hg gm_99) (fun _ h9 => h9) rfl d_U_stepClause_10 ?_
    refine va_getN (D := D) (ci := 2) (v := .ref (ad 8)) (C := R_F) (T := T_F) (N := 5) hx hb hts (fun w h => List.mem_cons_of_mem _ (iw_F w h)) hown hK.1 hw.1 0 rfl rfl 1 (by decide) (va_Nw.use rfl (hK.2 _ nw_70)) (fun _ h9 => h9) rfl d_U_stepClause_13 ?_
    refine lv_iload_n hx hb d_U_stepClause_16 rfl (lv_at hl 1 rfl) ?_
    refine va_iald hx hb hK.1 hw.1 1 0 rfl rfl h.1 d_U_stepClause_17 ?_
    have h := h.2
    refine lv_icmp_ge (tgt := 54) hx hb d_U_stepClause_18 (by decide) (fun hc => ?_) (fun hc => ?_)
    · have h := h.1 hc
      refine lv_iload_n hx hb d_U_stepClause_54 rfl (lv_at hl 2 rfl) ?_
      refine lv_if_ne (tgt := 66) hx hb d_U_stepClause_55 (by decide) (fun hc => ?_) (fun hc => ?_)
      · have h := h.2 hc
        refine lv_iload_n hx hb d_U_stepClause_66 rfl (lv_at hl 2 rfl) ?_
        refine lv_iconst (v := 1) hx hb d_U_stepClause_67 (by decide) ?_
        refine lv_icmp_ne (tgt := 77) hx hb d_U_stepClause_68 (by decide) (fun hc => ?_) (fun hc => ?_)
        · have h := h.2 hc
          exact hE (U_conflict, U_changed, U_told) _ _ _ _ h hw d_U_stepClause_77
        · have h := h.1 hc
          refine lv_aload_n hx hb d_U_stepClause_71 rfl (lv_at hl 0 rfl) ?_
          refine lv_iload_n hx hb d_U_stepClause_72 rfl (lv_at hl 3 rfl) ?_
          refine lv_iconst (v := 1) hx hb d_U_stepClause_73 (by decide) ?_
          refine m_callv (hr := va_runV (As := [.int x3, .int 1]) (rest := []) ⟨hx, hb, hml, hown, hts⟩ (c_U_tell l D cA ad _ U_conflict U_changed U_told x3 1 _ h) (cwV 2 hts (ginV gm_428 gm_430 gs_27 gm_4 gm_431) rfl rfl rfl (by decide +kernel) ⟨Nat.le_of_ble_eq_true rfl, Nat.le_of_ble_eq_true rfl⟩) (m_preV 3 3 rfl rfl hK hw [3, 4] rfl rfl) rfl rfl hl.1 rfl (lv_room (Nat.le_of_ble_eq_true rfl)) d_U_stepClause_74 ⟨Nat.zero_le _, Nat.zero_le _⟩) (w2 := (fun (u : Int32 × Int32 × (Nat → Int32)) => [(k_F cA ad F_size), (k_F_sizes cA ad F_sizes), (k_F_literals cA ad F_literals), (k_U cA ad u.1 u.2.1), (k_U_told cA ad u.2.2)])) (wr := [(k_F cA ad F_size), (k_F_sizes cA ad F_sizes), (k_F_literals cA ad F_literals)]) hw hA [3, 4] [0, 1, 2] [0, 1, 2, 3, 4] rfl rfl (by decide) (by decide) (by decide) (fun _ => rfl) (fun u H locs hw h => ?_)
          obtain ⟨U_conflict_74, U_changed_74, U_told_74⟩ := u
          have hw : mW D A s.heap [(k_F cA ad F_size), (k_F_sizes cA ad F_sizes), (k_F_literals cA ad F_literals), (k_U cA ad U_conflict_74 U_changed_74), (k_U_told cA ad U_told_74)] H locs := hw
          exact hE (U_conflict_74, U_changed_74, U_told_74) _ _ _ _ h hw d_U_stepClause_77
      · have h := h.1 hc
        refine lv_aload_n hx hb d_U_stepClause_58 rfl (lv_at hl 0 rfl) ?_
        refine lv_iconst (v := 1) hx hb d_U_stepClause_59 (by decide) ?_
        refine m_put (ws' := [(k_F cA ad F_size), (k_F_sizes cA ad F_sizes), (k_F_literals cA ad F_literals), (k_U cA ad 1 U_changed), (k_U_told cA ad U_told)]) (ci := 3) (v := .int 1) (ty := .boolean) (C := R_U) (T := T_U) (N := 5) hx hb hts (fun w h => List.mem_cons_of_mem _ (iw_U w h)) ty_U tyok_U nm_U hown hK.1 hw 3 rfl rfl 3 (by decide) (hg gm_102) (fun _ h9 => h9) rfl (by decide +kernel) rfl rfl (Nat.le_of_ble_eq_true rfl) rfl d_U_stepClause_60 (fun H locs hw => ?_)
        refine lv_goto (tgt := 77) hx hb d_U_stepClause_63 (by decide) ?_
        exact hE (1, U_changed, U_told) _ _ _ _ h hw d_U_stepClause_77
    · have h := h.2 hc
      refine lv_aload_n hx hb d_U_stepClause_21 rfl (lv_at hl 0 rfl) ?_
      refine va_get (D := D) (ci := 3) (v := .ref (ad 6)) (C := R_U) (T := T_U) (N := 5) hx hb hts (fun w h => List.mem_cons_of_mem _ (iw_U w h)) hown hK.1 hw.1 3 rfl rfl 1 (by decide) (hg gm_99) (fun _ h9 => h9) rfl d_U_stepClause_22 ?_
      refine lv_iload_n hx hb d_U_stepClause_25 rfl (lv_at hl 1 rfl) ?_
      refine lv_iload hx hb d_U_stepClause_26 (lv_at hl 4 rfl) ?_
      refine m_calli (hr := va_runVN (As := [.int p1, .int x4]) (rest := []) ⟨hx, hb, hml, hown, hts⟩ (c_F_literalOf l D cA ad _ F_size F_literals p1 x4 _ h) ⟨va_cnB 2 hts (gin gm_235) rfl rfl rfl (hK.2 _ nw_416) (hg gm_3) (by decide +kernel) ⟨Nat.le_of_ble_eq_true rfl, Nat.le_of_ble_eq_true rfl⟩, hg gm_234, hg gs_16⟩ (m_preV 2 0 rfl rfl hK hw [0, 2] rfl rfl) rfl rfl hl.1 rfl (lv_room (Nat.le_of_ble_eq_true rfl)) d_U_stepClause_28 ⟨Nat.zero_le _, Nat.zero_le _⟩) (w2 := (fun (_ : Unit) => [(k_F cA ad F_size), (k_F_sizes cA ad F_sizes), (k_F_literals cA ad F_literals), (k_U cA ad U_conflict U_changed), (k_U_told cA ad U_told)])) (wr := [(k_F_sizes cA ad F_sizes), (k_U cA ad U_conflict U_changed), (k_U_told cA ad U_told)]) hw hA [0, 2] [1, 3, 4] [3, 0, 4, 1, 2] rfl rfl (by decide) (by decide) (by decide) (fun _ => rfl) (fun r28 u H locs hw h => ?_)
      refine lv_istore (lv' := [(5, .int r28), (0, .ref (ad 11)), (1, .int p1), (2, .int x2), (3, .int x3), (4, .int x4)]) hx hb d_U_stepClause_31 hl (by decide) rfl (fun ls hl => ?_)
      refine lv_aload_n hx hb d_U_stepClause_33 rfl (lv_at hl 1 rfl) ?_
      refine lv_iload hx hb d_U_stepClause_34 (lv_at hl 0 rfl) ?_
      refine m_calli (hr := va_runV (As := [.int r28]) (rest := []) ⟨hx, hb, hml, hown, hts⟩ (c_U_toldOf l D cA ad _ U_conflict U_changed U_told r28 _ h) (cwV 1 hts (ginV gm_440 gm_442 gs_30 gm_4 gm_443) rfl rfl rfl (by decide +kernel) ⟨Nat.le_of_ble_eq_true rfl, Nat.le_of_ble_eq_true rfl⟩) (m_preV 3 3 rfl rfl hK hw [3, 4] rfl rfl) rfl rfl hl.1 rfl (lv_room (Nat.le_of_ble_eq_true rfl)) d_U_stepClause_36 ⟨Nat.zero_le _, Nat.zero_le _⟩) (w2 := (fun (_ : Unit) => [(k_F cA ad F_size), (k_F_sizes cA ad F_sizes), (k_F_literals cA ad F_literals), (k_U cA ad U_conflict U_changed), (k_U_told cA ad U_told)])) (wr := [(k_F cA ad F_size), (k_F_sizes cA ad F_sizes), (k_F_literals cA ad F_literals)]) hw hA [3, 4] [0, 1, 2] [0, 1, 2, 3, 4] rfl rfl (by decide) (by decide) (by decide) (fun _ => rfl) (fun r36 u H locs hw h => ?_)
      refine lv_if_eq (tgt := 48) hx hb d_U_stepClause_39 (by decide) (fun hc => ?_) (fun hc => ?_)
      · have h := h.1 hc
        exact j48 _ _ _ _ _ _ _ _ _ h hw (lv_sub hl [1, 2, 3, 4, 5] rfl)
      · have h := h.2 hc
        refine lv_iinc (v := (x2 + 1)) (lv' := [(2, .int (x2 + 1)), (5, .int r28), (0, .ref (ad 11)), (1, .int p1), (3, .int x3), (4, .int x4)]) hx hb d_U_stepClause_42 hl (k := 3) rfl rfl (by decide) rfl (fun ls hl => ?_)
        refine lv_iload hx hb d_U_stepClause_45 (lv_at hl 1 rfl) ?_
        refine lv_istore_n (lv' := [(3, .int r28), (2, .int (x2 + 1)), (5, .int r28), (0, .ref (ad 11)), (1, .int p1), (4, .int x4)]) hx hb d_U_stepClause_47 rfl hl (by decide) rfl (fun ls hl => ?_)
        exact j48 _ _ _ _ _ _ _ _ _ h hw (lv_sub hl [3, 4, 1, 0, 5] rfl)
  unfold wp_U_stepClause at h
  have h := h C7 hc7
  refine lv_iconst (v := 0) hx hb d_U_stepClause_0 (by decide) ?_
  refine lv_istore_n (lv' := [(2, .int 0), (0, .ref (ad 11)), (1, .int p1)]) hx hb d_U_stepClause_1 rfl hl (by decide) rfl (fun ls hl => ?_)
  refine lv_iconst (v := (-1)) hx hb d_U_stepClause_2 (by decide) ?_
  refine lv_istore_n (lv' := [(3, .int (-1)), (2, .int 0), (0, .ref (ad 11)), (1, .int p1)]) hx hb d_U_stepClause_3 rfl hl (by decide) rfl (fun ls hl => ?_)
  refine lv_iconst (v := 0) hx hb d_U_stepClause_4 (by decide) ?_
  refine lv_istore (lv' := [(4, .int 0), (3, .int (-1)), (2, .int 0), (0, .ref (ad 11)), (1, .int p1)]) hx hb d_U_stepClause_5 hl (by decide) rfl (fun ls hl => ?_)
  exact (hC7 _ _ _ _ _ _).1 h _ _ _ hw (lv_sub hl [3, 4, 2, 1, 0] rfl)
def rm_U_stepEquality : Room := { frames := 1, cells := 0, slots := 0, locals := 24 }
set_option maxHeartbeats 4000000 in
set_option maxRecDepth 100000 in
theorem c_U_stepEquality (l : Launch) (D : va_G) (cA : Nat → ClassId) (ad : Nat → Nat) (sz : Nat) (U_conflict : Int32) (U_changed : Int32) (U_told : (Nat → Int32)) (p1 : Int32) (p2 : Int32) (post : Int32 → Int32 → (Nat → Int32) → Prop) (h : wp_U_stepEquality U_conflict U_changed U_told p1 p2 post) : Met l y_U_stepEquality w_U_stepEquality rm_U_stepEquality (mPc D cA [.ref (ad 11), .int p1, .int p2] [(k_U cA ad U_conflict U_changed), (k_U_told cA ad U_told)] sz) (va_Qv (fun (u : Int32 × Int32 × (Nat → Int32)) => post u.1 u.2.1 u.2.2) (mB D (va_A [(k_U cA ad U_conflict U_changed), (k_U_told cA ad U_told)] sz) (fun (u : Int32 × Int32 × (Nat → Int32)) => [(k_U cA ad u.1 u.2.1), (k_U_told cA ad u.2.2)])) (va_A [(k_U cA ad U_conflict U_changed), (k_U_told cA ad U_told)] sz)) 0 0 (va_A [(k_U cA ad U_conflict U_changed), (k_U_told cA ad U_told)] sz) := by
  refine m_methV (by decide) rfl (Nat.le_of_ble_eq_true rfl) ?_
  intro p e s m below meth c A Q ls hx hb hml hown hts hK hA hw hl hE
  have hl : lv_has ls 5 [(0, .ref (ad 11)), (1, .int p1), (2, .int p2)] := hl
  have hown : s.vm.findClass R_U = some m.cls := hown
  have hg : ∀ {w : Cond}, w ∈ gw → w.before _ s = true := fun h => hts _ (List.mem_cons_of_mem _ h)
  have j24 : ∀ (x4 : Int32) (U_conflict : Int32) (U_changed : Int32) (U_told : (Nat → Int32)) (H : Heap) (locs : List Loc) (ls : Array Slot), s_U_stepEquality_24 p1 p2 post x4 U_conflict U_changed U_told → mW D A s.heap [(k_U cA ad U_conflict U_changed), (k_U_told cA ad U_told)] H locs → lv_has ls 5 [(0, .ref (ad 11)), (1, .int p1), (4, .int x4)] → W p l e rm_U_stepEquality s m [.ref (ad 11), .int p1, .int p2].toArray below meth c H locs 0 0 Q (F0 m 24 ls []) := by
    intro x4 U_conflict U_changed U_told H locs ls h hw hl
    unfold s_U_stepEquality_24 at h
    refine lv_iload hx hb d_U_stepEquality_24 (lv_at hl 2 rfl) ?_
    refine lv_iconst (v := 2) hx hb d_U_stepEquality_26 (by decide) ?_
    refine lv_icmp_eq (tgt := 37) hx hb d_U_stepEquality_27 (by decide) (fun hc => ?_) (fun hc => ?_)
    · have h := h.1 hc
      exact hE (U_conflict, U_changed, U_told) _ _ _ _ h hw d_U_stepEquality_37
    · have h := h.2 hc
      refine lv_aload_n hx hb d_U_stepEquality_30 rfl (lv_at hl 0 rfl) ?_
      refine lv_iload_n hx hb d_U_stepEquality_31 rfl (lv_at hl 1 rfl) ?_
      refine lv_iload hx hb d_U_stepEquality_32 (lv_at hl 2 rfl) ?_
      refine m_callv (hr := va_runV (As := [.int p1, .int x4]) (rest := []) ⟨hx, hb, hml, hown, hts⟩ (c_U_tell l D cA ad _ U_conflict U_changed U_told p1 x4 _ h) (cwV 2 hts (ginV gm_428 gm_430 gs_27 gm_4 gm_431) rfl rfl rfl (by decide +kernel) ⟨Nat.le_of_ble_eq_true rfl, Nat.le_of_ble_eq_true rfl⟩) (m_preV 3 0 rfl rfl hK hw [0, 1] rfl rfl) rfl rfl hl.1 rfl (lv_room (Nat.le_of_ble_eq_true rfl)) d_U_stepEquality_34 ⟨Nat.zero_le _, Nat.zero_le _⟩) (w2 := (fun (u : Int32 × Int32 × (Nat → Int32)) => [(k_U cA ad u.1 u.2.1), (k_U_told cA ad u.2.2)])) (wr := []) hw hA [0, 1] [] [0, 1] rfl rfl (by decide) (by decide) (by decide) (fun _ => rfl) (fun u H locs hw h => ?_)
      obtain ⟨U_conflict_34, U_changed_34, U_told_34⟩ := u
      have hw : mW D A s.heap [(k_U cA ad U_conflict_34 U_changed_34), (k_U_told cA ad U_told_34)] H locs := hw
      exact hE (U_conflict_34, U_changed_34, U_told_34) _ _ _ _ h hw d_U_stepEquality_37
  unfold wp_U_stepEquality at h
  refine lv_aload_n hx hb d_U_stepEquality_0 rfl (lv_at hl 0 rfl) ?_
  refine lv_iload_n hx hb d_U_stepEquality_1 rfl (lv_at hl 1 rfl) ?_
  refine m_calli (hr := va_runV (As := [.int p1]) (rest := []) ⟨hx, hb, hml, hown, hts⟩ (c_U_toldOf l D cA ad _ U_conflict U_changed U_told p1 _ h) (cwV 1 hts (ginV gm_440 gm_442 gs_30 gm_4 gm_443) rfl rfl rfl (by decide +kernel) ⟨Nat.le_of_ble_eq_true rfl, Nat.le_of_ble_eq_true rfl⟩) (m_preV 3 0 rfl rfl hK hw [0, 1] rfl rfl) rfl rfl hl.1 rfl (lv_room (Nat.le_of_ble_eq_true rfl)) d_U_stepEquality_2 ⟨Nat.zero_le _, Nat.zero_le _⟩) (w2 := (fun (_ : Unit) => [(k_U cA ad U_conflict U_changed), (k_U_told cA ad U_told)])) (wr := []) hw hA [0, 1] [] [0, 1] rfl rfl (by decide) (by decide) (by decide) (fun _ => rfl) (fun r2 u H locs hw h => ?_)
  refine lv_istore_n (lv' := [(3, .int r2), (0, .ref (ad 11)), (1, .int p1), (2, .int p2)]) hx hb d_U_stepEquality_5 rfl hl (by decide) rfl (fun ls hl => ?_)
  refine lv_aload_n hx hb d_U_stepEquality_6 rfl (lv_at hl 1 rfl) ?_
  refine lv_iload_n hx hb d_U_stepEquality_7 rfl (lv_at hl 3 rfl) ?_
  refine m_calli (hr := va_runV (As := [.int p2]) (rest := []) ⟨hx, hb, hml, hown, hts⟩ (c_U_toldOf l D cA ad _ U_conflict U_changed U_told p2 _ h) (cwV 1 hts (ginV gm_440 gm_442 gs_30 gm_4 gm_443) rfl rfl rfl (by decide +kernel) ⟨Nat.le_of_ble_eq_true rfl, Nat.le_of_ble_eq_true rfl⟩) (m_preV 3 0 rfl rfl hK hw [0, 1] rfl rfl) rfl rfl hl.1 rfl (lv_room (Nat.le_of_ble_eq_true rfl)) d_U_stepEquality_8 ⟨Nat.zero_le _, Nat.zero_le _⟩) (w2 := (fun (_ : Unit) => [(k_U cA ad U_conflict U_changed), (k_U_told cA ad U_told)])) (wr := []) hw hA [0, 1] [] [0, 1] rfl rfl (by decide) (by decide) (by decide) (fun _ => rfl) (fun r8 u H locs hw h => ?_)
  refine lv_istore (lv' := [(4, .int r8), (3, .int r2), (0, .ref (ad 11)), (1, .int p1), (2, .int p2)]) hx hb d_U_stepEquality_11 hl (by decide) rfl (fun ls hl => ?_)
  refine lv_iload_n hx hb d_U_stepEquality_13 rfl (lv_at hl 1 rfl) ?_
  refine lv_iconst (v := 2) hx hb d_U_stepEquality_14 (by decide) ?_
  refine lv_icmp_eq (tgt := 24) hx hb d_U_stepEquality_15 (by decide) (fun hc => ?_) (fun hc => ?_)
  · have h := h.1 hc
    exact j24 _ _ _ _ _ _ _ h hw (lv_sub hl [2, 3, 0] rfl)
  · have h := h.2 hc
    refine lv_aload_n hx hb d_U_stepEquality_18 rfl (lv_at hl 2 rfl) ?_
    refine lv_iload_n hx hb d_U_stepEquality_19 rfl (lv_at hl 4 rfl) ?_
    refine lv_iload_n hx hb d_U_stepEquality_20 rfl (lv_at hl 1 rfl) ?_
    refine m_callv (hr := va_runV (As := [.int p2, .int r2]) (rest := []) ⟨hx, hb, hml, hown, hts⟩ (c_U_tell l D cA ad _ U_conflict U_changed U_told p2 r2 _ h) (cwV 2 hts (ginV gm_428 gm_430 gs_27 gm_4 gm_431) rfl rfl rfl (by decide +kernel) ⟨Nat.le_of_ble_eq_true rfl, Nat.le_of_ble_eq_true rfl⟩) (m_preV 3 0 rfl rfl hK hw [0, 1] rfl rfl) rfl rfl hl.1 rfl (lv_room (Nat.le_of_ble_eq_true rfl)) d_U_stepEquality_21 ⟨Nat.zero_le _, Nat.zero_le _⟩) (w2 := (fun (u : Int32 × Int32 × (Nat → Int32)) => [(k_U cA ad u.1 u.2.1), (k_U_told cA ad u.2.2)])) (wr := []) hw hA [0, 1] [] [0, 1] rfl rfl (by decide) (by decide) (by decide) (fun _ => rfl) (fun u H locs hw h => ?_)
    obtain ⟨U_conflict_21, U_changed_21, U_told_21⟩ := u
    have hw : mW D A s.heap [(k_U cA ad U_conflict_21 U_changed_21), (k_U_told cA ad U_told_21)] H locs := hw
    exact j24 _ _ _ _ _ _ _ h hw (lv_sub hl [2, 3, 0] rfl)
def rm_U_comeToConflict : Room := { frames := 2, cells := 0, slots := 0, locals := 50 }
set_option maxHeartbeats 4000000 in
set_option maxRecDepth 100000 in
theorem c_U_comeToConflict (l : Launch) (D : va_G) (cA : Nat → ClassId) (ad : Nat → Nat) (sz : Nat) (G_size : Int32) (G_inputs : Int32) (G_kinds : (Nat → Int32)) (G_lefts : (Nat → Int32)) (G_rights : (Nat → Int32)) (F_size : Int32) (F_kinds : (Nat → Int32)) (F_sizes : (Nat → Int32)) (F_literals : (Nat → Int32)) (F_leftOut : (Nat → Int32)) (U_conflict : Int32) (U_changed : Int32) (U_told : (Nat → Int32)) (p1 : Int32) (post : Int32 → Int32 → Int32 → (Nat → Int32) → Prop) (h : wp_U_comeToConflict G_size G_kinds G_lefts G_rights F_kinds F_sizes F_literals F_leftOut U_conflict U_changed U_told p1 post) : Met l y_U_comeToConflict w_U_comeToConflict rm_U_comeToConflict (mPc D cA [.ref (ad 11), .int p1] [(k_G cA ad G_size G_inputs), (k_G_kinds cA ad G_kinds), (k_G_lefts cA ad G_lefts), (k_G_rights cA ad G_rights), (k_F cA ad F_size), (k_F_kinds cA ad F_kinds), (k_F_sizes cA ad F_sizes), (k_F_literals cA ad F_literals), (k_F_leftOut cA ad F_leftOut), (k_U cA ad U_conflict U_changed), (k_U_told cA ad U_told)] sz) (va_Qi (fun (r : Int32) (u : Int32 × Int32 × (Nat → Int32)) => post r u.1 u.2.1 u.2.2) (mB D (va_A [(k_G cA ad G_size G_inputs), (k_G_kinds cA ad G_kinds), (k_G_lefts cA ad G_lefts), (k_G_rights cA ad G_rights), (k_F cA ad F_size), (k_F_kinds cA ad F_kinds), (k_F_sizes cA ad F_sizes), (k_F_literals cA ad F_literals), (k_F_leftOut cA ad F_leftOut), (k_U cA ad U_conflict U_changed), (k_U_told cA ad U_told)] sz) (fun (u : Int32 × Int32 × (Nat → Int32)) => [(k_G cA ad G_size G_inputs), (k_G_kinds cA ad G_kinds), (k_G_lefts cA ad G_lefts), (k_G_rights cA ad G_rights), (k_F cA ad F_size), (k_F_kinds cA ad F_kinds), (k_F_sizes cA ad F_sizes), (k_F_literals cA ad F_literals), (k_F_leftOut cA ad F_leftOut), (k_U cA ad u.1 u.2.1), (k_U_told cA ad u.2.2)])) (va_A [(k_G cA ad G_size G_inputs), (k_G_kinds cA ad G_kinds), (k_G_lefts cA ad G_lefts), (k_G_rights cA ad G_rights), (k_F cA ad F_size), (k_F_kinds cA ad F_kinds), (k_F_sizes cA ad F_sizes), (k_F_literals cA ad F_literals), (k_F_leftOut cA ad F_leftOut), (k_U cA ad U_conflict U_changed), (k_U_told cA ad U_told)] sz)) 0 0 (va_A [(k_G cA ad G_size G_inputs), (k_G_kinds cA ad G_kinds), (k_G_lefts cA ad G_lefts), (k_G_rights cA ad G_rights), (k_F cA ad F_size), (k_F_kinds cA ad F_kinds), (k_F_sizes cA ad F_sizes), (k_F_literals cA ad F_literals), (k_F_leftOut cA ad F_leftOut), (k_U cA ad U_conflict U_changed), (k_U_told cA ad U_told)] sz) := by
  refine m_methZ (by decide) rfl (Nat.le_of_ble_eq_true rfl) ?_
  intro p e s m below meth c A Q ls hx hb hml hown hts hK hA hw hl hE
  have hl : lv_has ls 4 [(0, .ref (ad 11)), (1, .int p1)] := hl
  have hown : s.vm.findClass R_U = some m.cls := hown
  have hg : ∀ {w : Cond}, w ∈ gw → w.before _ s = true := fun h => hts _ (List.mem_cons_of_mem _ h)
  obtain ⟨C7, hC7⟩ : ∃ C : Int32 → Int32 → Int32 → (Nat → Int32) → Prop, ∀ (x2 : Int32) (U_conflict : Int32) (U_changed : Int32) (U_told : (Nat → Int32)), C x2 U_conflict U_changed U_told ↔ (∀ (H : Heap) (locs : List Loc) (ls : Array Slot), mW D A s.heap [(k_G cA ad G_size G_inputs), (k_G_kinds cA ad G_kinds), (k_G_lefts cA ad G_lefts), (k_G_rights cA ad G_rights), (k_F cA ad F_size), (k_F_kinds cA ad F_kinds), (k_F_sizes cA ad F_sizes), (k_F_literals cA ad F_literals), (k_F_leftOut cA ad F_leftOut), (k_U cA ad U_conflict U_changed), (k_U_told cA ad U_told)] H locs → lv_has ls 4 [(0, .ref (ad 11)), (1, .int p1), (2, .int x2)] → W p l e rm_U_comeToConflict s m [.ref (ad 11), .int p1].toArray below meth c H locs 0 0 Q (F0 m 7 ls [])) := ⟨_, fun _ _ _ _ => Iff.rfl⟩
  obtain ⟨C34, hC34⟩ : ∃ C : Int32 → Int32 → Int32 → Int32 → (Nat → Int32) → Prop, ∀ (x2 : Int32) (x3 : Int32) (U_conflict : Int32) (U_changed : Int32) (U_told : (Nat → Int32)), C x2 x3 U_conflict U_changed U_told ↔ (∀ (H : Heap) (locs : List Loc) (ls : Array Slot), mW D A s.heap [(k_G cA ad G_size G_inputs), (k_G_kinds cA ad G_kinds), (k_G_lefts cA ad G_lefts), (k_G_rights cA ad G_rights), (k_F cA ad F_size), (k_F_kinds cA ad F_kinds), (k_F_sizes cA ad F_sizes), (k_F_literals cA ad F_literals), (k_F_leftOut cA ad F_leftOut), (k_U cA ad U_conflict U_changed), (k_U_told cA ad U_told)] H locs → lv_has ls 4 [(0, .ref (ad 11)), (1, .int p1), (2, .int x2), (3, .int x3)] → W p l e rm_U_comeToConflict s m [.ref (ad 11), .int p1].toArray below meth c H locs 0 0 Q (F0 m 34 ls [])) := ⟨_, fun _ _ _ _ _ => Iff.rfl⟩
  obtain ⟨C135, hC135⟩ : ∃ C : Int32 → Int32 → Int32 → Int32 → (Nat → Int32) → Prop, ∀ (x2 : Int32) (x3 : Int32) (U_conflict : Int32) (U_changed : Int32) (U_told : (Nat → Int32)), C x2 x3 U_conflict U_changed U_told ↔ (∀ (H : Heap) (locs : List Loc) (ls : Array Slot), mW D A s.heap [(k_G cA ad G_size G_inputs), (k_G_kinds cA ad G_kinds), (k_G_lefts cA ad G_lefts), (k_G_rights cA ad G_rights), (k_F cA ad F_size), (k_F_kinds cA ad F_kinds), (k_F_sizes cA ad F_sizes), (k_F_literals cA ad F_literals), (k_F_leftOut cA ad F_leftOut), (k_U cA ad U_conflict U_changed), (k_U_told cA ad U_told)] H locs → lv_has ls 4 [(0, .ref (ad 11)), (1, .int p1), (2, .int x2), (3, .int x3)] → W p l e rm_U_comeToConflict s m [.ref (ad 11), .int p1].toArray below meth c H locs 0 0 Q (F0 m 135 ls [])) := ⟨_, fun _ _ _ _ _ => Iff.rfl⟩
  have j211 : ∀ (x2 : Int32) (U_conflict : Int32) (U_changed : Int32) (U_told : (Nat → Int32)) (H : Heap) (locs : List Loc) (ls : Array Slot), s_U_comeToConflict_211 G_size G_kinds G_lefts G_rights F_kinds F_sizes F_literals F_leftOut p1 C7 C34 C135 post x2 U_conflict U_changed U_told → mW D A s.heap [(k_G cA ad G_size G_inputs), (k_G_kinds cA ad G_kinds), (k_G_lefts cA ad G_lefts), (k_G_rights cA ad G_rights), (k_F cA ad F_size), (k_F_kinds cA ad F_kinds), (k_F_sizes cA ad F_sizes), (k_F_literals cA ad F_literals), (k_F_leftOut cA ad F_leftOut), (k_U cA ad U_conflict U_changed), (k_U_told cA ad U_told)] H locs → lv_has ls 4 [(0, .ref (ad 11)), (1, .int p1), (2, .int x2)] → W p l e rm_U_comeToConflict s m [.ref (ad 11), .int p1].toArray below meth c H locs 0 0 Q (F0 m 211 ls []) := by
    intro x2 U_conflict U_changed U_told H locs ls h hw hl
    unfold s_U_comeToConflict_211 at h
    refine lv_iinc (v := (x2 + 1)) (lv' := [(2, .int (x2 + 1)), (0, .ref (ad 11)), (1, .int p1)]) hx hb d_U_comeToConflict_211 hl (k := 2) rfl rfl (by decide) rfl (fun ls hl => ?_)
    refine lv_goto (tgt := 7) hx hb d_U_comeToConflict_214 (by decide) ?_
    exact (hC7 _ _ _ _).1 h _ _ _ hw (lv_sub hl [1, 2, 0] rfl)
  have j205 : ∀ (x2 : Int32) (x3 : Int32) (U_conflict : Int32) (U_changed : Int32) (U_told : (Nat → Int32)) (H : Heap) (locs : List Loc) (ls : Array Slot), s_U_comeToConflict_205 G_size G_kinds G_lefts G_rights F_kinds F_sizes F_literals F_leftOut p1 C7 C34 C135 post x2 x3 U_conflict U_changed U_told → mW D A s.heap [(k_G cA ad G_size G_inputs), (k_G_kinds cA ad G_kinds), (k_G_lefts cA ad G_lefts), (k_G_rights cA ad G_rights), (k_F cA ad F_size), (k_F_kinds cA ad F_kinds), (k_F_sizes cA ad F_sizes), (k_F_literals cA ad F_literals), (k_F_leftOut cA ad F_leftOut), (k_U cA ad U_conflict U_changed), (k_U_told cA ad U_told)] H locs → lv_has ls 4 [(0, .ref (ad 11)), (1, .int p1), (2, .int x2), (3, .int x3)] → W p l e rm_U_comeToConflict s m [.ref (ad 11), .int p1].toArray below meth c H locs 0 0 Q (F0 m 205 ls []) := by
    intro x2 x3 U_conflict U_changed U_told H locs ls h hw hl
    unfold s_U_comeToConflict_205 at h
    refine lv_iinc (v := (x3 + 1)) (lv' := [(3, .int (x3 + 1)), (0, .ref (ad 11)), (1, .int p1), (2, .int x2)]) hx hb d_U_comeToConflict_205 hl (k := 3) rfl rfl (by decide) rfl (fun ls hl => ?_)
    refine lv_goto (tgt := 135) hx hb d_U_comeToConflict_208 (by decide) ?_
    exact (hC135 _ _ _ _ _).1 h _ _ _ hw (lv_sub hl [1, 2, 3, 0] rfl)
  have j133 : ∀ (x2 : Int32) (U_conflict : Int32) (U_changed : Int32) (U_told : (Nat → Int32)) (H : Heap) (locs : List Loc) (ls : Array Slot), s_U_comeToConflict_133 G_size G_kinds G_lefts G_rights F_kinds F_sizes F_literals F_leftOut p1 C7 C34 C135 post x2 U_conflict U_changed U_told → mW D A s.heap [(k_G cA ad G_size G_inputs), (k_G_kinds cA ad G_kinds), (k_G_lefts cA ad G_lefts), (k_G_rights cA ad G_rights), (k_F cA ad F_size), (k_F_kinds cA ad F_kinds), (k_F_sizes cA ad F_sizes), (k_F_literals cA ad F_literals), (k_F_leftOut cA ad F_leftOut), (k_U cA ad U_conflict U_changed), (k_U_told cA ad U_told)] H locs → lv_has ls 4 [(0, .ref (ad 11)), (1, .int p1), (2, .int x2)] → W p l e rm_U_comeToConflict s m [.ref (ad 11), .int p1].toArray below meth c H locs 0 0 Q (F0 m 133 ls []) := by
    intro x2 U_conflict U_changed U_told H locs ls h hw hl
    unfold s_U_comeToConflict_133 at h
    refine lv_iconst (v := 0) hx hb d_U_comeToConflict_133 (by decide) ?_
    refine lv_istore_n (lv' := [(3, .int 0), (0, .ref (ad 11)), (1, .int p1), (2, .int x2)]) hx hb d_U_comeToConflict_134 rfl hl (by decide) rfl (fun ls hl => ?_)
    exact (hC135 _ _ _ _ _).1 h _ _ _ hw (lv_sub hl [1, 2, 3, 0] rfl)
  have j127 : ∀ (x2 : Int32) (x3 : Int32) (U_conflict : Int32) (U_changed : Int32) (U_told : (Nat → Int32)) (H : Heap) (locs : List Loc) (ls : Array Slot), s_U_comeToConflict_127 G_size G_kinds G_lefts G_rights F_kinds F_sizes F_literals F_leftOut p1 C7 C34 C135 post x2 x3 U_conflict U_changed U_told → mW D A s.heap [(k_G cA ad G_size G_inputs), (k_G_kinds cA ad G_kinds), (k_G_lefts cA ad G_lefts), (k_G_rights cA ad G_rights), (k_F cA ad F_size), (k_F_kinds cA ad F_kinds), (k_F_sizes cA ad F_sizes), (k_F_literals cA ad F_literals), (k_F_leftOut cA ad F_leftOut), (k_U cA ad U_conflict U_changed), (k_U_told cA ad U_told)] H locs → lv_has ls 4 [(0, .ref (ad 11)), (1, .int p1), (2, .int x2), (3, .int x3)] → W p l e rm_U_comeToConflict s m [.ref (ad 11), .int p1].toArray below meth c H locs 0 0 Q (F0 m 127 ls []) := by
    intro x2 x3 U_conflict U_changed U_told H locs ls h hw hl
    unfold s_U_comeToConflict_127 at h
    refine lv_iinc (v := (x3 + 1)) (lv' := [(3, .int (x3 + 1)), (0, .ref (ad 11)), (1, .int p1), (2, .int x2)]) hx hb d_U_comeToConflict_127 hl (k := 3) rfl rfl (by decide) rfl (fun ls hl => ?_)
    refine lv_goto (tgt := 34) hx hb d_U_comeToConflict_130 (by decide) ?_
    exact (hC34 _ _ _ _ _).1 h _ _ _ hw (lv_sub hl [1, 2, 3, 0] rfl)
  have hc7 : ∀ (x2 : Int32) (U_conflict : Int32) (U_changed : Int32) (U_told : (Nat → Int32)), s_U_comeToConflict_7 G_size G_kinds G_lefts G_rights F_kinds F_sizes F_literals F_leftOut p1 C7 C34 C135 post x2 U_conflict U_changed U_told → C7 x2 U_conflict U_changed U_told := by
    intro x2 U_conflict U_changed U_told h
    unfold s_U_comeToConflict_7 at h
    refine (hC7 _ _ _ _).2 ?_
    intro H locs ls hw hl
    refine lv_iload_n hx hb d_U_comeToConflict_7 rfl (lv_at hl 2 rfl) ?_
    refine lv_bipush (v := 40) hx hb d_U_comeToConflict_8 (by decide) ?_
    refine lv_icmp_gt (tgt := 217) hx hb d_U_comeToConflict_10 (by decide) (fun hc => ?_) (fun hc => ?_)
    · have h := h.1 hc
      refine lv_aload_n hx hb d_U_comeToConflict_217 rfl (lv_at hl 0 rfl) ?_
      refine va_get (D := D) (ci := 3) (v := .int U_conflict) (C := R_U) (T := T_U) (N := 5) hx hb hts (fun w h => List.mem_cons_of_mem _ (iw_U w h)) hown hK.1 hw.1 9 rfl rfl 3 (by decide) (hg gm_102) (fun _ h9 => h9) rfl d_U_comeToConflict_218 ?_
      exact hE U_conflict (U_conflict, U_changed, U_told) _ _ _ _ h.2 (isB_nar h.1) hw d_U_comeToConflict_221
    · have h := h.2 hc
      refine lv_aload_n hx hb d_U_comeToConflict_13 rfl (lv_at hl 0 rfl) ?_
      refine va_get (D := D) (ci := 3) (v := .int U_changed) (C := R_U) (T := T_U) (N := 5) hx hb hts (fun w h => List.mem_cons_of_mem _ (iw_U w h)) hown hK.1 hw.1 9 rfl rfl 4 (by decide) (hg gm_103) (fun _ h9 => h9) rfl d_U_comeToConflict_14 ?_
      refine lv_if_eq (tgt := 217) hx hb d_U_comeToConflict_17 (by decide) (fun hc => ?_) (fun hc => ?_)
      · have h := h.1 hc
        refine lv_aload_n hx hb d_U_comeToConflict_217 rfl (lv_at hl 0 rfl) ?_
        refine va_get (D := D) (ci := 3) (v := .int U_conflict) (C := R_U) (T := T_U) (N := 5) hx hb hts (fun w h => List.mem_cons_of_mem _ (iw_U w h)) hown hK.1 hw.1 9 rfl rfl 3 (by decide) (hg gm_102) (fun _ h9 => h9) rfl d_U_comeToConflict_218 ?_
        exact hE U_conflict (U_conflict, U_changed, U_told) _ _ _ _ h.2 (isB_nar h.1) hw d_U_comeToConflict_221
      · have h := h.2 hc
        refine lv_aload_n hx hb d_U_comeToConflict_20 rfl (lv_at hl 0 rfl) ?_
        refine va_get (D := D) (ci := 3) (v := .int U_conflict) (C := R_U) (T := T_U) (N := 5) hx hb hts (fun w h => List.mem_cons_of_mem _ (iw_U w h)) hown hK.1 hw.1 9 rfl rfl 3 (by decide) (hg gm_102) (fun _ h9 => h9) rfl d_U_comeToConflict_21 ?_
        refine lv_if_ne (tgt := 217) hx hb d_U_comeToConflict_24 (by decide) (fun hc => ?_) (fun hc => ?_)
        · have h := h.2 hc
          refine lv_aload_n hx hb d_U_comeToConflict_217 rfl (lv_at hl 0 rfl) ?_
          refine va_get (D := D) (ci := 3) (v := .int U_conflict) (C := R_U) (T := T_U) (N := 5) hx hb hts (fun w h => List.mem_cons_of_mem _ (iw_U w h)) hown hK.1 hw.1 9 rfl rfl 3 (by decide) (hg gm_102) (fun _ h9 => h9) rfl d_U_comeToConflict_218 ?_
          exact hE U_conflict (U_conflict, U_changed, U_told) _ _ _ _ h.2 (isB_nar h.1) hw d_U_comeToConflict_221
        · have h := h.1 hc
          refine lv_aload_n hx hb d_U_comeToConflict_27 rfl (lv_at hl 0 rfl) ?_
          refine lv_iconst (v := 0) hx hb d_U_comeToConflict_28 (by decide) ?_
          refine m_put (ws' := [(k_G cA ad G_size G_inputs), (k_G_kinds cA ad G_kinds), (k_G_lefts cA ad G_lefts), (k_G_rights cA ad G_rights), (k_F cA ad F_size), (k_F_kinds cA ad F_kinds), (k_F_sizes cA ad F_sizes), (k_F_literals cA ad F_literals), (k_F_leftOut cA ad F_leftOut), (k_U cA ad U_conflict 0), (k_U_told cA ad U_told)]) (ci := 3) (v := .int 0) (ty := .boolean) (C := R_U) (T := T_U) (N := 5) hx hb hts (fun w h => List.mem_cons_of_mem _ (iw_U w h)) ty_U tyok_U nm_U hown hK.1 hw 9 rfl rfl 4 (by decide) (hg gm_103) (fun _ h9 => h9) rfl (by decide +kernel) rfl rfl (Nat.le_of_ble_eq_true rfl) rfl d_U_comeToConflict_29 (fun H locs hw => ?_)
          refine lv_iconst (v := 1) hx hb d_U_comeToConflict_32 (by decide) ?_
          refine lv_istore_n (lv' := [(3, .int 1), (0, .ref (ad 11)), (1, .int p1), (2, .int x2)]) hx hb d_U_comeToConflict_33 rfl hl (by decide) rfl (fun ls hl => ?_)
          exact (hC34 _ _ _ _ _).1 h _ _ _ hw (lv_sub hl [1, 2, 3, 0] rfl)
  have hc34 : ∀ (x2 : Int32) (x3 : Int32) (U_conflict : Int32) (U_changed : Int32) (U_told : (Nat → Int32)), s_U_comeToConflict_34 G_size G_kinds G_lefts G_rights F_kinds F_sizes F_literals F_leftOut p1 C7 C34 C135 post x2 x3 U_conflict U_changed U_told → C34 x2 x3 U_conflict U_changed U_told := by
    intro x2 x3 U_conflict U_changed U_told h
    unfold s_U_comeToConflict_34 at h
    refine (hC34 _ _ _ _ _).2 ?_
    intro H locs ls hw hl
    refine lv_iload_n hx hb d_U_comeToConflict_34 rfl (lv_at hl 3 rfl) ?_
    refine lv_aload_n hx hb d_U_comeToConflict_35 rfl (lv_at hl 0 rfl) ?_
    refine va_get (D := D) (ci := 3) (v := .ref (ad 1)) (C := R_U) (T := T_U) (N := 5) hx hb hts (fun w h => List.mem_cons_of_mem _ (iw_U w h)) hown hK.1 hw.1 9 rfl rfl 0 (by decide) (hg gm_98) (fun _ h9 => h9) rfl d_U_comeToConflict_36 ?_
    refine va_getN (D := D) (ci := 1) (v := .int G_size) (C := R_G) (T := T_G) (N := 6) hx hb hts (fun w h => List.mem_cons_of_mem _ (iw_G w h)) hown hK.1 hw.1 0 rfl rfl 4 (by decide) (va_Nw.use rfl (hK.2 _ nw_40)) (fun _ h9 => h9) rfl d_U_comeToConflict_39 ?_
    refine lv_icmp_ge (tgt := 133) hx hb d_U_comeToConflict_42 (by decide) (fun hc => ?_) (fun hc => ?_)
    · have h := h.1 hc
      exact j133 _ _ _ _ _ _ _ h hw (lv_sub hl [0, 1, 2] rfl)
    · have h := h.2 hc
      refine lv_aload_n hx hb d_U_comeToConflict_45 rfl (lv_at hl 0 rfl) ?_
      refine va_get (D := D) (ci := 3) (v := .int U_conflict) (C := R_U) (T := T_U) (N := 5) hx hb hts (fun w h => List.mem_cons_of_mem _ (iw_U w h)) hown hK.1 hw.1 9 rfl rfl 3 (by decide) (hg gm_102) (fun _ h9 => h9) rfl d_U_comeToConflict_46 ?_
      refine lv_if_ne (tgt := 133) hx hb d_U_comeToConflict_49 (by decide) (fun hc => ?_) (fun hc => ?_)
      · have h := h.2 hc
        exact j133 _ _ _ _ _ _ _ h hw (lv_sub hl [0, 1, 2] rfl)
      · have h := h.1 hc
        refine lv_aload_n hx hb d_U_comeToConflict_52 rfl (lv_at hl 0 rfl) ?_
        refine va_get (D := D) (ci := 3) (v := .ref (ad 1)) (C := R_U) (T := T_U) (N := 5) hx hb hts (fun w h => List.mem_cons_of_mem _ (iw_U w h)) hown hK.1 hw.1 9 rfl rfl 0 (by decide) (hg gm_98) (fun _ h9 => h9) rfl d_U_comeToConflict_53 ?_
        refine va_getN (D := D) (ci := 1) (v := .ref (ad 2)) (C := R_G) (T := T_G) (N := 6) hx hb hts (fun w h => List.mem_cons_of_mem _ (iw_G w h)) hown hK.1 hw.1 0 rfl rfl 0 (by decide) (va_Nw.use rfl (hK.2 _ nw_32)) (fun _ h9 => h9) rfl d_U_comeToConflict_56 ?_
        refine lv_iload_n hx hb d_U_comeToConflict_59 rfl (lv_at hl 3 rfl) ?_
        refine va_iald hx hb hK.1 hw.1 1 0 rfl rfl h.1 d_U_comeToConflict_60 ?_
        have h := h.2
        refine lv_iconst (v := 1) hx hb d_U_comeToConflict_61 (by decide) ?_
        refine lv_icmp_ne (tgt := 91) hx hb d_U_comeToConflict_62 (by decide) (fun hc => ?_) (fun hc => ?_)
        · have h := h.2 hc
          refine lv_aload_n hx hb d_U_comeToConflict_91 rfl (lv_at hl 0 rfl) ?_
          refine va_get (D := D) (ci := 3) (v := .ref (ad 1)) (C := R_U) (T := T_U) (N := 5) hx hb hts (fun w h => List.mem_cons_of_mem _ (iw_U w h)) hown hK.1 hw.1 9 rfl rfl 0 (by decide) (hg gm_98) (fun _ h9 => h9) rfl d_U_comeToConflict_92 ?_
          refine va_getN (D := D) (ci := 1) (v := .ref (ad 2)) (C := R_G) (T := T_G) (N := 6) hx hb hts (fun w h => List.mem_cons_of_mem _ (iw_G w h)) hown hK.1 hw.1 0 rfl rfl 0 (by decide) (va_Nw.use rfl (hK.2 _ nw_32)) (fun _ h9 => h9) rfl d_U_comeToConflict_95 ?_
          refine lv_iload_n hx hb d_U_comeToConflict_98 rfl (lv_at hl 3 rfl) ?_
          refine va_iald hx hb hK.1 hw.1 1 0 rfl rfl h.1 d_U_comeToConflict_99 ?_
          have h := h.2
          refine lv_iconst (v := 2) hx hb d_U_comeToConflict_100 (by decide) ?_
          refine lv_icmp_ne (tgt := 127) hx hb d_U_comeToConflict_101 (by decide) (fun hc => ?_) (fun hc => ?_)
          · have h := h.2 hc
            exact j127 _ _ _ _ _ _ _ _ h hw (lv_sub hl [0, 1, 2, 3] rfl)
          · have h := h.1 hc
            refine lv_aload_n hx hb d_U_comeToConflict_104 rfl (lv_at hl 0 rfl) ?_
            refine lv_iload_n hx hb d_U_comeToConflict_105 rfl (lv_at hl 3 rfl) ?_
            refine lv_aload_n hx hb d_U_comeToConflict_106 rfl (lv_at hl 0 rfl) ?_
            refine va_get (D := D) (ci := 3) (v := .ref (ad 1)) (C := R_U) (T := T_U) (N := 5) hx hb hts (fun w h => List.mem_cons_of_mem _ (iw_U w h)) hown hK.1 hw.1 9 rfl rfl 0 (by decide) (hg gm_98) (fun _ h9 => h9) rfl d_U_comeToConflict_107 ?_
            refine va_getN (D := D) (ci := 1) (v := .ref (ad 3)) (C := R_G) (T := T_G) (N := 6) hx hb hts (fun w h => List.mem_cons_of_mem _ (iw_G w h)) hown hK.1 hw.1 0 rfl rfl 1 (by decide) (va_Nw.use rfl (hK.2 _ nw_34)) (fun _ h9 => h9) rfl d_U_comeToConflict_110 ?_
            refine lv_iload_n hx hb d_U_comeToConflict_113 rfl (lv_at hl 3 rfl) ?_
            refine va_iald hx hb hK.1 hw.1 2 0 rfl rfl h.1 d_U_comeToConflict_114 ?_
            have h := h.2
            refine lv_aload_n hx hb d_U_comeToConflict_115 rfl (lv_at hl 0 rfl) ?_
            refine va_get (D := D) (ci := 3) (v := .ref (ad 1)) (C := R_U) (T := T_U) (N := 5) hx hb hts (fun w h => List.mem_cons_of_mem _ (iw_U w h)) hown hK.1 hw.1 9 rfl rfl 0 (by decide) (hg gm_98) (fun _ h9 => h9) rfl d_U_comeToConflict_116 ?_
            refine va_getN (D := D) (ci := 1) (v := .ref (ad 4)) (C := R_G) (T := T_G) (N := 6) hx hb hts (fun w h => List.mem_cons_of_mem _ (iw_G w h)) hown hK.1 hw.1 0 rfl rfl 2 (by decide) (va_Nw.use rfl (hK.2 _ nw_36)) (fun _ h9 => h9) rfl d_U_comeToConflict_119 ?_
            refine lv_iload_n hx hb d_U_comeToConflict_122 rfl (lv_at hl 3 rfl) ?_
            refine va_iald hx hb hK.1 hw.1 3 0 rfl rfl h.1 d_U_comeToConflict_123 ?_
            have h := h.2
            refine m_callv (hr := va_runV (As := [.int x3, .int (G_lefts x3.toNatClampNeg), .int (G_rights x3.toNatClampNeg)]) (rest := []) ⟨hx, hb, hml, hown, hts⟩ (c_U_stepEither l D cA ad _ U_conflict U_changed U_told x3 (G_lefts x3.toNatClampNeg) (G_rights x3.toNatClampNeg) _ h) (cwV 3 hts (ginV gm_444 gm_446 gs_31 gm_4 gm_447) rfl rfl rfl (by decide +kernel) ⟨Nat.le_of_ble_eq_true rfl, Nat.le_of_ble_eq_true rfl⟩) (m_preV 3 9 rfl rfl hK hw [9, 10] rfl rfl) rfl rfl hl.1 rfl (lv_room (Nat.le_of_ble_eq_true rfl)) d_U_comeToConflict_124 ⟨Nat.zero_le _, Nat.zero_le _⟩) (w2 := (fun (u : Int32 × Int32 × (Nat → Int32)) => [(k_G cA ad G_size G_inputs), (k_G_kinds cA ad G_kinds), (k_G_lefts cA ad G_lefts), (k_G_rights cA ad G_rights), (k_F cA ad F_size), (k_F_kinds cA ad F_kinds), (k_F_sizes cA ad F_sizes), (k_F_literals cA ad F_literals), (k_F_leftOut cA ad F_leftOut), (k_U cA ad u.1 u.2.1), (k_U_told cA ad u.2.2)])) (wr := [(k_G cA ad G_size G_inputs), (k_G_kinds cA ad G_kinds), (k_G_lefts cA ad G_lefts), (k_G_rights cA ad G_rights), (k_F cA ad F_size), (k_F_kinds cA ad F_kinds), (k_F_sizes cA ad F_sizes), (k_F_literals cA ad F_literals), (k_F_leftOut cA ad F_leftOut)]) hw hA [9, 10] [0, 1, 2, 3, 4, 5, 6, 7, 8] [0, 1, 2, 3, 4, 5, 6, 7, 8, 9, 10] rfl rfl (by decide) (by decide) (by decide) (fun _ => rfl) (fun u H locs hw h => ?_)
            obtain ⟨U_conflict_124, U_changed_124, U_told_124⟩ := u
            have hw : mW D A s.heap [(k_G cA ad G_size G_inputs), (k_G_kinds cA ad G_kinds), (k_G_lefts cA ad G_lefts), (k_G_rights cA ad G_rights), (k_F cA ad F_size), (k_F_kinds cA ad F_kinds), (k_F_sizes cA ad F_sizes), (k_F_literals cA ad F_literals), (k_F_leftOut cA ad F_leftOut), (k_U cA ad U_conflict_124 U_changed_124), (k_U_told cA ad U_told_124)] H locs := hw
            exact j127 _ _ _ _ _ _ _ _ h hw (lv_sub hl [0, 1, 2, 3] rfl)
        · have h := h.1 hc
          refine lv_aload_n hx hb d_U_comeToConflict_65 rfl (lv_at hl 0 rfl) ?_
          refine lv_iload_n hx hb d_U_comeToConflict_66 rfl (lv_at hl 3 rfl) ?_
          refine lv_aload_n hx hb d_U_comeToConflict_67 rfl (lv_at hl 0 rfl) ?_
          refine va_get (D := D) (ci := 3) (v := .ref (ad 1)) (C := R_U) (T := T_U) (N := 5) hx hb hts (fun w h => List.mem_cons_of_mem _ (iw_U w h)) hown hK.1 hw.1 9 rfl rfl 0 (by decide) (hg gm_98) (fun _ h9 => h9) rfl d_U_comeToConflict_68 ?_
          refine va_getN (D := D) (ci := 1) (v := .ref (ad 3)) (C := R_G) (T := T_G) (N := 6) hx hb hts (fun w h => List.mem_cons_of_mem _ (iw_G w h)) hown hK.1 hw.1 0 rfl rfl 1 (by decide) (va_Nw.use rfl (hK.2 _ nw_34)) (fun _ h9 => h9) rfl d_U_comeToConflict_71 ?_
          refine lv_iload_n hx hb d_U_comeToConflict_74 rfl (lv_at hl 3 rfl) ?_
          refine va_iald hx hb hK.1 hw.1 2 0 rfl rfl h.1 d_U_comeToConflict_75 ?_
          have h := h.2
          refine lv_aload_n hx hb d_U_comeToConflict_76 rfl (lv_at hl 0 rfl) ?_
          refine va_get (D := D) (ci := 3) (v := .ref (ad 1)) (C := R_U) (T := T_U) (N := 5) hx hb hts (fun w h => List.mem_cons_of_mem _ (iw_U w h)) hown hK.1 hw.1 9 rfl rfl 0 (by decide) (hg gm_98) (fun _ h9 => h9) rfl d_U_comeToConflict_77 ?_
          refine va_getN (D := D) (ci := 1) (v := .ref (ad 4)) (C := R_G) (T := T_G) (N := 6) hx hb hts (fun w h => List.mem_cons_of_mem _ (iw_G w h)) hown hK.1 hw.1 0 rfl rfl 2 (by decide) (va_Nw.use rfl (hK.2 _ nw_36)) (fun _ h9 => h9) rfl d_U_comeToConflict_80 ?_
          refine lv_iload_n hx hb d_U_comeToConflict_83 rfl (lv_at hl 3 rfl) ?_
          refine va_iald hx hb hK.1 hw.1 3 0 rfl rfl h.1 d_U_comeToConflict_84 ?_
          have h := h.2
          refine m_callv (hr := va_runV (As := [.int x3, .int (G_lefts x3.toNatClampNeg), .int (G_rights x3.toNatClampNeg)]) (rest := []) ⟨hx, hb, hml, hown, hts⟩ (c_U_stepAnd l D cA ad _ U_conflict U_changed U_told x3 (G_lefts x3.toNatClampNeg) (G_rights x3.toNatClampNeg) _ h) (cwV 3 hts (ginV gm_436 gm_438 gs_29 gm_4 gm_439) rfl rfl rfl (by decide +kernel) ⟨Nat.le_of_ble_eq_true rfl, Nat.le_of_ble_eq_true rfl⟩) (m_preV 3 9 rfl rfl hK hw [9, 10] rfl rfl) rfl rfl hl.1 rfl (lv_room (Nat.le_of_ble_eq_true rfl)) d_U_comeToConflict_85 ⟨Nat.zero_le _, Nat.zero_le _⟩) (w2 := (fun (u : Int32 × Int32 × (Nat → Int32)) => [(k_G cA ad G_size G_inputs), (k_G_kinds cA ad G_kinds), (k_G_lefts cA ad G_lefts), (k_G_rights cA ad G_rights), (k_F cA ad F_size), (k_F_kinds cA ad F_kinds), (k_F_sizes cA ad F_sizes), (k_F_literals cA ad F_literals), (k_F_leftOut cA ad F_leftOut), (k_U cA ad u.1 u.2.1), (k_U_told cA ad u.2.2)])) (wr := [(k_G cA ad G_size G_inputs), (k_G_kinds cA ad G_kinds), (k_G_lefts cA ad G_lefts), (k_G_rights cA ad G_rights), (k_F cA ad F_size), (k_F_kinds cA ad F_kinds), (k_F_sizes cA ad F_sizes), (k_F_literals cA ad F_literals), (k_F_leftOut cA ad F_leftOut)]) hw hA [9, 10] [0, 1, 2, 3, 4, 5, 6, 7, 8] [0, 1, 2, 3, 4, 5, 6, 7, 8, 9, 10] rfl rfl (by decide) (by decide) (by decide) (fun _ => rfl) (fun u H locs hw h => ?_)
          obtain ⟨U_conflict_85, U_changed_85, U_told_85⟩ := u
          have hw : mW D A s.heap [(k_G cA ad G_size G_inputs), (k_G_kinds cA ad G_kinds), (k_G_lefts cA ad G_lefts), (k_G_rights cA ad G_rights), (k_F cA ad F_size), (k_F_kinds cA ad F_kinds), (k_F_sizes cA ad F_sizes), (k_F_literals cA ad F_literals), (k_F_leftOut cA ad F_leftOut), (k_U cA ad U_conflict_85 U_changed_85), (k_U_told cA ad U_told_85)] H locs := hw
          refine lv_goto (tgt := 127) hx hb d_U_comeToConflict_88 (by decide) ?_
          exact j127 _ _ _ _ _ _ _ _ h hw (lv_sub hl [0, 1, 2, 3] rfl)
  have hc135 : ∀ (x2 : Int32) (x3 : Int32) (U_conflict : Int32) (U_changed : Int32) (U_told : (Nat → Int32)), s_U_comeToConflict_135 G_size G_kinds G_lefts G_rights F_kinds F_sizes F_literals F_leftOut p1 C7 C34 C135 post x2 x3 U_conflict U_changed U_told → C135 x2 x3 U_conflict U_changed U_told := by
    intro x2 x3 U_conflict U_changed U_told h
    unfold s_U_comeToConflict_135 at h
    refine (hC135 _ _ _ _ _).2 ?_
    intro H locs ls hw hl
    refine lv_iload_n hx hb d_U_comeToConflict_135 rfl (lv_at hl 3 rfl) ?_
    refine lv_iload_n hx hb d_U_comeToConflict_136 rfl (lv_at hl 1 rfl) ?_
    refine lv_icmp_ge (tgt := 211) hx hb d_U_comeToConflict_137 (by decide) (fun hc => ?_) (fun hc => ?_)
    · have h := h.1 hc
      exact j211 _ _ _ _ _ _ _ h hw (lv_sub hl [0, 1, 2] rfl)
    · have h := h.2 hc
      refine lv_aload_n hx hb d_U_comeToConflict_140 rfl (lv_at hl 0 rfl) ?_
      refine va_get (D := D) (ci := 3) (v := .int U_conflict) (C := R_U) (T := T_U) (N := 5) hx hb hts (fun w h => List.mem_cons_of_mem _ (iw_U w h)) hown hK.1 hw.1 9 rfl rfl 3 (by decide) (hg gm_102) (fun _ h9 => h9) rfl d_U_comeToConflict_141 ?_
      refine lv_if_ne (tgt := 211) hx hb d_U_comeToConflict_144 (by decide) (fun hc => ?_) (fun hc => ?_)
      · have h := h.2 hc
        exact j211 _ _ _ _ _ _ _ h hw (lv_sub hl [0, 1, 2] rfl)
      · have h := h.1 hc
        refine lv_aload_n hx hb d_U_comeToConflict_147 rfl (lv_at hl 0 rfl) ?_
        refine va_get (D := D) (ci := 3) (v := .ref (ad 6)) (C := R_U) (T := T_U) (N := 5) hx hb hts (fun w h => List.mem_cons_of_mem _ (iw_U w h)) hown hK.1 hw.1 9 rfl rfl 1 (by decide) (hg gm_99) (fun _ h9 => h9) rfl d_U_comeToConflict_148 ?_
        refine va_getN (D := D) (ci := 2) (v := .ref (ad 10)) (C := R_F) (T := T_F) (N := 5) hx hb hts (fun w h => List.mem_cons_of_mem _ (iw_F w h)) hown hK.1 hw.1 4 rfl rfl 3 (by decide) (va_Nw.use rfl (hK.2 _ nw_75)) (fun _ h9 => h9) rfl d_U_comeToConflict_151 ?_
        refine lv_iload_n hx hb d_U_comeToConflict_154 rfl (lv_at hl 3 rfl) ?_
        refine va_zald hx hb hK.1 hw.1 8 1 rfl rfl h.1 d_U_comeToConflict_155 ?_
        have h := h.2
        refine lv_if_eq (tgt := 162) hx hb d_U_comeToConflict_156 (by decide) (fun hc => ?_) (fun hc => ?_)
        · have h := h.1 hc
          refine lv_aload_n hx hb d_U_comeToConflict_162 rfl (lv_at hl 0 rfl) ?_
          refine va_get (D := D) (ci := 3) (v := .ref (ad 6)) (C := R_U) (T := T_U) (N := 5) hx hb hts (fun w h => List.mem_cons_of_mem _ (iw_U w h)) hown hK.1 hw.1 9 rfl rfl 1 (by decide) (hg gm_99) (fun _ h9 => h9) rfl d_U_comeToConflict_163 ?_
          refine va_getN (D := D) (ci := 2) (v := .ref (ad 7)) (C := R_F) (T := T_F) (N := 5) hx hb hts (fun w h => List.mem_cons_of_mem _ (iw_F w h)) hown hK.1 hw.1 4 rfl rfl 0 (by decide) (va_Nw.use rfl (hK.2 _ nw_65)) (fun _ h9 => h9) rfl d_U_comeToConflict_166 ?_
          refine lv_iload_n hx hb d_U_comeToConflict_169 rfl (lv_at hl 3 rfl) ?_
          refine va_iald hx hb hK.1 hw.1 5 0 rfl rfl h.1 d_U_comeToConflict_170 ?_
          have h := h.2
          refine lv_iconst (v := 1) hx hb d_U_comeToConflict_171 (by decide) ?_
          refine lv_icmp_ne (tgt := 200) hx hb d_U_comeToConflict_172 (by decide) (fun hc => ?_) (fun hc => ?_)
          · have h := h.2 hc
            refine lv_aload_n hx hb d_U_comeToConflict_200 rfl (lv_at hl 0 rfl) ?_
            refine lv_iload_n hx hb d_U_comeToConflict_201 rfl (lv_at hl 3 rfl) ?_
            refine m_callv (hr := va_runV (As := [.int x3]) (rest := []) ⟨hx, hb, hml, hown, hts⟩ (c_U_stepClause l D cA ad _ F_size F_sizes F_literals U_conflict U_changed U_told x3 _ h) (cwV 1 hts (ginV gm_452 gm_454 gs_33 gm_4 gm_455) rfl rfl rfl (by decide +kernel) ⟨Nat.le_of_ble_eq_true rfl, Nat.le_of_ble_eq_true rfl⟩) (m_preV 3 9 rfl rfl hK hw [4, 6, 7, 9, 10] rfl rfl) rfl rfl hl.1 rfl (lv_room (Nat.le_of_ble_eq_true rfl)) d_U_comeToConflict_202 ⟨Nat.zero_le _, Nat.zero_le _⟩) (w2 := (fun (u : Int32 × Int32 × (Nat → Int32)) => [(k_G cA ad G_size G_inputs), (k_G_kinds cA ad G_kinds), (k_G_lefts cA ad G_lefts), (k_G_rights cA ad G_rights), (k_F cA ad F_size), (k_F_kinds cA ad F_kinds), (k_F_sizes cA ad F_sizes), (k_F_literals cA ad F_literals), (k_F_leftOut cA ad F_leftOut), (k_U cA ad u.1 u.2.1), (k_U_told cA ad u.2.2)])) (wr := [(k_G cA ad G_size G_inputs), (k_G_kinds cA ad G_kinds), (k_G_lefts cA ad G_lefts), (k_G_rights cA ad G_rights), (k_F_kinds cA ad F_kinds), (k_F_leftOut cA ad F_leftOut)]) hw hA [4, 6, 7, 9, 10] [0, 1, 2, 3, 5, 8] [0, 1, 2, 3, 6, 4, 7, 8, 5, 9, 10] rfl rfl (by decide) (by decide) (by decide) (fun _ => rfl) (fun u H locs hw h => ?_)
            obtain ⟨U_conflict_202, U_changed_202, U_told_202⟩ := u
            have hw : mW D A s.heap [(k_G cA ad G_size G_inputs), (k_G_kinds cA ad G_kinds), (k_G_lefts cA ad G_lefts), (k_G_rights cA ad G_rights), (k_F cA ad F_size), (k_F_kinds cA ad F_kinds), (k_F_sizes cA ad F_sizes), (k_F_literals cA ad F_literals), (k_F_leftOut cA ad F_leftOut), (k_U cA ad U_conflict_202 U_changed_202), (k_U_told cA ad U_told_202)] H locs := hw
            exact j205 _ _ _ _ _ _ _ _ h hw (lv_sub hl [0, 1, 2, 3] rfl)
          · have h := h.1 hc
            refine lv_aload_n hx hb d_U_comeToConflict_175 rfl (lv_at hl 0 rfl) ?_
            refine lv_aload_n hx hb d_U_comeToConflict_176 rfl (lv_at hl 0 rfl) ?_
            refine va_get (D := D) (ci := 3) (v := .ref (ad 6)) (C := R_U) (T := T_U) (N := 5) hx hb hts (fun w h => List.mem_cons_of_mem _ (iw_U w h)) hown hK.1 hw.1 9 rfl rfl 1 (by decide) (hg gm_99) (fun _ h9 => h9) rfl d_U_comeToConflict_177 ?_
            refine lv_iload_n hx hb d_U_comeToConflict_180 rfl (lv_at hl 3 rfl) ?_
            refine lv_iconst (v := 0) hx hb d_U_comeToConflict_181 (by decide) ?_
            refine m_calli (hr := va_runVN (As := [.int x3, .int 0]) (rest := [.ref (ad 11)]) ⟨hx, hb, hml, hown, hts⟩ (c_F_literalOf l D cA ad _ F_size F_literals x3 0 _ h) ⟨va_cnB 2 hts (gin gm_235) rfl rfl rfl (hK.2 _ nw_416) (hg gm_3) (by decide +kernel) ⟨Nat.le_of_ble_eq_true rfl, Nat.le_of_ble_eq_true rfl⟩, hg gm_234, hg gs_16⟩ (m_preV 2 4 rfl rfl hK hw [4, 7] rfl rfl) rfl rfl hl.1 rfl (lv_room (Nat.le_of_ble_eq_true rfl)) d_U_comeToConflict_182 ⟨Nat.zero_le _, Nat.zero_le _⟩) (w2 := (fun (_ : Unit) => [(k_G cA ad G_size G_inputs), (k_G_kinds cA ad G_kinds), (k_G_lefts cA ad G_lefts), (k_G_rights cA ad G_rights), (k_F cA ad F_size), (k_F_kinds cA ad F_kinds), (k_F_sizes cA ad F_sizes), (k_F_literals cA ad F_literals), (k_F_leftOut cA ad F_leftOut), (k_U cA ad U_conflict U_changed), (k_U_told cA ad U_told)])) (wr := [(k_G cA ad G_size G_inputs), (k_G_kinds cA ad G_kinds), (k_G_lefts cA ad G_lefts), (k_G_rights cA ad G_rights), (k_F_kinds cA ad F_kinds), (k_F_sizes cA ad F_sizes), (k_F_leftOut cA ad F_leftOut), (k_U cA ad U_conflict U_changed), (k_U_told cA ad U_told)]) hw hA [4, 7] [0, 1, 2, 3, 5, 6, 8, 9, 10] [0, 1, 2, 3, 9, 4, 5, 10, 6, 7, 8] rfl rfl (by decide) (by decide) (by decide) (fun _ => rfl) (fun r182 u H locs hw h => ?_)
            refine lv_aload_n hx hb d_U_comeToConflict_185 rfl (lv_at hl 0 rfl) ?_
            refine va_get (D := D) (ci := 3) (v := .ref (ad 6)) (C := R_U) (T := T_U) (N := 5) hx hb hts (fun w h => List.mem_cons_of_mem _ (iw_U w h)) hown hK.1 hw.1 9 rfl rfl 1 (by decide) (hg gm_99) (fun _ h9 => h9) rfl d_U_comeToConflict_186 ?_
            refine lv_iload_n hx hb d_U_comeToConflict_189 rfl (lv_at hl 3 rfl) ?_
            refine lv_iconst (v := 1) hx hb d_U_comeToConflict_190 (by decide) ?_
            refine m_calli (hr := va_runVN (As := [.int x3, .int 1]) (rest := [.int r182, .ref (ad 11)]) ⟨hx, hb, hml, hown, hts⟩ (c_F_literalOf l D cA ad _ F_size F_literals x3 1 _ h) ⟨va_cnB 2 hts (gin gm_235) rfl rfl rfl (hK.2 _ nw_416) (hg gm_3) (by decide +kernel) ⟨Nat.le_of_ble_eq_true rfl, Nat.le_of_ble_eq_true rfl⟩, hg gm_234, hg gs_16⟩ (m_preV 2 4 rfl rfl hK hw [4, 7] rfl rfl) rfl rfl hl.1 rfl (lv_room (Nat.le_of_ble_eq_true rfl)) d_U_comeToConflict_191 ⟨Nat.zero_le _, Nat.zero_le _⟩) (w2 := (fun (_ : Unit) => [(k_G cA ad G_size G_inputs), (k_G_kinds cA ad G_kinds), (k_G_lefts cA ad G_lefts), (k_G_rights cA ad G_rights), (k_F cA ad F_size), (k_F_kinds cA ad F_kinds), (k_F_sizes cA ad F_sizes), (k_F_literals cA ad F_literals), (k_F_leftOut cA ad F_leftOut), (k_U cA ad U_conflict U_changed), (k_U_told cA ad U_told)])) (wr := [(k_G cA ad G_size G_inputs), (k_G_kinds cA ad G_kinds), (k_G_lefts cA ad G_lefts), (k_G_rights cA ad G_rights), (k_F_kinds cA ad F_kinds), (k_F_sizes cA ad F_sizes), (k_F_leftOut cA ad F_leftOut), (k_U cA ad U_conflict U_changed), (k_U_told cA ad U_told)]) hw hA [4, 7] [0, 1, 2, 3, 5, 6, 8, 9, 10] [0, 1, 2, 3, 9, 4, 5, 10, 6, 7, 8] rfl rfl (by decide) (by decide) (by decide) (fun _ => rfl) (fun r191 u H locs hw h => ?_)
            refine m_callv (hr := va_runV (As := [.int r182, .int r191]) (rest := []) ⟨hx, hb, hml, hown, hts⟩ (c_U_stepEquality l D cA ad _ U_conflict U_changed U_told r182 r191 _ h) (cwV 2 hts (ginV gm_448 gm_450 gs_32 gm_4 gm_451) rfl rfl rfl (by decide +kernel) ⟨Nat.le_of_ble_eq_true rfl, Nat.le_of_ble_eq_true rfl⟩) (m_preV 3 9 rfl rfl hK hw [9, 10] rfl rfl) rfl rfl hl.1 rfl (lv_room (Nat.le_of_ble_eq_true rfl)) d_U_comeToConflict_194 ⟨Nat.zero_le _, Nat.zero_le _⟩) (w2 := (fun (u : Int32 × Int32 × (Nat → Int32)) => [(k_G cA ad G_size G_inputs), (k_G_kinds cA ad G_kinds), (k_G_lefts cA ad G_lefts), (k_G_rights cA ad G_rights), (k_F cA ad F_size), (k_F_kinds cA ad F_kinds), (k_F_sizes cA ad F_sizes), (k_F_literals cA ad F_literals), (k_F_leftOut cA ad F_leftOut), (k_U cA ad u.1 u.2.1), (k_U_told cA ad u.2.2)])) (wr := [(k_G cA ad G_size G_inputs), (k_G_kinds cA ad G_kinds), (k_G_lefts cA ad G_lefts), (k_G_rights cA ad G_rights), (k_F cA ad F_size), (k_F_kinds cA ad F_kinds), (k_F_sizes cA ad F_sizes), (k_F_literals cA ad F_literals), (k_F_leftOut cA ad F_leftOut)]) hw hA [9, 10] [0, 1, 2, 3, 4, 5, 6, 7, 8] [0, 1, 2, 3, 4, 5, 6, 7, 8, 9, 10] rfl rfl (by decide) (by decide) (by decide) (fun _ => rfl) (fun u H locs hw h => ?_)
            obtain ⟨U_conflict_194, U_changed_194, U_told_194⟩ := u
            have hw : mW D A s.heap [(k_G cA ad G_size G_inputs), (k_G_kinds cA ad G_kinds), (k_G_lefts cA ad G_lefts), (k_G_rights cA ad G_rights), (k_F cA ad F_size), (k_F_kinds cA ad F_kinds), (k_F_sizes cA ad F_sizes), (k_F_literals cA ad F_literals), (k_F_leftOut cA ad F_leftOut), (k_U cA ad U_conflict_194 U_changed_194), (k_U_told cA ad U_told_194)] H locs := hw
            refine lv_goto (tgt := 205) hx hb d_U_comeToConflict_197 (by decide) ?_
            exact j205 _ _ _ _ _ _ _ _ h hw (lv_sub hl [0, 1, 2, 3] rfl)
        · have h := h.2 hc
          refine lv_goto (tgt := 205) hx hb d_U_comeToConflict_159 (by decide) ?_
          exact j205 _ _ _ _ _ _ _ _ h hw (lv_sub hl [0, 1, 2, 3] rfl)
  unfold wp_U_comeToConflict at h
  have h := h C7 C34 C135 hc7 hc34 hc135
  refine lv_aload_n hx hb d_U_comeToConflict_0 rfl (lv_at hl 0 rfl) ?_
  refine lv_iconst (v := 1) hx hb d_U_comeToConflict_1 (by decide) ?_
  refine m_put (ws' := [(k_G cA ad G_size G_inputs), (k_G_kinds cA ad G_kinds), (k_G_lefts cA ad G_lefts), (k_G_rights cA ad G_rights), (k_F cA ad F_size), (k_F_kinds cA ad F_kinds), (k_F_sizes cA ad F_sizes), (k_F_literals cA ad F_literals), (k_F_leftOut cA ad F_leftOut), (k_U cA ad U_conflict 1), (k_U_told cA ad U_told)]) (ci := 3) (v := .int 1) (ty := .boolean) (C := R_U) (T := T_U) (N := 5) hx hb hts (fun w h => List.mem_cons_of_mem _ (iw_U w h)) ty_U tyok_U nm_U hown hK.1 hw 9 rfl rfl 4 (by decide) (hg gm_103) (fun _ h9 => h9) rfl (by decide +kernel) rfl rfl (Nat.le_of_ble_eq_true rfl) rfl d_U_comeToConflict_2 (fun H locs hw => ?_)
  refine lv_iconst (v := 0) hx hb d_U_comeToConflict_5 (by decide) ?_
  refine lv_istore_n (lv' := [(2, .int 0), (0, .ref (ad 11)), (1, .int p1)]) hx hb d_U_comeToConflict_6 rfl hl (by decide) rfl (fun ls hl => ?_)
  exact (hC7 _ _ _ _).1 h _ _ _ hw (lv_sub hl [1, 2, 0] rfl)
def rm_U_literalFollows : Room := { frames := 3, cells := 0, slots := 0, locals := 73 }
set_option maxHeartbeats 4000000 in
set_option maxRecDepth 100000 in
theorem c_U_literalFollows (l : Launch) (D : va_G) (cA : Nat → ClassId) (ad : Nat → Nat) (sz : Nat) (G_size : Int32) (G_inputs : Int32) (G_kinds : (Nat → Int32)) (G_lefts : (Nat → Int32)) (G_rights : (Nat → Int32)) (F_size : Int32) (F_kinds : (Nat → Int32)) (F_sizes : (Nat → Int32)) (F_literals : (Nat → Int32)) (F_leftOut : (Nat → Int32)) (U_conflict : Int32) (U_changed : Int32) (U_told : (Nat → Int32)) (p1 : Int32) (post : Int32 → Int32 → Int32 → (Nat → Int32) → Prop) (h : wp_U_literalFollows G_size G_kinds G_lefts G_rights F_size F_kinds F_sizes F_literals F_leftOut U_conflict U_changed U_told p1 post) : Met l y_U_literalFollows w_U_literalFollows rm_U_literalFollows (mPc D cA [.ref (ad 11), .int p1] [(k_G cA ad G_size G_inputs), (k_G_kinds cA ad G_kinds), (k_G_lefts cA ad G_lefts), (k_G_rights cA ad G_rights), (k_F cA ad F_size), (k_F_kinds cA ad F_kinds), (k_F_sizes cA ad F_sizes), (k_F_literals cA ad F_literals), (k_F_leftOut cA ad F_leftOut), (k_U cA ad U_conflict U_changed), (k_U_told cA ad U_told)] sz) (va_Qi (fun (r : Int32) (u : Int32 × Int32 × (Nat → Int32)) => post r u.1 u.2.1 u.2.2) (mB D (va_A [(k_G cA ad G_size G_inputs), (k_G_kinds cA ad G_kinds), (k_G_lefts cA ad G_lefts), (k_G_rights cA ad G_rights), (k_F cA ad F_size), (k_F_kinds cA ad F_kinds), (k_F_sizes cA ad F_sizes), (k_F_literals cA ad F_literals), (k_F_leftOut cA ad F_leftOut), (k_U cA ad U_conflict U_changed), (k_U_told cA ad U_told)] sz) (fun (u : Int32 × Int32 × (Nat → Int32)) => [(k_G cA ad G_size G_inputs), (k_G_kinds cA ad G_kinds), (k_G_lefts cA ad G_lefts), (k_G_rights cA ad G_rights), (k_F cA ad F_size), (k_F_kinds cA ad F_kinds), (k_F_sizes cA ad F_sizes), (k_F_literals cA ad F_literals), (k_F_leftOut cA ad F_leftOut), (k_U cA ad u.1 u.2.1), (k_U_told cA ad u.2.2)])) (va_A [(k_G cA ad G_size G_inputs), (k_G_kinds cA ad G_kinds), (k_G_lefts cA ad G_lefts), (k_G_rights cA ad G_rights), (k_F cA ad F_size), (k_F_kinds cA ad F_kinds), (k_F_sizes cA ad F_sizes), (k_F_literals cA ad F_literals), (k_F_leftOut cA ad F_leftOut), (k_U cA ad U_conflict U_changed), (k_U_told cA ad U_told)] sz)) 0 0 (va_A [(k_G cA ad G_size G_inputs), (k_G_kinds cA ad G_kinds), (k_G_lefts cA ad G_lefts), (k_G_rights cA ad G_rights), (k_F cA ad F_size), (k_F_kinds cA ad F_kinds), (k_F_sizes cA ad F_sizes), (k_F_literals cA ad F_literals), (k_F_leftOut cA ad F_leftOut), (k_U cA ad U_conflict U_changed), (k_U_told cA ad U_told)] sz) := by
  refine m_methZ (by decide) rfl (Nat.le_of_ble_eq_true rfl) ?_
  intro p e s m below meth c A Q ls hx hb hml hown hts hK hA hw hl hE
  have hl : lv_has ls 2 [(0, .ref (ad 11)), (1, .int p1)] := hl
  have hown : s.vm.findClass R_U = some m.cls := hown
  have hg : ∀ {w : Cond}, w ∈ gw → w.before _ s = true := fun h => hts _ (List.mem_cons_of_mem _ h)
  unfold wp_U_literalFollows at h
  refine lv_aload_n hx hb d_U_literalFollows_0 rfl (lv_at hl 0 rfl) ?_
  refine m_callv (hr := va_runV (As := []) (rest := []) ⟨hx, hb, hml, hown, hts⟩ (c_U_begin l D cA ad _ U_conflict U_changed U_told _ h) (cwV 0 hts (ginV gm_421 gm_423 gs_26 gm_4 gm_424) rfl rfl rfl (by decide +kernel) ⟨Nat.le_of_ble_eq_true rfl, Nat.le_of_ble_eq_true rfl⟩) (m_preV 3 9 rfl rfl hK hw [9, 10] rfl rfl) rfl rfl hl.1 rfl (lv_room (Nat.le_of_ble_eq_true rfl)) d_U_literalFollows_1 ⟨Nat.zero_le _, Nat.zero_le _⟩) (w2 := (fun (u : Int32 × (Nat → Int32)) => [(k_G cA ad G_size G_inputs), (k_G_kinds cA ad G_kinds), (k_G_lefts cA ad G_lefts), (k_G_rights cA ad G_rights), (k_F cA ad F_size), (k_F_kinds cA ad F_kinds), (k_F_sizes cA ad F_sizes), (k_F_literals cA ad F_literals), (k_F_leftOut cA ad F_leftOut), (k_U cA ad u.1 U_changed), (k_U_told cA ad u.2)])) (wr := [(k_G cA ad G_size G_inputs), (k_G_kinds cA ad G_kinds), (k_G_lefts cA ad G_lefts), (k_G_rights cA ad G_rights), (k_F cA ad F_size), (k_F_kinds cA ad F_kinds), (k_F_sizes cA ad F_sizes), (k_F_literals cA ad F_literals), (k_F_leftOut cA ad F_leftOut)]) hw hA [9, 10] [0, 1, 2, 3, 4, 5, 6, 7, 8] [0, 1, 2, 3, 4, 5, 6, 7, 8, 9, 10] rfl rfl (by decide) (by decide) (by decide) (fun _ => rfl) (fun u H locs hw h => ?_)
  obtain ⟨U_conflict_1, U_told_1⟩ := u
  have hw : mW D A s.heap [(k_G cA ad G_size G_inputs), (k_G_kinds cA ad G_kinds), (k_G_lefts cA ad G_lefts), (k_G_rights cA ad G_rights), (k_F cA ad F_size), (k_F_kinds cA ad F_kinds), (k_F_sizes cA ad F_sizes), (k_F_literals cA ad F_literals), (k_F_leftOut cA ad F_leftOut), (k_U cA ad U_conflict_1 U_changed), (k_U_told cA ad U_told_1)] H locs := hw
  refine lv_aload_n hx hb d_U_literalFollows_4 rfl (lv_at hl 0 rfl) ?_
  refine lv_iload_n hx hb d_U_literalFollows_5 rfl (lv_at hl 1 rfl) ?_
  refine lv_iconst (v := 0) hx hb d_U_literalFollows_6 (by decide) ?_
  refine m_callv (hr := va_runV (As := [.int p1, .int 0]) (rest := []) ⟨hx, hb, hml, hown, hts⟩ (c_U_tell l D cA ad _ U_conflict_1 U_changed U_told_1 p1 0 _ h) (cwV 2 hts (ginV gm_428 gm_430 gs_27 gm_4 gm_431) rfl rfl rfl (by decide +kernel) ⟨Nat.le_of_ble_eq_true rfl, Nat.le_of_ble_eq_true rfl⟩) (m_preV 3 9 rfl rfl hK hw [9, 10] rfl rfl) rfl rfl hl.1 rfl (lv_room (Nat.le_of_ble_eq_true rfl)) d_U_literalFollows_7 ⟨Nat.zero_le _, Nat.zero_le _⟩) (w2 := (fun (u : Int32 × Int32 × (Nat → Int32)) => [(k_G cA ad G_size G_inputs), (k_G_kinds cA ad G_kinds), (k_G_lefts cA ad G_lefts), (k_G_rights cA ad G_rights), (k_F cA ad F_size), (k_F_kinds cA ad F_kinds), (k_F_sizes cA ad F_sizes), (k_F_literals cA ad F_literals), (k_F_leftOut cA ad F_leftOut), (k_U cA ad u.1 u.2.1), (k_U_told cA ad u.2.2)])) (wr := [(k_G cA ad G_size G_inputs), (k_G_kinds cA ad G_kinds), (k_G_lefts cA ad G_lefts), (k_G_rights cA ad G_rights), (k_F cA ad F_size), (k_F_kinds cA ad F_kinds), (k_F_sizes cA ad F_sizes), (k_F_literals cA ad F_literals), (k_F_leftOut cA ad F_leftOut)]) hw hA [9, 10] [0, 1, 2, 3, 4, 5, 6, 7, 8] [0, 1, 2, 3, 4, 5, 6, 7, 8, 9, 10] rfl rfl (by decide) (by decide) (by decide) (fun _ => rfl) (fun u H locs hw h => ?_)
  obtain ⟨U_conflict_7, U_changed_7, U_told_7⟩ := u
  have hw : mW D A s.heap [(k_G cA ad G_size G_inputs), (k_G_kinds cA ad G_kinds), (k_G_lefts cA ad G_lefts), (k_G_rights cA ad G_rights), (k_F cA ad F_size), (k_F_kinds cA ad F_kinds), (k_F_sizes cA ad F_sizes), (k_F_literals cA ad F_literals), (k_F_leftOut cA ad F_leftOut), (k_U cA ad U_conflict_7 U_changed_7), (k_U_told cA ad U_told_7)] H locs := hw
  refine lv_aload_n hx hb d_U_literalFollows_10 rfl (lv_at hl 0 rfl) ?_
  refine lv_aload_n hx hb d_U_literalFollows_11 rfl (lv_at hl 0 rfl) ?_
  refine va_get (D := D) (ci := 3) (v := .ref (ad 6)) (C := R_U) (T := T_U) (N := 5) hx hb hts (fun w h => List.mem_cons_of_mem _ (iw_U w h)) hown hK.1 hw.1 9 rfl rfl 1 (by decide) (hg gm_99) (fun _ h9 => h9) rfl d_U_literalFollows_12 ?_
  refine va_getN (D := D) (ci := 2) (v := .int F_size) (C := R_F) (T := T_F) (N := 5) hx hb hts (fun w h => List.mem_cons_of_mem _ (iw_F w h)) hown hK.1 hw.1 4 rfl rfl 4 (by decide) (va_Nw.use rfl (hK.2 _ nw_79)) (fun _ h9 => h9) rfl d_U_literalFollows_15 ?_
  refine m_calli (hr := va_runV (As := [.int F_size]) (rest := []) ⟨hx, hb, hml, hown, hts⟩ (c_U_comeToConflict l D cA ad _ G_size G_inputs G_kinds G_lefts G_rights F_size F_kinds F_sizes F_literals F_leftOut U_conflict_7 U_changed_7 U_told_7 F_size _ h) (cwV 1 hts (ginV gm_432 gm_434 gs_28 gm_4 gm_435) rfl rfl rfl (by decide +kernel) ⟨Nat.le_of_ble_eq_true rfl, Nat.le_of_ble_eq_true rfl⟩) (m_preV 3 9 rfl rfl hK hw [0, 1, 2, 3, 4, 5, 6, 7, 8, 9, 10] rfl rfl) rfl rfl hl.1 rfl (lv_room (Nat.le_of_ble_eq_true rfl)) d_U_literalFollows_18 ⟨Nat.zero_le _, Nat.zero_le _⟩) (w2 := (fun (u : Int32 × Int32 × (Nat → Int32)) => [(k_G cA ad G_size G_inputs), (k_G_kinds cA ad G_kinds), (k_G_lefts cA ad G_lefts), (k_G_rights cA ad G_rights), (k_F cA ad F_size), (k_F_kinds cA ad F_kinds), (k_F_sizes cA ad F_sizes), (k_F_literals cA ad F_literals), (k_F_leftOut cA ad F_leftOut), (k_U cA ad u.1 u.2.1), (k_U_told cA ad u.2.2)])) (wr := []) hw hA [0, 1, 2, 3, 4, 5, 6, 7, 8, 9, 10] [] [0, 1, 2, 3, 4, 5, 6, 7, 8, 9, 10] rfl rfl (by decide) (by decide) (by decide) (fun _ => rfl) (fun r18 u H locs hw h => ?_)
  obtain ⟨U_conflict_18, U_changed_18, U_told_18⟩ := u
  have hw : mW D A s.heap [(k_G cA ad G_size G_inputs), (k_G_kinds cA ad G_kinds), (k_G_lefts cA ad G_lefts), (k_G_rights cA ad G_rights), (k_F cA ad F_size), (k_F_kinds cA ad F_kinds), (k_F_sizes cA ad F_sizes), (k_F_literals cA ad F_literals), (k_F_leftOut cA ad F_leftOut), (k_U cA ad U_conflict_18 U_changed_18), (k_U_told cA ad U_told_18)] H locs := hw
  exact hE r18 (U_conflict_18, U_changed_18, U_told_18) _ _ _ _ h.2 (isB_nar h.1) hw d_U_literalFollows_21
def rm_U_bothConflict : Room := { frames := 3, cells := 0, slots := 0, locals := 73 }
set_option maxHeartbeats 4000000 in
set_option maxRecDepth 100000 in
theorem c_U_bothConflict (l : Launch) (D : va_G) (cA : Nat → ClassId) (ad : Nat → Nat) (sz : Nat) (G_size : Int32) (G_inputs : Int32) (G_kinds : (Nat → Int32)) (G_lefts : (Nat → Int32)) (G_rights : (Nat → Int32)) (F_size : Int32) (F_kinds : (Nat → Int32)) (F_sizes : (Nat → Int32)) (F_literals : (Nat → Int32)) (F_leftOut : (Nat → Int32)) (U_conflict : Int32) (U_changed : Int32) (U_told : (Nat → Int32)) (p1 : Int32) (p2 : Int32) (p3 : Int32) (post : Int32 → Int32 → Int32 → (Nat → Int32) → Prop) (h : wp_U_bothConflict G_size G_kinds G_lefts G_rights F_kinds F_sizes F_literals F_leftOut U_conflict U_changed U_told p1 p2 p3 post) : Met l y_U_bothConflict w_U_bothConflict rm_U_bothConflict (mPc D cA [.ref (ad 11), .int p1, .int p2, .int p3] [(k_G cA ad G_size G_inputs), (k_G_kinds cA ad G_kinds), (k_G_lefts cA ad G_lefts), (k_G_rights cA ad G_rights), (k_F cA ad F_size), (k_F_kinds cA ad F_kinds), (k_F_sizes cA ad F_sizes), (k_F_literals cA ad F_literals), (k_F_leftOut cA ad F_leftOut), (k_U cA ad U_conflict U_changed), (k_U_told cA ad U_told)] sz) (va_Qi (fun (r : Int32) (u : Int32 × Int32 × (Nat → Int32)) => post r u.1 u.2.1 u.2.2) (mB D (va_A [(k_G cA ad G_size G_inputs), (k_G_kinds cA ad G_kinds), (k_G_lefts cA ad G_lefts), (k_G_rights cA ad G_rights), (k_F cA ad F_size), (k_F_kinds cA ad F_kinds), (k_F_sizes cA ad F_sizes), (k_F_literals cA ad F_literals), (k_F_leftOut cA ad F_leftOut), (k_U cA ad U_conflict U_changed), (k_U_told cA ad U_told)] sz) (fun (u : Int32 × Int32 × (Nat → Int32)) => [(k_G cA ad G_size G_inputs), (k_G_kinds cA ad G_kinds), (k_G_lefts cA ad G_lefts), (k_G_rights cA ad G_rights), (k_F cA ad F_size), (k_F_kinds cA ad F_kinds), (k_F_sizes cA ad F_sizes), (k_F_literals cA ad F_literals), (k_F_leftOut cA ad F_leftOut), (k_U cA ad u.1 u.2.1), (k_U_told cA ad u.2.2)])) (va_A [(k_G cA ad G_size G_inputs), (k_G_kinds cA ad G_kinds), (k_G_lefts cA ad G_lefts), (k_G_rights cA ad G_rights), (k_F cA ad F_size), (k_F_kinds cA ad F_kinds), (k_F_sizes cA ad F_sizes), (k_F_literals cA ad F_literals), (k_F_leftOut cA ad F_leftOut), (k_U cA ad U_conflict U_changed), (k_U_told cA ad U_told)] sz)) 0 0 (va_A [(k_G cA ad G_size G_inputs), (k_G_kinds cA ad G_kinds), (k_G_lefts cA ad G_lefts), (k_G_rights cA ad G_rights), (k_F cA ad F_size), (k_F_kinds cA ad F_kinds), (k_F_sizes cA ad F_sizes), (k_F_literals cA ad F_literals), (k_F_leftOut cA ad F_leftOut), (k_U cA ad U_conflict U_changed), (k_U_told cA ad U_told)] sz) := by
  refine m_methZ (by decide) rfl (Nat.le_of_ble_eq_true rfl) ?_
  intro p e s m below meth c A Q ls hx hb hml hown hts hK hA hw hl hE
  have hl : lv_has ls 4 [(0, .ref (ad 11)), (1, .int p1), (2, .int p2), (3, .int p3)] := hl
  have hown : s.vm.findClass R_U = some m.cls := hown
  have hg : ∀ {w : Cond}, w ∈ gw → w.before _ s = true := fun h => hts _ (List.mem_cons_of_mem _ h)
  unfold wp_U_bothConflict at h
  refine lv_aload_n hx hb d_U_bothConflict_0 rfl (lv_at hl 0 rfl) ?_
  refine m_callv (hr := va_runV (As := []) (rest := []) ⟨hx, hb, hml, hown, hts⟩ (c_U_begin l D cA ad _ U_conflict U_changed U_told _ h) (cwV 0 hts (ginV gm_421 gm_423 gs_26 gm_4 gm_424) rfl rfl rfl (by decide +kernel) ⟨Nat.le_of_ble_eq_true rfl, Nat.le_of_ble_eq_true rfl⟩) (m_preV 3 9 rfl rfl hK hw [9, 10] rfl rfl) rfl rfl hl.1 rfl (lv_room (Nat.le_of_ble_eq_true rfl)) d_U_bothConflict_1 ⟨Nat.zero_le _, Nat.zero_le _⟩) (w2 := (fun (u : Int32 × (Nat → Int32)) => [(k_G cA ad G_size G_inputs), (k_G_kinds cA ad G_kinds), (k_G_lefts cA ad G_lefts), (k_G_rights cA ad G_rights), (k_F cA ad F_size), (k_F_kinds cA ad F_kinds), (k_F_sizes cA ad F_sizes), (k_F_literals cA ad F_literals), (k_F_leftOut cA ad F_leftOut), (k_U cA ad u.1 U_changed), (k_U_told cA ad u.2)])) (wr := [(k_G cA ad G_size G_inputs), (k_G_kinds cA ad G_kinds), (k_G_lefts cA ad G_lefts), (k_G_rights cA ad G_rights), (k_F cA ad F_size), (k_F_kinds cA ad F_kinds), (k_F_sizes cA ad F_sizes), (k_F_literals cA ad F_literals), (k_F_leftOut cA ad F_leftOut)]) hw hA [9, 10] [0, 1, 2, 3, 4, 5, 6, 7, 8] [0, 1, 2, 3, 4, 5, 6, 7, 8, 9, 10] rfl rfl (by decide) (by decide) (by decide) (fun _ => rfl) (fun u H locs hw h => ?_)
  obtain ⟨U_conflict_1, U_told_1⟩ := u
  have hw : mW D A s.heap [(k_G cA ad G_size G_inputs), (k_G_kinds cA ad G_kinds), (k_G_lefts cA ad G_lefts), (k_G_rights cA ad G_rights), (k_F cA ad F_size), (k_F_kinds cA ad F_kinds), (k_F_sizes cA ad F_sizes), (k_F_literals cA ad F_literals), (k_F_leftOut cA ad F_leftOut), (k_U cA ad U_conflict_1 U_changed), (k_U_told cA ad U_told_1)] H locs := hw
  refine lv_aload_n hx hb d_U_bothConflict_4 rfl (lv_at hl 0 rfl) ?_
  refine lv_iload_n hx hb d_U_bothConflict_5 rfl (lv_at hl 1 rfl) ?_
  refine lv_iconst (v := 1) hx hb d_U_bothConflict_6 (by decide) ?_
  refine m_callv (hr := va_runV (As := [.int p1, .int 1]) (rest := []) ⟨hx, hb, hml, hown, hts⟩ (c_U_tell l D cA ad _ U_conflict_1 U_changed U_told_1 p1 1 _ h) (cwV 2 hts (ginV gm_428 gm_430 gs_27 gm_4 gm_431) rfl rfl rfl (by decide +kernel) ⟨Nat.le_of_ble_eq_true rfl, Nat.le_of_ble_eq_true rfl⟩) (m_preV 3 9 rfl rfl hK hw [9, 10] rfl rfl) rfl rfl hl.1 rfl (lv_room (Nat.le_of_ble_eq_true rfl)) d_U_bothConflict_7 ⟨Nat.zero_le _, Nat.zero_le _⟩) (w2 := (fun (u : Int32 × Int32 × (Nat → Int32)) => [(k_G cA ad G_size G_inputs), (k_G_kinds cA ad G_kinds), (k_G_lefts cA ad G_lefts), (k_G_rights cA ad G_rights), (k_F cA ad F_size), (k_F_kinds cA ad F_kinds), (k_F_sizes cA ad F_sizes), (k_F_literals cA ad F_literals), (k_F_leftOut cA ad F_leftOut), (k_U cA ad u.1 u.2.1), (k_U_told cA ad u.2.2)])) (wr := [(k_G cA ad G_size G_inputs), (k_G_kinds cA ad G_kinds), (k_G_lefts cA ad G_lefts), (k_G_rights cA ad G_rights), (k_F cA ad F_size), (k_F_kinds cA ad F_kinds), (k_F_sizes cA ad F_sizes), (k_F_literals cA ad F_literals), (k_F_leftOut cA ad F_leftOut)]) hw hA [9, 10] [0, 1, 2, 3, 4, 5, 6, 7, 8] [0, 1, 2, 3, 4, 5, 6, 7, 8, 9, 10] rfl rfl (by decide) (by decide) (by decide) (fun _ => rfl) (fun u H locs hw h => ?_)
  obtain ⟨U_conflict_7, U_changed_7, U_told_7⟩ := u
  have hw : mW D A s.heap [(k_G cA ad G_size G_inputs), (k_G_kinds cA ad G_kinds), (k_G_lefts cA ad G_lefts), (k_G_rights cA ad G_rights), (k_F cA ad F_size), (k_F_kinds cA ad F_kinds), (k_F_sizes cA ad F_sizes), (k_F_literals cA ad F_literals), (k_F_leftOut cA ad F_leftOut), (k_U cA ad U_conflict_7 U_changed_7), (k_U_told cA ad U_told_7)] H locs := hw
  refine lv_aload_n hx hb d_U_bothConflict_10 rfl (lv_at hl 0 rfl) ?_
  refine lv_iload_n hx hb d_U_bothConflict_11 rfl (lv_at hl 2 rfl) ?_
  refine lv_iconst (v := 1) hx hb d_U_bothConflict_12 (by decide) ?_
  refine m_callv (hr := va_runV (As := [.int p2, .int 1]) (rest := []) ⟨hx, hb, hml, hown, hts⟩ (c_U_tell l D cA ad _ U_conflict_7 U_changed_7 U_told_7 p2 1 _ h) (cwV 2 hts (ginV gm_428 gm_430 gs_27 gm_4 gm_431) rfl rfl rfl (by decide +kernel) ⟨Nat.le_of_ble_eq_true rfl, Nat.le_of_ble_eq_true rfl⟩) (m_preV 3 9 rfl rfl hK hw [9, 10] rfl rfl) rfl rfl hl.1 rfl (lv_room (Nat.le_of_ble_eq_true rfl)) d_U_bothConflict_13 ⟨Nat.zero_le _, Nat.zero_le _⟩) (w2 := (fun (u : Int32 × Int32 × (Nat → Int32)) => [(k_G cA ad G_size G_inputs), (k_G_kinds cA ad G_kinds), (k_G_lefts cA ad G_lefts), (k_G_rights cA ad G_rights), (k_F cA ad F_size), (k_F_kinds cA ad F_kinds), (k_F_sizes cA ad F_sizes), (k_F_literals cA ad F_literals), (k_F_leftOut cA ad F_leftOut), (k_U cA ad u.1 u.2.1), (k_U_told cA ad u.2.2)])) (wr := [(k_G cA ad G_size G_inputs), (k_G_kinds cA ad G_kinds), (k_G_lefts cA ad G_lefts), (k_G_rights cA ad G_rights), (k_F cA ad F_size), (k_F_kinds cA ad F_kinds), (k_F_sizes cA ad F_sizes), (k_F_literals cA ad F_literals), (k_F_leftOut cA ad F_leftOut)]) hw hA [9, 10] [0, 1, 2, 3, 4, 5, 6, 7, 8] [0, 1, 2, 3, 4, 5, 6, 7, 8, 9, 10] rfl rfl (by decide) (by decide) (by decide) (fun _ => rfl) (fun u H locs hw h => ?_)
  obtain ⟨U_conflict_13, U_changed_13, U_told_13⟩ := u
  have hw : mW D A s.heap [(k_G cA ad G_size G_inputs), (k_G_kinds cA ad G_kinds), (k_G_lefts cA ad G_lefts), (k_G_rights cA ad G_rights), (k_F cA ad F_size), (k_F_kinds cA ad F_kinds), (k_F_sizes cA ad F_sizes), (k_F_literals cA ad F_literals), (k_F_leftOut cA ad F_leftOut), (k_U cA ad U_conflict_13 U_changed_13), (k_U_told cA ad U_told_13)] H locs := hw
  refine lv_aload_n hx hb d_U_bothConflict_16 rfl (lv_at hl 0 rfl) ?_
  refine lv_iload_n hx hb d_U_bothConflict_17 rfl (lv_at hl 3 rfl) ?_
  refine m_calli (hr := va_runV (As := [.int p3]) (rest := []) ⟨hx, hb, hml, hown, hts⟩ (c_U_comeToConflict l D cA ad _ G_size G_inputs G_kinds G_lefts G_rights F_size F_kinds F_sizes F_literals F_leftOut U_conflict_13 U_changed_13 U_told_13 p3 _ h) (cwV 1 hts (ginV gm_432 gm_434 gs_28 gm_4 gm_435) rfl rfl rfl (by decide +kernel) ⟨Nat.le_of_ble_eq_true rfl, Nat.le_of_ble_eq_true rfl⟩) (m_preV 3 9 rfl rfl hK hw [0, 1, 2, 3, 4, 5, 6, 7, 8, 9, 10] rfl rfl) rfl rfl hl.1 rfl (lv_room (Nat.le_of_ble_eq_true rfl)) d_U_bothConflict_18 ⟨Nat.zero_le _, Nat.zero_le _⟩) (w2 := (fun (u : Int32 × Int32 × (Nat → Int32)) => [(k_G cA ad G_size G_inputs), (k_G_kinds cA ad G_kinds), (k_G_lefts cA ad G_lefts), (k_G_rights cA ad G_rights), (k_F cA ad F_size), (k_F_kinds cA ad F_kinds), (k_F_sizes cA ad F_sizes), (k_F_literals cA ad F_literals), (k_F_leftOut cA ad F_leftOut), (k_U cA ad u.1 u.2.1), (k_U_told cA ad u.2.2)])) (wr := []) hw hA [0, 1, 2, 3, 4, 5, 6, 7, 8, 9, 10] [] [0, 1, 2, 3, 4, 5, 6, 7, 8, 9, 10] rfl rfl (by decide) (by decide) (by decide) (fun _ => rfl) (fun r18 u H locs hw h => ?_)
  obtain ⟨U_conflict_18, U_changed_18, U_told_18⟩ := u
  have hw : mW D A s.heap [(k_G cA ad G_size G_inputs), (k_G_kinds cA ad G_kinds), (k_G_lefts cA ad G_lefts), (k_G_rights cA ad G_rights), (k_F cA ad F_size), (k_F_kinds cA ad F_kinds), (k_F_sizes cA ad F_sizes), (k_F_literals cA ad F_literals), (k_F_leftOut cA ad F_leftOut), (k_U cA ad U_conflict_18 U_changed_18), (k_U_told cA ad U_told_18)] H locs := hw
  exact hE r18 (U_conflict_18, U_changed_18, U_told_18) _ _ _ _ h.2 (isB_nar h.1) hw d_U_bothConflict_21
def rm_U_lineFollows : Room := { frames := 4, cells := 0, slots := 0, locals := 96 }
set_option maxHeartbeats 4000000 in
set_option maxRecDepth 100000 in
theorem c_U_lineFollows (l : Launch) (D : va_G) (cA : Nat → ClassId) (ad : Nat → Nat) (sz : Nat) (G_size : Int32) (G_inputs : Int32) (G_kinds : (Nat → Int32)) (G_lefts : (Nat → Int32)) (G_rights : (Nat → Int32)) (F_size : Int32) (F_kinds : (Nat → Int32)) (F_sizes : (Nat → Int32)) (F_literals : (Nat → Int32)) (F_leftOut : (Nat → Int32)) (U_conflict : Int32) (U_changed : Int32) (U_told : (Nat → Int32)) (p1 : Int32) (post : Int32 → Int32 → Int32 → (Nat → Int32) → Prop) (h : wp_U_lineFollows G_size G_kinds G_lefts G_rights F_kinds F_sizes F_literals F_leftOut U_conflict U_changed U_told p1 post) : Met l y_U_lineFollows w_U_lineFollows rm_U_lineFollows (mPc D cA [.ref (ad 11), .int p1] [(k_G cA ad G_size G_inputs), (k_G_kinds cA ad G_kinds), (k_G_lefts cA ad G_lefts), (k_G_rights cA ad G_rights), (k_F cA ad F_size), (k_F_kinds cA ad F_kinds), (k_F_sizes cA ad F_sizes), (k_F_literals cA ad F_literals), (k_F_leftOut cA ad F_leftOut), (k_U cA ad U_conflict U_changed), (k_U_told cA ad U_told)] sz) (va_Qi (fun (r : Int32) (u : Int32 × Int32 × (Nat → Int32)) => post r u.1 u.2.1 u.2.2) (mB D (va_A [(k_G cA ad G_size G_inputs), (k_G_kinds cA ad G_kinds), (k_G_lefts cA ad G_lefts), (k_G_rights cA ad G_rights), (k_F cA ad F_size), (k_F_kinds cA ad F_kinds), (k_F_sizes cA ad F_sizes), (k_F_literals cA ad F_literals), (k_F_leftOut cA ad F_leftOut), (k_U cA ad U_conflict U_changed), (k_U_told cA ad U_told)] sz) (fun (u : Int32 × Int32 × (Nat → Int32)) => [(k_G cA ad G_size G_inputs), (k_G_kinds cA ad G_kinds), (k_G_lefts cA ad G_lefts), (k_G_rights cA ad G_rights), (k_F cA ad F_size), (k_F_kinds cA ad F_kinds), (k_F_sizes cA ad F_sizes), (k_F_literals cA ad F_literals), (k_F_leftOut cA ad F_leftOut), (k_U cA ad u.1 u.2.1), (k_U_told cA ad u.2.2)])) (va_A [(k_G cA ad G_size G_inputs), (k_G_kinds cA ad G_kinds), (k_G_lefts cA ad G_lefts), (k_G_rights cA ad G_rights), (k_F cA ad F_size), (k_F_kinds cA ad F_kinds), (k_F_sizes cA ad F_sizes), (k_F_literals cA ad F_literals), (k_F_leftOut cA ad F_leftOut), (k_U cA ad U_conflict U_changed), (k_U_told cA ad U_told)] sz)) 0 0 (va_A [(k_G cA ad G_size G_inputs), (k_G_kinds cA ad G_kinds), (k_G_lefts cA ad G_lefts), (k_G_rights cA ad G_rights), (k_F cA ad F_size), (k_F_kinds cA ad F_kinds), (k_F_sizes cA ad F_sizes), (k_F_literals cA ad F_literals), (k_F_leftOut cA ad F_leftOut), (k_U cA ad U_conflict U_changed), (k_U_told cA ad U_told)] sz) := by
  refine m_methZ (by decide) rfl (Nat.le_of_ble_eq_true rfl) ?_
  intro p e s m below meth c A Q ls hx hb hml hown hts hK hA hw hl hE
  have hl : lv_has ls 4 [(0, .ref (ad 11)), (1, .int p1)] := hl
  have hown : s.vm.findClass R_U = some m.cls := hown
  have hg : ∀ {w : Cond}, w ∈ gw → w.before _ s = true := fun h => hts _ (List.mem_cons_of_mem _ h)
  obtain ⟨C69, hC69⟩ : ∃ C : Int32 → Int32 → Int32 → (Nat → Int32) → Prop, ∀ (x2 : Int32) (U_conflict : Int32) (U_changed : Int32) (U_told : (Nat → Int32)), C x2 U_conflict U_changed U_told ↔ (∀ (H : Heap) (locs : List Loc) (ls : Array Slot), mW D A s.heap [(k_G cA ad G_size G_inputs), (k_G_kinds cA ad G_kinds), (k_G_lefts cA ad G_lefts), (k_G_rights cA ad G_rights), (k_F cA ad F_size), (k_F_kinds cA ad F_kinds), (k_F_sizes cA ad F_sizes), (k_F_literals cA ad F_literals), (k_F_leftOut cA ad F_leftOut), (k_U cA ad U_conflict U_changed), (k_U_told cA ad U_told)] H locs → lv_has ls 4 [(0, .ref (ad 11)), (1, .int p1), (2, .int x2)] → W p l e rm_U_lineFollows s m [.ref (ad 11), .int p1].toArray below meth c H locs 0 0 Q (F0 m 69 ls [])) := ⟨_, fun _ _ _ _ => Iff.rfl⟩
  have hc69 : ∀ (x2 : Int32) (U_conflict : Int32) (U_changed : Int32) (U_told : (Nat → Int32)), s_U_lineFollows_69 G_size G_kinds G_lefts G_rights F_kinds F_sizes F_literals F_leftOut p1 C69 post x2 U_conflict U_changed U_told → C69 x2 U_conflict U_changed U_told := by
    intro x2 U_conflict U_changed U_told h
    unfold s_U_lineFollows_69 at h
    refine (hC69 _ _ _ _).2 ?_
    intro H locs ls hw hl
    refine lv_iload_n hx hb d_U_lineFollows_69 rfl (lv_at hl 2 rfl) ?_
    refine lv_aload_n hx hb d_U_lineFollows_70 rfl (lv_at hl 0 rfl) ?_
    refine va_get (D := D) (ci := 3) (v := .ref (ad 6)) (C := R_U) (T := T_U) (N := 5) hx hb hts (fun w h => List.mem_cons_of_mem _ (iw_U w h)) hown hK.1 hw.1 9 rfl rfl 1 (by decide) (hg gm_99) (fun _ h9 => h9) rfl d_U_lineFollows_71 ?_
    refine va_getN (D := D) (ci := 2) (v := .ref (ad 8)) (C := R_F) (T := T_F) (N := 5) hx hb hts (fun w h => List.mem_cons_of_mem _ (iw_F w h)) hown hK.1 hw.1 4 rfl rfl 1 (by decide) (va_Nw.use rfl (hK.2 _ nw_70)) (fun _ h9 => h9) rfl d_U_lineFollows_74 ?_
    refine lv_iload_n hx hb d_U_lineFollows_77 rfl (lv_at hl 1 rfl) ?_
    refine va_iald hx hb hK.1 hw.1 6 0 rfl rfl h.1 d_U_lineFollows_78 ?_
    have h := h.2
    refine lv_icmp_ge (tgt := 102) hx hb d_U_lineFollows_79 (by decide) (fun hc => ?_) (fun hc => ?_)
    · have h := h.1 hc
      refine lv_aload_n hx hb d_U_lineFollows_102 rfl (lv_at hl 0 rfl) ?_
      refine lv_iload_n hx hb d_U_lineFollows_103 rfl (lv_at hl 1 rfl) ?_
      refine m_calli (hr := va_runV (As := [.int p1]) (rest := []) ⟨hx, hb, hml, hown, hts⟩ (c_U_comeToConflict l D cA ad _ G_size G_inputs G_kinds G_lefts G_rights F_size F_kinds F_sizes F_literals F_leftOut U_conflict U_changed U_told p1 _ h) (cwV 1 hts (ginV gm_432 gm_434 gs_28 gm_4 gm_435) rfl rfl rfl (by decide +kernel) ⟨Nat.le_of_ble_eq_true rfl, Nat.le_of_ble_eq_true rfl⟩) (m_preV 3 9 rfl rfl hK hw [0, 1, 2, 3, 4, 5, 6, 7, 8, 9, 10] rfl rfl) rfl rfl hl.1 rfl (lv_room (Nat.le_of_ble_eq_true rfl)) d_U_lineFollows_104 ⟨Nat.zero_le _, Nat.zero_le _⟩) (w2 := (fun (u : Int32 × Int32 × (Nat → Int32)) => [(k_G cA ad G_size G_inputs), (k_G_kinds cA ad G_kinds), (k_G_lefts cA ad G_lefts), (k_G_rights cA ad G_rights), (k_F cA ad F_size), (k_F_kinds cA ad F_kinds), (k_F_sizes cA ad F_sizes), (k_F_literals cA ad F_literals), (k_F_leftOut cA ad F_leftOut), (k_U cA ad u.1 u.2.1), (k_U_told cA ad u.2.2)])) (wr := []) hw hA [0, 1, 2, 3, 4, 5, 6, 7, 8, 9, 10] [] [0, 1, 2, 3, 4, 5, 6, 7, 8, 9, 10] rfl rfl (by decide) (by decide) (by decide) (fun _ => rfl) (fun r104 u H locs hw h => ?_)
      obtain ⟨U_conflict_104, U_changed_104, U_told_104⟩ := u
      have hw : mW D A s.heap [(k_G cA ad G_size G_inputs), (k_G_kinds cA ad G_kinds), (k_G_lefts cA ad G_lefts), (k_G_rights cA ad G_rights), (k_F cA ad F_size), (k_F_kinds cA ad F_kinds), (k_F_sizes cA ad F_sizes), (k_F_literals cA ad F_literals), (k_F_leftOut cA ad F_leftOut), (k_U cA ad U_conflict_104 U_changed_104), (k_U_told cA ad U_told_104)] H locs := hw
      exact hE r104 (U_conflict_104, U_changed_104, U_told_104) _ _ _ _ h.2 (isB_nar h.1) hw d_U_lineFollows_107
    · have h := h.2 hc
      refine lv_aload_n hx hb d_U_lineFollows_82 rfl (lv_at hl 0 rfl) ?_
      refine lv_aload_n hx hb d_U_lineFollows_83 rfl (lv_at hl 0 rfl) ?_
      refine va_get (D := D) (ci := 3) (v := .ref (ad 6)) (C := R_U) (T := T_U) (N := 5) hx hb hts (fun w h => List.mem_cons_of_mem _ (iw_U w h)) hown hK.1 hw.1 9 rfl rfl 1 (by decide) (hg gm_99) (fun _ h9 => h9) rfl d_U_lineFollows_84 ?_
      refine lv_iload_n hx hb d_U_lineFollows_87 rfl (lv_at hl 1 rfl) ?_
      refine lv_iload_n hx hb d_U_lineFollows_88 rfl (lv_at hl 2 rfl) ?_
      refine m_calli (hr := va_runVN (As := [.int p1, .int x2]) (rest := [.ref (ad 11)]) ⟨hx, hb, hml, hown, hts⟩ (c_F_literalOf l D cA ad _ F_size F_literals p1 x2 _ h) ⟨va_cnB 2 hts (gin gm_235) rfl rfl rfl (hK.2 _ nw_416) (hg gm_3) (by decide +kernel) ⟨Nat.le_of_ble_eq_true rfl, Nat.le_of_ble_eq_true rfl⟩, hg gm_234, hg gs_16⟩ (m_preV 2 4 rfl rfl hK hw [4, 7] rfl rfl) rfl rfl hl.1 rfl (lv_room (Nat.le_of_ble_eq_true rfl)) d_U_lineFollows_89 ⟨Nat.zero_le _, Nat.zero_le _⟩) (w2 := (fun (_ : Unit) => [(k_G cA ad G_size G_inputs), (k_G_kinds cA ad G_kinds), (k_G_lefts cA ad G_lefts), (k_G_rights cA ad G_rights), (k_F cA ad F_size), (k_F_kinds cA ad F_kinds), (k_F_sizes cA ad F_sizes), (k_F_literals cA ad F_literals), (k_F_leftOut cA ad F_leftOut), (k_U cA ad U_conflict U_changed), (k_U_told cA ad U_told)])) (wr := [(k_G cA ad G_size G_inputs), (k_G_kinds cA ad G_kinds), (k_G_lefts cA ad G_lefts), (k_G_rights cA ad G_rights), (k_F_kinds cA ad F_kinds), (k_F_sizes cA ad F_sizes), (k_F_leftOut cA ad F_leftOut), (k_U cA ad U_conflict U_changed), (k_U_told cA ad U_told)]) hw hA [4, 7] [0, 1, 2, 3, 5, 6, 8, 9, 10] [0, 1, 2, 3, 9, 4, 5, 10, 6, 7, 8] rfl rfl (by decide) (by decide) (by decide) (fun _ => rfl) (fun r89 u H locs hw h => ?_)
      refine lv_iconst (v := 0) hx hb d_U_lineFollows_92 (by decide) ?_
      refine m_callv (hr := va_runV (As := [.int r89, .int 0]) (rest := []) ⟨hx, hb, hml, hown, hts⟩ (c_U_tell l D cA ad _ U_conflict U_changed U_told r89 0 _ h) (cwV 2 hts (ginV gm_428 gm_430 gs_27 gm_4 gm_431) rfl rfl rfl (by decide +kernel) ⟨Nat.le_of_ble_eq_true rfl, Nat.le_of_ble_eq_true rfl⟩) (m_preV 3 9 rfl rfl hK hw [9, 10] rfl rfl) rfl rfl hl.1 rfl (lv_room (Nat.le_of_ble_eq_true rfl)) d_U_lineFollows_93 ⟨Nat.zero_le _, Nat.zero_le _⟩) (w2 := (fun (u : Int32 × Int32 × (Nat → Int32)) => [(k_G cA ad G_size G_inputs), (k_G_kinds cA ad G_kinds), (k_G_lefts cA ad G_lefts), (k_G_rights cA ad G_rights), (k_F cA ad F_size), (k_F_kinds cA ad F_kinds), (k_F_sizes cA ad F_sizes), (k_F_literals cA ad F_literals), (k_F_leftOut cA ad F_leftOut), (k_U cA ad u.1 u.2.1), (k_U_told cA ad u.2.2)])) (wr := [(k_G cA ad G_size G_inputs), (k_G_kinds cA ad G_kinds), (k_G_lefts cA ad G_lefts), (k_G_rights cA ad G_rights), (k_F cA ad F_size), (k_F_kinds cA ad F_kinds), (k_F_sizes cA ad F_sizes), (k_F_literals cA ad F_literals), (k_F_leftOut cA ad F_leftOut)]) hw hA [9, 10] [0, 1, 2, 3, 4, 5, 6, 7, 8] [0, 1, 2, 3, 4, 5, 6, 7, 8, 9, 10] rfl rfl (by decide) (by decide) (by decide) (fun _ => rfl) (fun u H locs hw h => ?_)
      obtain ⟨U_conflict_93, U_changed_93, U_told_93⟩ := u
      have hw : mW D A s.heap [(k_G cA ad G_size G_inputs), (k_G_kinds cA ad G_kinds), (k_G_lefts cA ad G_lefts), (k_G_rights cA ad G_rights), (k_F cA ad F_size), (k_F_kinds cA ad F_kinds), (k_F_sizes cA ad F_sizes), (k_F_literals cA ad F_literals), (k_F_leftOut cA ad F_leftOut), (k_U cA ad U_conflict_93 U_changed_93), (k_U_told cA ad U_told_93)] H locs := hw
      refine lv_iinc (v := (x2 + 1)) (lv' := [(2, .int (x2 + 1)), (0, .ref (ad 11)), (1, .int p1)]) hx hb d_U_lineFollows_96 hl (k := 2) rfl rfl (by decide) rfl (fun ls hl => ?_)
      refine lv_goto (tgt := 69) hx hb d_U_lineFollows_99 (by decide) ?_
      exact (hC69 _ _ _ _).1 h _ _ _ hw (lv_sub hl [1, 2, 0] rfl)
  unfold wp_U_lineFollows at h
  have h := h C69 hc69
  refine lv_aload_n hx hb d_U_lineFollows_0 rfl (lv_at hl 0 rfl) ?_
  refine va_get (D := D) (ci := 3) (v := .ref (ad 6)) (C := R_U) (T := T_U) (N := 5) hx hb hts (fun w h => List.mem_cons_of_mem _ (iw_U w h)) hown hK.1 hw.1 9 rfl rfl 1 (by decide) (hg gm_99) (fun _ h9 => h9) rfl d_U_lineFollows_1 ?_
  refine va_getN (D := D) (ci := 2) (v := .ref (ad 7)) (C := R_F) (T := T_F) (N := 5) hx hb hts (fun w h => List.mem_cons_of_mem _ (iw_F w h)) hown hK.1 hw.1 4 rfl rfl 0 (by decide) (va_Nw.use rfl (hK.2 _ nw_65)) (fun _ h9 => h9) rfl d_U_lineFollows_4 ?_
  refine lv_iload_n hx hb d_U_lineFollows_7 rfl (lv_at hl 1 rfl) ?_
  refine va_iald hx hb hK.1 hw.1 5 0 rfl rfl h.1 d_U_lineFollows_8 ?_
  have h := h.2
  refine lv_iconst (v := 1) hx hb d_U_lineFollows_9 (by decide) ?_
  refine lv_icmp_ne (tgt := 63) hx hb d_U_lineFollows_10 (by decide) (fun hc => ?_) (fun hc => ?_)
  · have h := h.2 hc
    refine lv_aload_n hx hb d_U_lineFollows_63 rfl (lv_at hl 0 rfl) ?_
    refine m_callv (hr := va_runV (As := []) (rest := []) ⟨hx, hb, hml, hown, hts⟩ (c_U_begin l D cA ad _ U_conflict U_changed U_told _ h) (cwV 0 hts (ginV gm_421 gm_423 gs_26 gm_4 gm_424) rfl rfl rfl (by decide +kernel) ⟨Nat.le_of_ble_eq_true rfl, Nat.le_of_ble_eq_true rfl⟩) (m_preV 3 9 rfl rfl hK hw [9, 10] rfl rfl) rfl rfl hl.1 rfl (lv_room (Nat.le_of_ble_eq_true rfl)) d_U_lineFollows_64 ⟨Nat.zero_le _, Nat.zero_le _⟩) (w2 := (fun (u : Int32 × (Nat → Int32)) => [(k_G cA ad G_size G_inputs), (k_G_kinds cA ad G_kinds), (k_G_lefts cA ad G_lefts), (k_G_rights cA ad G_rights), (k_F cA ad F_size), (k_F_kinds cA ad F_kinds), (k_F_sizes cA ad F_sizes), (k_F_literals cA ad F_literals), (k_F_leftOut cA ad F_leftOut), (k_U cA ad u.1 U_changed), (k_U_told cA ad u.2)])) (wr := [(k_G cA ad G_size G_inputs), (k_G_kinds cA ad G_kinds), (k_G_lefts cA ad G_lefts), (k_G_rights cA ad G_rights), (k_F cA ad F_size), (k_F_kinds cA ad F_kinds), (k_F_sizes cA ad F_sizes), (k_F_literals cA ad F_literals), (k_F_leftOut cA ad F_leftOut)]) hw hA [9, 10] [0, 1, 2, 3, 4, 5, 6, 7, 8] [0, 1, 2, 3, 4, 5, 6, 7, 8, 9, 10] rfl rfl (by decide) (by decide) (by decide) (fun _ => rfl) (fun u H locs hw h => ?_)
    obtain ⟨U_conflict_64, U_told_64⟩ := u
    have hw : mW D A s.heap [(k_G cA ad G_size G_inputs), (k_G_kinds cA ad G_kinds), (k_G_lefts cA ad G_lefts), (k_G_rights cA ad G_rights), (k_F cA ad F_size), (k_F_kinds cA ad F_kinds), (k_F_sizes cA ad F_sizes), (k_F_literals cA ad F_literals), (k_F_leftOut cA ad F_leftOut), (k_U cA ad U_conflict_64 U_changed), (k_U_told cA ad U_told_64)] H locs := hw
    refine lv_iconst (v := 0) hx hb d_U_lineFollows_67 (by decide) ?_
    refine lv_istore_n (lv' := [(2, .int 0), (0, .ref (ad 11)), (1, .int p1)]) hx hb d_U_lineFollows_68 rfl hl (by decide) rfl (fun ls hl => ?_)
    exact (hC69 _ _ _ _).1 h _ _ _ hw (lv_sub hl [1, 2, 0] rfl)
  · have h := h.1 hc
    refine lv_aload_n hx hb d_U_lineFollows_13 rfl (lv_at hl 0 rfl) ?_
    refine va_get (D := D) (ci := 3) (v := .ref (ad 6)) (C := R_U) (T := T_U) (N := 5) hx hb hts (fun w h => List.mem_cons_of_mem _ (iw_U w h)) hown hK.1 hw.1 9 rfl rfl 1 (by decide) (hg gm_99) (fun _ h9 => h9) rfl d_U_lineFollows_14 ?_
    refine lv_iload_n hx hb d_U_lineFollows_17 rfl (lv_at hl 1 rfl) ?_
    refine lv_iconst (v := 0) hx hb d_U_lineFollows_18 (by decide) ?_
    refine m_calli (hr := va_runVN (As := [.int p1, .int 0]) (rest := []) ⟨hx, hb, hml, hown, hts⟩ (c_F_literalOf l D cA ad _ F_size F_literals p1 0 _ h) ⟨va_cnB 2 hts (gin gm_235) rfl rfl rfl (hK.2 _ nw_416) (hg gm_3) (by decide +kernel) ⟨Nat.le_of_ble_eq_true rfl, Nat.le_of_ble_eq_true rfl⟩, hg gm_234, hg gs_16⟩ (m_preV 2 4 rfl rfl hK hw [4, 7] rfl rfl) rfl rfl hl.1 rfl (lv_room (Nat.le_of_ble_eq_true rfl)) d_U_lineFollows_19 ⟨Nat.zero_le _, Nat.zero_le _⟩) (w2 := (fun (_ : Unit) => [(k_G cA ad G_size G_inputs), (k_G_kinds cA ad G_kinds), (k_G_lefts cA ad G_lefts), (k_G_rights cA ad G_rights), (k_F cA ad F_size), (k_F_kinds cA ad F_kinds), (k_F_sizes cA ad F_sizes), (k_F_literals cA ad F_literals), (k_F_leftOut cA ad F_leftOut), (k_U cA ad U_conflict U_changed), (k_U_told cA ad U_told)])) (wr := [(k_G cA ad G_size G_inputs), (k_G_kinds cA ad G_kinds), (k_G_lefts cA ad G_lefts), (k_G_rights cA ad G_rights), (k_F_kinds cA ad F_kinds), (k_F_sizes cA ad F_sizes), (k_F_leftOut cA ad F_leftOut), (k_U cA ad U_conflict U_changed), (k_U_told cA ad U_told)]) hw hA [4, 7] [0, 1, 2, 3, 5, 6, 8, 9, 10] [0, 1, 2, 3, 9, 4, 5, 10, 6, 7, 8] rfl rfl (by decide) (by decide) (by decide) (fun _ => rfl) (fun r19 u H locs hw h => ?_)
    refine lv_istore_n (lv' := [(2, .int r19), (0, .ref (ad 11)), (1, .int p1)]) hx hb d_U_lineFollows_22 rfl hl (by decide) rfl (fun ls hl => ?_)
    refine lv_aload_n hx hb d_U_lineFollows_23 rfl (lv_at hl 1 rfl) ?_
    refine va_get (D := D) (ci := 3) (v := .ref (ad 6)) (C := R_U) (T := T_U) (N := 5) hx hb hts (fun w h => List.mem_cons_of_mem _ (iw_U w h)) hown hK.1 hw.1 9 rfl rfl 1 (by decide) (hg gm_99) (fun _ h9 => h9) rfl d_U_lineFollows_24 ?_
    refine lv_iload_n hx hb d_U_lineFollows_27 rfl (lv_at hl 2 rfl) ?_
    refine lv_iconst (v := 1) hx hb d_U_lineFollows_28 (by decide) ?_
    refine m_calli (hr := va_runVN (As := [.int p1, .int 1]) (rest := []) ⟨hx, hb, hml, hown, hts⟩ (c_F_literalOf l D cA ad _ F_size F_literals p1 1 _ h) ⟨va_cnB 2 hts (gin gm_235) rfl rfl rfl (hK.2 _ nw_416) (hg gm_3) (by decide +kernel) ⟨Nat.le_of_ble_eq_true rfl, Nat.le_of_ble_eq_true rfl⟩, hg gm_234, hg gs_16⟩ (m_preV 2 4 rfl rfl hK hw [4, 7] rfl rfl) rfl rfl hl.1 rfl (lv_room (Nat.le_of_ble_eq_true rfl)) d_U_lineFollows_29 ⟨Nat.zero_le _, Nat.zero_le _⟩) (w2 := (fun (_ : Unit) => [(k_G cA ad G_size G_inputs), (k_G_kinds cA ad G_kinds), (k_G_lefts cA ad G_lefts), (k_G_rights cA ad G_rights), (k_F cA ad F_size), (k_F_kinds cA ad F_kinds), (k_F_sizes cA ad F_sizes), (k_F_literals cA ad F_literals), (k_F_leftOut cA ad F_leftOut), (k_U cA ad U_conflict U_changed), (k_U_told cA ad U_told)])) (wr := [(k_G cA ad G_size G_inputs), (k_G_kinds cA ad G_kinds), (k_G_lefts cA ad G_lefts), (k_G_rights cA ad G_rights), (k_F_kinds cA ad F_kinds), (k_F_sizes cA ad F_sizes), (k_F_leftOut cA ad F_leftOut), (k_U cA ad U_conflict U_changed), (k_U_told cA ad U_told)]) hw hA [4, 7] [0, 1, 2, 3, 5, 6, 8, 9, 10] [0, 1, 2, 3, 9, 4, 5, 10, 6, 7, 8] rfl rfl (by decide) (by decide) (by decide) (fun _ => rfl) (fun r29 u H locs hw h => ?_)
    refine lv_istore_n (lv' := [(3, .int r29), (2, .int r19), (0, .ref (ad 11)), (1, .int p1)]) hx hb d_U_lineFollows_32 rfl hl (by decide) rfl (fun ls hl => ?_)
    refine lv_aload_n hx hb d_U_lineFollows_33 rfl (lv_at hl 2 rfl) ?_
    refine lv_iload_n hx hb d_U_lineFollows_34 rfl (lv_at hl 1 rfl) ?_
    refine lv_iload_n hx hb d_U_lineFollows_35 rfl (lv_at hl 0 rfl) ?_
    refine lv_iconst (v := 1) hx hb d_U_lineFollows_36 (by decide) ?_
    refine lv_ixor hx hb d_U_lineFollows_37 ?_
    refine lv_iload_n hx hb d_U_lineFollows_38 rfl (lv_at hl 3 rfl) ?_
    refine m_calli (hr := va_runV (As := [.int r19, .int (r29 ^^^ 1), .int p1]) (rest := []) ⟨hx, hb, hml, hown, hts⟩ (c_U_bothConflict l D cA ad _ G_size G_inputs G_kinds G_lefts G_rights F_size F_kinds F_sizes F_literals F_leftOut U_conflict U_changed U_told r19 (r29 ^^^ 1) p1 _ h) (cwV 3 hts (ginV gm_417 gm_419 gs_25 gm_4 gm_420) rfl rfl rfl (by decide +kernel) ⟨Nat.le_of_ble_eq_true rfl, Nat.le_of_ble_eq_true rfl⟩) (m_preV 3 9 rfl rfl hK hw [0, 1, 2, 3, 4, 5, 6, 7, 8, 9, 10] rfl rfl) rfl rfl hl.1 rfl (lv_room (Nat.le_of_ble_eq_true rfl)) d_U_lineFollows_39 ⟨Nat.zero_le _, Nat.zero_le _⟩) (w2 := (fun (u : Int32 × Int32 × (Nat → Int32)) => [(k_G cA ad G_size G_inputs), (k_G_kinds cA ad G_kinds), (k_G_lefts cA ad G_lefts), (k_G_rights cA ad G_rights), (k_F cA ad F_size), (k_F_kinds cA ad F_kinds), (k_F_sizes cA ad F_sizes), (k_F_literals cA ad F_literals), (k_F_leftOut cA ad F_leftOut), (k_U cA ad u.1 u.2.1), (k_U_told cA ad u.2.2)])) (wr := []) hw hA [0, 1, 2, 3, 4, 5, 6, 7, 8, 9, 10] [] [0, 1, 2, 3, 4, 5, 6, 7, 8, 9, 10] rfl rfl (by decide) (by decide) (by decide) (fun _ => rfl) (fun r39 u H locs hw h => ?_)
    obtain ⟨U_conflict_39, U_changed_39, U_told_39⟩ := u
    have hw : mW D A s.heap [(k_G cA ad G_size G_inputs), (k_G_kinds cA ad G_kinds), (k_G_lefts cA ad G_lefts), (k_G_rights cA ad G_rights), (k_F cA ad F_size), (k_F_kinds cA ad F_kinds), (k_F_sizes cA ad F_sizes), (k_F_literals cA ad F_literals), (k_F_leftOut cA ad F_leftOut), (k_U cA ad U_conflict_39 U_changed_39), (k_U_told cA ad U_told_39)] H locs := hw
    refine lv_if_eq (tgt := 61) hx hb d_U_lineFollows_42 (by decide) (fun hc => ?_) (fun hc => ?_)
    · have h := h.1 hc
      refine lv_iconst (v := 0) hx hb d_U_lineFollows_61 (by decide) ?_
      exact hE 0 (U_conflict_39, U_changed_39, U_told_39) _ _ _ _ h rfl hw d_U_lineFollows_62
    · have h := h.2 hc
      refine lv_aload_n hx hb d_U_lineFollows_45 rfl (lv_at hl 2 rfl) ?_
      refine lv_iload_n hx hb d_U_lineFollows_46 rfl (lv_at hl 1 rfl) ?_
      refine lv_iconst (v := 1) hx hb d_U_lineFollows_47 (by decide) ?_
      refine lv_ixor hx hb d_U_lineFollows_48 ?_
      refine lv_iload_n hx hb d_U_lineFollows_49 rfl (lv_at hl 0 rfl) ?_
      refine lv_iload_n hx hb d_U_lineFollows_50 rfl (lv_at hl 3 rfl) ?_
      refine m_calli (hr := va_runV (As := [.int (r19 ^^^ 1), .int r29, .int p1]) (rest := []) ⟨hx, hb, hml, hown, hts⟩ (c_U_bothConflict l D cA ad _ G_size G_inputs G_kinds G_lefts G_rights F_size F_kinds F_sizes F_literals F_leftOut U_conflict_39 U_changed_39 U_told_39 (r19 ^^^ 1) r29 p1 _ h) (cwV 3 hts (ginV gm_417 gm_419 gs_25 gm_4 gm_420) rfl rfl rfl (by decide +kernel) ⟨Nat.le_of_ble_eq_true rfl, Nat.le_of_ble_eq_true rfl⟩) (m_preV 3 9 rfl rfl hK hw [0, 1, 2, 3, 4, 5, 6, 7, 8, 9, 10] rfl rfl) rfl rfl hl.1 rfl (lv_room (Nat.le_of_ble_eq_true rfl)) d_U_lineFollows_51 ⟨Nat.zero_le _, Nat.zero_le _⟩) (w2 := (fun (u : Int32 × Int32 × (Nat → Int32)) => [(k_G cA ad G_size G_inputs), (k_G_kinds cA ad G_kinds), (k_G_lefts cA ad G_lefts), (k_G_rights cA ad G_rights), (k_F cA ad F_size), (k_F_kinds cA ad F_kinds), (k_F_sizes cA ad F_sizes), (k_F_literals cA ad F_literals), (k_F_leftOut cA ad F_leftOut), (k_U cA ad u.1 u.2.1), (k_U_told cA ad u.2.2)])) (wr := []) hw hA [0, 1, 2, 3, 4, 5, 6, 7, 8, 9, 10] [] [0, 1, 2, 3, 4, 5, 6, 7, 8, 9, 10] rfl rfl (by decide) (by decide) (by decide) (fun _ => rfl) (fun r51 u H locs hw h => ?_)
      obtain ⟨U_conflict_51, U_changed_51, U_told_51⟩ := u
      have hw : mW D A s.heap [(k_G cA ad G_size G_inputs), (k_G_kinds cA ad G_kinds), (k_G_lefts cA ad G_lefts), (k_G_rights cA ad G_rights), (k_F cA ad F_size), (k_F_kinds cA ad F_kinds), (k_F_sizes cA ad F_sizes), (k_F_literals cA ad F_literals), (k_F_leftOut cA ad F_leftOut), (k_U cA ad U_conflict_51 U_changed_51), (k_U_told cA ad U_told_51)] H locs := hw
      refine lv_if_eq (tgt := 61) hx hb d_U_lineFollows_54 (by decide) (fun hc => ?_) (fun hc => ?_)
      · have h := h.1 hc
        refine lv_iconst (v := 0) hx hb d_U_lineFollows_61 (by decide) ?_
        exact hE 0 (U_conflict_51, U_changed_51, U_told_51) _ _ _ _ h rfl hw d_U_lineFollows_62
      · have h := h.2 hc
        refine lv_iconst (v := 1) hx hb d_U_lineFollows_57 (by decide) ?_
        refine lv_goto (tgt := 62) hx hb d_U_lineFollows_58 (by decide) ?_
        exact hE 1 (U_conflict_51, U_changed_51, U_told_51) _ _ _ _ h rfl hw d_U_lineFollows_62
