theorem d_G_has_0 : decode b_G_has 0 = .ok (.iload_n 1, 1) := by decide +kernel
theorem d_G_has_1 : decode b_G_has 1 = .ok (.ifCond .lt 15, 3) := by decide +kernel
theorem d_G_has_4 : decode b_G_has 4 = .ok (.iload_n 1, 1) := by decide +kernel
theorem d_G_has_5 : decode b_G_has 5 = .ok (.aload_n 0, 1) := by decide +kernel
theorem d_G_has_6 : decode b_G_has 6 = .ok (.getfield 25, 3) := by decide +kernel
theorem d_G_has_9 : decode b_G_has 9 = .ok (.if_icmp .ge 7, 3) := by decide +kernel
theorem d_G_has_12 : decode b_G_has 12 = .ok (.iconst 1, 1) := by decide +kernel
theorem d_G_has_13 : decode b_G_has 13 = .ok (.goto 4, 3) := by decide +kernel
theorem d_G_has_16 : decode b_G_has 16 = .ok (.iconst 0, 1) := by decide +kernel
theorem d_G_has_17 : decode b_G_has 17 = .ok (.ireturn, 1) := by decide +kernel
theorem d_G_hasLiteral_0 : decode b_G_hasLiteral 0 = .ok (.iload_n 1, 1) := by decide +kernel
theorem d_G_hasLiteral_1 : decode b_G_hasLiteral 1 = .ok (.ifCond .lt 17, 3) := by decide +kernel
theorem d_G_hasLiteral_4 : decode b_G_hasLiteral 4 = .ok (.aload_n 0, 1) := by decide +kernel
theorem d_G_hasLiteral_5 : decode b_G_hasLiteral 5 = .ok (.iload_n 1, 1) := by decide +kernel
theorem d_G_hasLiteral_6 : decode b_G_hasLiteral 6 = .ok (.iconst 1, 1) := by decide +kernel
theorem d_G_hasLiteral_7 : decode b_G_hasLiteral 7 = .ok (.ishr, 1) := by decide +kernel
theorem d_G_hasLiteral_8 : decode b_G_hasLiteral 8 = .ok (.invokevirtual 32, 3) := by decide +kernel
theorem d_G_hasLiteral_11 : decode b_G_hasLiteral 11 = .ok (.ifCond .eq 7, 3) := by decide +kernel
theorem d_G_hasLiteral_14 : decode b_G_hasLiteral 14 = .ok (.iconst 1, 1) := by decide +kernel
theorem d_G_hasLiteral_15 : decode b_G_hasLiteral 15 = .ok (.goto 4, 3) := by decide +kernel
theorem d_G_hasLiteral_18 : decode b_G_hasLiteral 18 = .ok (.iconst 0, 1) := by decide +kernel
theorem d_G_hasLiteral_19 : decode b_G_hasLiteral 19 = .ok (.ireturn, 1) := by decide +kernel
theorem d_G_add_0 : decode b_G_add 0 = .ok (.aload_n 0, 1) := by decide +kernel
theorem d_G_add_1 : decode b_G_add 1 = .ok (.getfield 25, 3) := by decide +kernel
theorem d_G_add_4 : decode b_G_add 4 = .ok (.istore 4, 2) := by decide +kernel
theorem d_G_add_6 : decode b_G_add 6 = .ok (.aload_n 0, 1) := by decide +kernel
theorem d_G_add_7 : decode b_G_add 7 = .ok (.getfield 9, 3) := by decide +kernel
theorem d_G_add_10 : decode b_G_add 10 = .ok (.iload 4, 2) := by decide +kernel
theorem d_G_add_12 : decode b_G_add 12 = .ok (.iload_n 1, 1) := by decide +kernel
theorem d_G_add_13 : decode b_G_add 13 = .ok (.iastore, 1) := by decide +kernel
theorem d_G_add_14 : decode b_G_add 14 = .ok (.iload_n 1, 1) := by decide +kernel
theorem d_G_add_15 : decode b_G_add 15 = .ok (.ifCond .ne 16, 3) := by decide +kernel
theorem d_G_add_18 : decode b_G_add 18 = .ok (.aload_n 0, 1) := by decide +kernel
theorem d_G_add_19 : decode b_G_add 19 = .ok (.dup, 1) := by decide +kernel
theorem d_G_add_20 : decode b_G_add 20 = .ok (.getfield 29, 3) := by decide +kernel
theorem d_G_add_23 : decode b_G_add 23 = .ok (.iconst 1, 1) := by decide +kernel
theorem d_G_add_24 : decode b_G_add 24 = .ok (.iadd, 1) := by decide +kernel
theorem d_G_add_25 : decode b_G_add 25 = .ok (.putfield 29, 3) := by decide +kernel
theorem d_G_add_28 : decode b_G_add 28 = .ok (.goto 19, 3) := by decide +kernel
theorem d_G_add_31 : decode b_G_add 31 = .ok (.aload_n 0, 1) := by decide +kernel
theorem d_G_add_32 : decode b_G_add 32 = .ok (.getfield 15, 3) := by decide +kernel
theorem d_G_add_35 : decode b_G_add 35 = .ok (.iload 4, 2) := by decide +kernel
theorem d_G_add_37 : decode b_G_add 37 = .ok (.iload_n 2, 1) := by decide +kernel
theorem d_G_add_38 : decode b_G_add 38 = .ok (.iastore, 1) := by decide +kernel
theorem d_G_add_39 : decode b_G_add 39 = .ok (.aload_n 0, 1) := by decide +kernel
theorem d_G_add_40 : decode b_G_add 40 = .ok (.getfield 18, 3) := by decide +kernel
theorem d_G_add_43 : decode b_G_add 43 = .ok (.iload 4, 2) := by decide +kernel
theorem d_G_add_45 : decode b_G_add 45 = .ok (.iload_n 3, 1) := by decide +kernel
theorem d_G_add_46 : decode b_G_add 46 = .ok (.iastore, 1) := by decide +kernel
theorem d_G_add_47 : decode b_G_add 47 = .ok (.aload_n 0, 1) := by decide +kernel
theorem d_G_add_48 : decode b_G_add 48 = .ok (.dup, 1) := by decide +kernel
theorem d_G_add_49 : decode b_G_add 49 = .ok (.getfield 25, 3) := by decide +kernel
theorem d_G_add_52 : decode b_G_add 52 = .ok (.iconst 1, 1) := by decide +kernel
theorem d_G_add_53 : decode b_G_add 53 = .ok (.iadd, 1) := by decide +kernel
theorem d_G_add_54 : decode b_G_add 54 = .ok (.putfield 25, 3) := by decide +kernel
theorem d_G_add_57 : decode b_G_add 57 = .ok (.iload 4, 2) := by decide +kernel
theorem d_G_add_59 : decode b_G_add 59 = .ok (.ireturn, 1) := by decide +kernel
theorem d_G_truthOf_0 : decode b_G_truthOf 0 = .ok (.aload_n 0, 1) := by decide +kernel
theorem d_G_truthOf_1 : decode b_G_truthOf 1 = .ok (.getfield 21, 3) := by decide +kernel
theorem d_G_truthOf_4 : decode b_G_truthOf 4 = .ok (.iload_n 1, 1) := by decide +kernel
theorem d_G_truthOf_5 : decode b_G_truthOf 5 = .ok (.iconst 1, 1) := by decide +kernel
theorem d_G_truthOf_6 : decode b_G_truthOf 6 = .ok (.ishr, 1) := by decide +kernel
theorem d_G_truthOf_7 : decode b_G_truthOf 7 = .ok (.baload, 1) := by decide +kernel
theorem d_G_truthOf_8 : decode b_G_truthOf 8 = .ok (.iload_n 1, 1) := by decide +kernel
theorem d_G_truthOf_9 : decode b_G_truthOf 9 = .ok (.iconst 1, 1) := by decide +kernel
theorem d_G_truthOf_10 : decode b_G_truthOf 10 = .ok (.iand, 1) := by decide +kernel
theorem d_G_truthOf_11 : decode b_G_truthOf 11 = .ok (.iconst 1, 1) := by decide +kernel
theorem d_G_truthOf_12 : decode b_G_truthOf 12 = .ok (.if_icmp .ne 7, 3) := by decide +kernel
theorem d_G_truthOf_15 : decode b_G_truthOf 15 = .ok (.iconst 1, 1) := by decide +kernel
theorem d_G_truthOf_16 : decode b_G_truthOf 16 = .ok (.goto 4, 3) := by decide +kernel
theorem d_G_truthOf_19 : decode b_G_truthOf 19 = .ok (.iconst 0, 1) := by decide +kernel
theorem d_G_truthOf_20 : decode b_G_truthOf 20 = .ok (.if_icmp .eq 7, 3) := by decide +kernel
theorem d_G_truthOf_23 : decode b_G_truthOf 23 = .ok (.iconst 1, 1) := by decide +kernel
theorem d_G_truthOf_24 : decode b_G_truthOf 24 = .ok (.goto 4, 3) := by decide +kernel
theorem d_G_truthOf_27 : decode b_G_truthOf 27 = .ok (.iconst 0, 1) := by decide +kernel
theorem d_G_truthOf_28 : decode b_G_truthOf 28 = .ok (.ireturn, 1) := by decide +kernel
theorem d_G_isTrueWith_0 : decode b_G_isTrueWith 0 = .ok (.iload_n 1, 1) := by decide +kernel
theorem d_G_isTrueWith_1 : decode b_G_isTrueWith 1 = .ok (.iconst 1, 1) := by decide +kernel
theorem d_G_isTrueWith_2 : decode b_G_isTrueWith 2 = .ok (.ishr, 1) := by decide +kernel
theorem d_G_isTrueWith_3 : decode b_G_isTrueWith 3 = .ok (.istore 4, 2) := by decide +kernel
theorem d_G_isTrueWith_5 : decode b_G_isTrueWith 5 = .ok (.lload_n 2, 1) := by decide +kernel
theorem d_G_isTrueWith_6 : decode b_G_isTrueWith 6 = .ok (.lstore 5, 2) := by decide +kernel
theorem d_G_isTrueWith_8 : decode b_G_isTrueWith 8 = .ok (.iconst 1, 1) := by decide +kernel
theorem d_G_isTrueWith_9 : decode b_G_isTrueWith 9 = .ok (.istore 7, 2) := by decide +kernel
theorem d_G_isTrueWith_11 : decode b_G_isTrueWith 11 = .ok (.iload 7, 2) := by decide +kernel
theorem d_G_isTrueWith_13 : decode b_G_isTrueWith 13 = .ok (.iload 4, 2) := by decide +kernel
theorem d_G_isTrueWith_15 : decode b_G_isTrueWith 15 = .ok (.if_icmp .gt 140, 3) := by decide +kernel
theorem d_G_isTrueWith_18 : decode b_G_isTrueWith 18 = .ok (.aload_n 0, 1) := by decide +kernel
theorem d_G_isTrueWith_19 : decode b_G_isTrueWith 19 = .ok (.getfield 9, 3) := by decide +kernel
theorem d_G_isTrueWith_22 : decode b_G_isTrueWith 22 = .ok (.iload 7, 2) := by decide +kernel
theorem d_G_isTrueWith_24 : decode b_G_isTrueWith 24 = .ok (.iaload, 1) := by decide +kernel
theorem d_G_isTrueWith_25 : decode b_G_isTrueWith 25 = .ok (.ifCond .ne 33, 3) := by decide +kernel
theorem d_G_isTrueWith_28 : decode b_G_isTrueWith 28 = .ok (.aload_n 0, 1) := by decide +kernel
theorem d_G_isTrueWith_29 : decode b_G_isTrueWith 29 = .ok (.getfield 21, 3) := by decide +kernel
theorem d_G_isTrueWith_32 : decode b_G_isTrueWith 32 = .ok (.iload 7, 2) := by decide +kernel
theorem d_G_isTrueWith_34 : decode b_G_isTrueWith 34 = .ok (.lload 5, 2) := by decide +kernel
theorem d_G_isTrueWith_36 : decode b_G_isTrueWith 36 = .ok (.lconst 1, 1) := by decide +kernel
theorem d_G_isTrueWith_37 : decode b_G_isTrueWith 37 = .ok (.land, 1) := by decide +kernel
theorem d_G_isTrueWith_38 : decode b_G_isTrueWith 38 = .ok (.lconst 0, 1) := by decide +kernel
theorem d_G_isTrueWith_39 : decode b_G_isTrueWith 39 = .ok (.lcmp, 1) := by decide +kernel
theorem d_G_isTrueWith_40 : decode b_G_isTrueWith 40 = .ok (.ifCond .eq 7, 3) := by decide +kernel
theorem d_G_isTrueWith_43 : decode b_G_isTrueWith 43 = .ok (.iconst 1, 1) := by decide +kernel
theorem d_G_isTrueWith_44 : decode b_G_isTrueWith 44 = .ok (.goto 4, 3) := by decide +kernel
theorem d_G_isTrueWith_47 : decode b_G_isTrueWith 47 = .ok (.iconst 0, 1) := by decide +kernel
theorem d_G_isTrueWith_48 : decode b_G_isTrueWith 48 = .ok (.bastore, 1) := by decide +kernel
theorem d_G_isTrueWith_49 : decode b_G_isTrueWith 49 = .ok (.lload 5, 2) := by decide +kernel
theorem d_G_isTrueWith_51 : decode b_G_isTrueWith 51 = .ok (.iconst 1, 1) := by decide +kernel
theorem d_G_isTrueWith_52 : decode b_G_isTrueWith 52 = .ok (.lushr, 1) := by decide +kernel
theorem d_G_isTrueWith_53 : decode b_G_isTrueWith 53 = .ok (.lstore 5, 2) := by decide +kernel
theorem d_G_isTrueWith_55 : decode b_G_isTrueWith 55 = .ok (.goto 94, 3) := by decide +kernel
theorem d_G_isTrueWith_58 : decode b_G_isTrueWith 58 = .ok (.aload_n 0, 1) := by decide +kernel
theorem d_G_isTrueWith_59 : decode b_G_isTrueWith 59 = .ok (.getfield 9, 3) := by decide +kernel
theorem d_G_isTrueWith_62 : decode b_G_isTrueWith 62 = .ok (.iload 7, 2) := by decide +kernel
theorem d_G_isTrueWith_64 : decode b_G_isTrueWith 64 = .ok (.iaload, 1) := by decide +kernel
theorem d_G_isTrueWith_65 : decode b_G_isTrueWith 65 = .ok (.iconst 1, 1) := by decide +kernel
theorem d_G_isTrueWith_66 : decode b_G_isTrueWith 66 = .ok (.if_icmp .ne 46, 3) := by decide +kernel
theorem d_G_isTrueWith_69 : decode b_G_isTrueWith 69 = .ok (.aload_n 0, 1) := by decide +kernel
theorem d_G_isTrueWith_70 : decode b_G_isTrueWith 70 = .ok (.getfield 21, 3) := by decide +kernel
theorem d_G_isTrueWith_73 : decode b_G_isTrueWith 73 = .ok (.iload 7, 2) := by decide +kernel
theorem d_G_isTrueWith_75 : decode b_G_isTrueWith 75 = .ok (.aload_n 0, 1) := by decide +kernel
theorem d_G_isTrueWith_76 : decode b_G_isTrueWith 76 = .ok (.aload_n 0, 1) := by decide +kernel
theorem d_G_isTrueWith_77 : decode b_G_isTrueWith 77 = .ok (.getfield 15, 3) := by decide +kernel
theorem d_G_isTrueWith_80 : decode b_G_isTrueWith 80 = .ok (.iload 7, 2) := by decide +kernel
theorem d_G_isTrueWith_82 : decode b_G_isTrueWith 82 = .ok (.iaload, 1) := by decide +kernel
theorem d_G_isTrueWith_83 : decode b_G_isTrueWith 83 = .ok (.invokevirtual 36, 3) := by decide +kernel
theorem d_G_isTrueWith_86 : decode b_G_isTrueWith 86 = .ok (.ifCond .eq 21, 3) := by decide +kernel
theorem d_G_isTrueWith_89 : decode b_G_isTrueWith 89 = .ok (.aload_n 0, 1) := by decide +kernel
theorem d_G_isTrueWith_90 : decode b_G_isTrueWith 90 = .ok (.aload_n 0, 1) := by decide +kernel
theorem d_G_isTrueWith_91 : decode b_G_isTrueWith 91 = .ok (.getfield 18, 3) := by decide +kernel
theorem d_G_isTrueWith_94 : decode b_G_isTrueWith 94 = .ok (.iload 7, 2) := by decide +kernel
theorem d_G_isTrueWith_96 : decode b_G_isTrueWith 96 = .ok (.iaload, 1) := by decide +kernel
theorem d_G_isTrueWith_97 : decode b_G_isTrueWith 97 = .ok (.invokevirtual 36, 3) := by decide +kernel
theorem d_G_isTrueWith_100 : decode b_G_isTrueWith 100 = .ok (.ifCond .eq 7, 3) := by decide +kernel
theorem d_G_isTrueWith_103 : decode b_G_isTrueWith 103 = .ok (.iconst 1, 1) := by decide +kernel
theorem d_G_isTrueWith_104 : decode b_G_isTrueWith 104 = .ok (.goto 4, 3) := by decide +kernel
theorem d_G_isTrueWith_107 : decode b_G_isTrueWith 107 = .ok (.iconst 0, 1) := by decide +kernel
theorem d_G_isTrueWith_108 : decode b_G_isTrueWith 108 = .ok (.bastore, 1) := by decide +kernel
theorem d_G_isTrueWith_109 : decode b_G_isTrueWith 109 = .ok (.goto 40, 3) := by decide +kernel
theorem d_G_isTrueWith_112 : decode b_G_isTrueWith 112 = .ok (.aload_n 0, 1) := by decide +kernel
theorem d_G_isTrueWith_113 : decode b_G_isTrueWith 113 = .ok (.getfield 21, 3) := by decide +kernel
theorem d_G_isTrueWith_116 : decode b_G_isTrueWith 116 = .ok (.iload 7, 2) := by decide +kernel
theorem d_G_isTrueWith_118 : decode b_G_isTrueWith 118 = .ok (.aload_n 0, 1) := by decide +kernel
theorem d_G_isTrueWith_119 : decode b_G_isTrueWith 119 = .ok (.aload_n 0, 1) := by decide +kernel
theorem d_G_isTrueWith_120 : decode b_G_isTrueWith 120 = .ok (.getfield 15, 3) := by decide +kernel
theorem d_G_isTrueWith_123 : decode b_G_isTrueWith 123 = .ok (.iload 7, 2) := by decide +kernel
theorem d_G_isTrueWith_125 : decode b_G_isTrueWith 125 = .ok (.iaload, 1) := by decide +kernel
theorem d_G_isTrueWith_126 : decode b_G_isTrueWith 126 = .ok (.invokevirtual 36, 3) := by decide +kernel
theorem d_G_isTrueWith_129 : decode b_G_isTrueWith 129 = .ok (.aload_n 0, 1) := by decide +kernel
theorem d_G_isTrueWith_130 : decode b_G_isTrueWith 130 = .ok (.aload_n 0, 1) := by decide +kernel
theorem d_G_isTrueWith_131 : decode b_G_isTrueWith 131 = .ok (.getfield 18, 3) := by decide +kernel
theorem d_G_isTrueWith_134 : decode b_G_isTrueWith 134 = .ok (.iload 7, 2) := by decide +kernel
theorem d_G_isTrueWith_136 : decode b_G_isTrueWith 136 = .ok (.iaload, 1) := by decide +kernel
theorem d_G_isTrueWith_137 : decode b_G_isTrueWith 137 = .ok (.invokevirtual 36, 3) := by decide +kernel
theorem d_G_isTrueWith_140 : decode b_G_isTrueWith 140 = .ok (.if_icmp .eq 7, 3) := by decide +kernel
theorem d_G_isTrueWith_143 : decode b_G_isTrueWith 143 = .ok (.iconst 1, 1) := by decide +kernel
theorem d_G_isTrueWith_144 : decode b_G_isTrueWith 144 = .ok (.goto 4, 3) := by decide +kernel
theorem d_G_isTrueWith_147 : decode b_G_isTrueWith 147 = .ok (.iconst 0, 1) := by decide +kernel
theorem d_G_isTrueWith_148 : decode b_G_isTrueWith 148 = .ok (.bastore, 1) := by decide +kernel
theorem d_G_isTrueWith_149 : decode b_G_isTrueWith 149 = .ok (.iinc 7 1, 3) := by decide +kernel
theorem d_G_isTrueWith_152 : decode b_G_isTrueWith 152 = .ok (.goto (-141), 3) := by decide +kernel
theorem d_G_isTrueWith_155 : decode b_G_isTrueWith 155 = .ok (.aload_n 0, 1) := by decide +kernel
theorem d_G_isTrueWith_156 : decode b_G_isTrueWith 156 = .ok (.iload_n 1, 1) := by decide +kernel
theorem d_G_isTrueWith_157 : decode b_G_isTrueWith 157 = .ok (.invokevirtual 36, 3) := by decide +kernel
theorem d_G_isTrueWith_160 : decode b_G_isTrueWith 160 = .ok (.ireturn, 1) := by decide +kernel
theorem d_G_new_0 : decode b_G_new 0 = .ok (.aload_n 0, 1) := by decide +kernel
theorem d_G_new_1 : decode b_G_new 1 = .ok (.invokespecial 3, 3) := by decide +kernel
theorem d_G_new_4 : decode b_G_new 4 = .ok (.aload_n 0, 1) := by decide +kernel
theorem d_G_new_5 : decode b_G_new 5 = .ok (.bipush 40, 2) := by decide +kernel
theorem d_G_new_7 : decode b_G_new 7 = .ok (.newarray .int, 2) := by decide +kernel
theorem d_G_new_9 : decode b_G_new 9 = .ok (.putfield 9, 3) := by decide +kernel
theorem d_G_new_12 : decode b_G_new 12 = .ok (.aload_n 0, 1) := by decide +kernel
theorem d_G_new_13 : decode b_G_new 13 = .ok (.bipush 40, 2) := by decide +kernel
theorem d_G_new_15 : decode b_G_new 15 = .ok (.newarray .int, 2) := by decide +kernel
theorem d_G_new_17 : decode b_G_new 17 = .ok (.putfield 15, 3) := by decide +kernel
theorem d_G_new_20 : decode b_G_new 20 = .ok (.aload_n 0, 1) := by decide +kernel
theorem d_G_new_21 : decode b_G_new 21 = .ok (.bipush 40, 2) := by decide +kernel
theorem d_G_new_23 : decode b_G_new 23 = .ok (.newarray .int, 2) := by decide +kernel
theorem d_G_new_25 : decode b_G_new 25 = .ok (.putfield 18, 3) := by decide +kernel
theorem d_G_new_28 : decode b_G_new 28 = .ok (.aload_n 0, 1) := by decide +kernel
theorem d_G_new_29 : decode b_G_new 29 = .ok (.bipush 40, 2) := by decide +kernel
theorem d_G_new_31 : decode b_G_new 31 = .ok (.newarray .boolean, 2) := by decide +kernel
theorem d_G_new_33 : decode b_G_new 33 = .ok (.putfield 21, 3) := by decide +kernel
theorem d_G_new_36 : decode b_G_new 36 = .ok (.aload_n 0, 1) := by decide +kernel
theorem d_G_new_37 : decode b_G_new 37 = .ok (.iconst 1, 1) := by decide +kernel
theorem d_G_new_38 : decode b_G_new 38 = .ok (.putfield 25, 3) := by decide +kernel
theorem d_G_new_41 : decode b_G_new 41 = .ok (.aload_n 0, 1) := by decide +kernel
theorem d_G_new_42 : decode b_G_new 42 = .ok (.iconst 0, 1) := by decide +kernel
theorem d_G_new_43 : decode b_G_new 43 = .ok (.putfield 29, 3) := by decide +kernel
theorem d_G_new_46 : decode b_G_new 46 = .ok (.return_, 1) := by decide +kernel
def rm_G_has : Room := { frames := 0, cells := 0, slots := 0, locals := 0 }
set_option maxHeartbeats 4000000 in
set_option maxRecDepth 100000 in
theorem c_G_has (l : Launch) (D : va_G) (cA : Nat → ClassId) (ad : Nat → Nat) (sz : Nat) (G_size : Int32) (G_inputs : Int32) (p1 : Int32) (post : Int32 → Prop) (h : wp_G_has G_size p1 post) : Met l y_G_has w_G_has rm_G_has (mPc D cA [.ref (ad 1), .int p1] [(k_G cA ad G_size G_inputs)] sz) (va_Qi (fun (r : Int32) (_ : Unit) => post r) (mB D (va_A [(k_G cA ad G_size G_inputs)] sz) (fun (_ : Unit) => [(k_G cA ad G_size G_inputs)])) (va_A [(k_G cA ad G_size G_inputs)] sz)) 0 0 (va_A [(k_G cA ad G_size G_inputs)] sz) := by
  refine m_methZ (by decide) rfl (Nat.le_of_ble_eq_true rfl) ?_
  intro p e s m below meth c A Q ls hx hb hml hown hts hK hA hw hl hE
  have hl : lv_has ls 2 [(0, .ref (ad 1)), (1, .int p1)] := hl
  have hown : s.vm.findClass R_G = some m.cls := hown
  have hg : ∀ {w : Cond}, w ∈ gw → w.before _ s = true := fun h => hts _ (List.mem_cons_of_mem _ h)
  unfold wp_G_has at h
  refine lv_iload_n hx hb d_G_has_0 rfl (lv_at hl 1 rfl) ?_
  refine lv_if_lt (tgt := 16) hx hb d_G_has_1 (by decide) (fun hc => ?_) (fun hc => ?_)
  · have h := h.1 hc
    refine lv_iconst (v := 0) hx hb d_G_has_16 (by decide) ?_
    exact hE 0 () _ _ _ _ h rfl hw d_G_has_17
  · have h := h.2 hc
    refine lv_iload_n hx hb d_G_has_4 rfl (lv_at hl 1 rfl) ?_
    refine lv_aload_n hx hb d_G_has_5 rfl (lv_at hl 0 rfl) ?_
    refine va_get (D := D) (ci := 1) (v := .int G_size) (C := R_G) (T := T_G) (N := 6) hx hb hts (fun w h => List.mem_cons_of_mem _ (iw_G w h)) hown hK.1 hw.1 0 rfl rfl 4 (by decide) (hg gm_38) (fun _ h9 => h9) rfl d_G_has_6 ?_
    refine lv_icmp_ge (tgt := 16) hx hb d_G_has_9 (by decide) (fun hc => ?_) (fun hc => ?_)
    · have h := h.1 hc
      refine lv_iconst (v := 0) hx hb d_G_has_16 (by decide) ?_
      exact hE 0 () _ _ _ _ h rfl hw d_G_has_17
    · have h := h.2 hc
      refine lv_iconst (v := 1) hx hb d_G_has_12 (by decide) ?_
      refine lv_goto (tgt := 17) hx hb d_G_has_13 (by decide) ?_
      exact hE 1 () _ _ _ _ h rfl hw d_G_has_17
def rm_G_hasLiteral : Room := { frames := 1, cells := 0, slots := 0, locals := 21 }
set_option maxHeartbeats 4000000 in
set_option maxRecDepth 100000 in
theorem c_G_hasLiteral (l : Launch) (D : va_G) (cA : Nat → ClassId) (ad : Nat → Nat) (sz : Nat) (G_size : Int32) (G_inputs : Int32) (p1 : Int32) (post : Int32 → Prop) (h : wp_G_hasLiteral G_size p1 post) : Met l y_G_hasLiteral w_G_hasLiteral rm_G_hasLiteral (mPc D cA [.ref (ad 1), .int p1] [(k_G cA ad G_size G_inputs)] sz) (va_Qi (fun (r : Int32) (_ : Unit) => post r) (mB D (va_A [(k_G cA ad G_size G_inputs)] sz) (fun (_ : Unit) => [(k_G cA ad G_size G_inputs)])) (va_A [(k_G cA ad G_size G_inputs)] sz)) 0 0 (va_A [(k_G cA ad G_size G_inputs)] sz) := by
  refine m_methZ (by decide) rfl (Nat.le_of_ble_eq_true rfl) ?_
  intro p e s m below meth c A Q ls hx hb hml hown hts hK hA hw hl hE
  have hl : lv_has ls 2 [(0, .ref (ad 1)), (1, .int p1)] := hl
  have hown : s.vm.findClass R_G = some m.cls := hown
  have hg : ∀ {w : Cond}, w ∈ gw → w.before _ s = true := fun h => hts _ (List.mem_cons_of_mem _ h)
  unfold wp_G_hasLiteral at h
  refine lv_iload_n hx hb d_G_hasLiteral_0 rfl (lv_at hl 1 rfl) ?_
  refine lv_if_lt (tgt := 18) hx hb d_G_hasLiteral_1 (by decide) (fun hc => ?_) (fun hc => ?_)
  · have h := h.1 hc
    refine lv_iconst (v := 0) hx hb d_G_hasLiteral_18 (by decide) ?_
    exact hE 0 () _ _ _ _ h rfl hw d_G_hasLiteral_19
  · have h := h.2 hc
    refine lv_aload_n hx hb d_G_hasLiteral_4 rfl (lv_at hl 0 rfl) ?_
    refine lv_iload_n hx hb d_G_hasLiteral_5 rfl (lv_at hl 1 rfl) ?_
    refine lv_iconst (v := 1) hx hb d_G_hasLiteral_6 (by decide) ?_
    refine lv_ishr hx hb d_G_hasLiteral_7 ?_
    refine m_calli (hr := va_runV (As := [.int (p1 >>> ((1 : Int32) &&& 31))]) (rest := []) ⟨hx, hb, hml, hown, hts⟩ (c_G_has l D cA ad _ G_size G_inputs (p1 >>> ((1 : Int32) &&& 31)) _ h) (cwV 1 hts (ginV gm_262 gm_226 gs_14 gm_2 gm_227) rfl rfl rfl (by decide +kernel) ⟨Nat.le_of_ble_eq_true rfl, Nat.le_of_ble_eq_true rfl⟩) (m_preV 1 0 rfl rfl hK hw [0] rfl rfl) rfl rfl hl.1 rfl (lv_room (Nat.le_of_ble_eq_true rfl)) d_G_hasLiteral_8 ⟨Nat.zero_le _, Nat.zero_le _⟩) (w2 := (fun (_ : Unit) => [(k_G cA ad G_size G_inputs)])) (wr := []) hw hA [0] [] [0] rfl rfl (by decide) (by decide) (by decide) (fun _ => rfl) (fun r8 u H locs hw h => ?_)
    refine lv_if_eq (tgt := 18) hx hb d_G_hasLiteral_11 (by decide) (fun hc => ?_) (fun hc => ?_)
    · have h := h.1 hc
      refine lv_iconst (v := 0) hx hb d_G_hasLiteral_18 (by decide) ?_
      exact hE 0 () _ _ _ _ h rfl hw d_G_hasLiteral_19
    · have h := h.2 hc
      refine lv_iconst (v := 1) hx hb d_G_hasLiteral_14 (by decide) ?_
      refine lv_goto (tgt := 19) hx hb d_G_hasLiteral_15 (by decide) ?_
      exact hE 1 () _ _ _ _ h rfl hw d_G_hasLiteral_19
def rm_G_add : Room := { frames := 0, cells := 0, slots := 0, locals := 0 }
set_option maxHeartbeats 4000000 in
set_option maxRecDepth 100000 in
theorem c_G_add (l : Launch) (D : va_G) (cA : Nat → ClassId) (ad : Nat → Nat) (sz : Nat) (G_size : Int32) (G_inputs : Int32) (G_kinds : (Nat → Int32)) (G_lefts : (Nat → Int32)) (G_rights : (Nat → Int32)) (p1 : Int32) (p2 : Int32) (p3 : Int32) (post : Int32 → Int32 → Int32 → (Nat → Int32) → (Nat → Int32) → (Nat → Int32) → Prop) (h : wp_G_add G_size G_inputs G_kinds G_lefts G_rights p1 p2 p3 post) : Met l y_G_add w_G_add rm_G_add (mPc D cA [.ref (ad 1), .int p1, .int p2, .int p3] [(k_G cA ad G_size G_inputs), (k_G_kinds cA ad G_kinds), (k_G_lefts cA ad G_lefts), (k_G_rights cA ad G_rights)] sz) (va_Qi (fun (r : Int32) (u : Int32 × Int32 × (Nat → Int32) × (Nat → Int32) × (Nat → Int32)) => post r u.1 u.2.1 u.2.2.1 u.2.2.2.1 u.2.2.2.2) (mB D (va_A [(k_G cA ad G_size G_inputs), (k_G_kinds cA ad G_kinds), (k_G_lefts cA ad G_lefts), (k_G_rights cA ad G_rights)] sz) (fun (u : Int32 × Int32 × (Nat → Int32) × (Nat → Int32) × (Nat → Int32)) => [(k_G cA ad u.1 u.2.1), (k_G_kinds cA ad u.2.2.1), (k_G_lefts cA ad u.2.2.2.1), (k_G_rights cA ad u.2.2.2.2)])) (va_A [(k_G cA ad G_size G_inputs), (k_G_kinds cA ad G_kinds), (k_G_lefts cA ad G_lefts), (k_G_rights cA ad G_rights)] sz)) 0 0 (va_A [(k_G cA ad G_size G_inputs), (k_G_kinds cA ad G_kinds), (k_G_lefts cA ad G_lefts), (k_G_rights cA ad G_rights)] sz) := by
  refine m_methI (by decide) rfl (Nat.le_of_ble_eq_true rfl) ?_
  intro p e s m below meth c A Q ls hx hb hml hown hts hK hA hw hl hE
  have hl : lv_has ls 5 [(0, .ref (ad 1)), (1, .int p1), (2, .int p2), (3, .int p3)] := hl
  have hown : s.vm.findClass R_G = some m.cls := hown
  have hg : ∀ {w : Cond}, w ∈ gw → w.before _ s = true := fun h => hts _ (List.mem_cons_of_mem _ h)
  have j47 : ∀ (x4 : Int32) (G_size : Int32) (G_inputs : Int32) (G_kinds : (Nat → Int32)) (G_lefts : (Nat → Int32)) (G_rights : (Nat → Int32)) (H : Heap) (locs : List Loc) (ls : Array Slot), s_G_add_47 p1 p2 p3 post x4 G_size G_inputs G_kinds G_lefts G_rights → mW D A s.heap [(k_G cA ad G_size G_inputs), (k_G_kinds cA ad G_kinds), (k_G_lefts cA ad G_lefts), (k_G_rights cA ad G_rights)] H locs → lv_has ls 5 [(0, .ref (ad 1)), (4, .int x4)] → W p l e rm_G_add s m [.ref (ad 1), .int p1, .int p2, .int p3].toArray below meth c H locs 0 0 Q (F0 m 47 ls []) := by
    intro x4 G_size G_inputs G_kinds G_lefts G_rights H locs ls h hw hl
    unfold s_G_add_47 at h
    refine lv_aload_n hx hb d_G_add_47 rfl (lv_at hl 0 rfl) ?_
    refine lv_dup hx hb d_G_add_48 rfl ?_
    refine va_get (D := D) (ci := 1) (v := .int G_size) (C := R_G) (T := T_G) (N := 6) hx hb hts (fun w h => List.mem_cons_of_mem _ (iw_G w h)) hown hK.1 hw.1 0 rfl rfl 4 (by decide) (hg gm_38) (fun _ h9 => h9) rfl d_G_add_49 ?_
    refine lv_iconst (v := 1) hx hb d_G_add_52 (by decide) ?_
    refine lv_iadd hx hb d_G_add_53 ?_
    refine m_put (ws' := [(k_G cA ad (G_size + 1) G_inputs), (k_G_kinds cA ad G_kinds), (k_G_lefts cA ad G_lefts), (k_G_rights cA ad G_rights)]) (ci := 1) (v := .int (G_size + 1)) (ty := .int) (C := R_G) (T := T_G) (N := 6) hx hb hts (fun w h => List.mem_cons_of_mem _ (iw_G w h)) ty_G tyok_G nm_G hown hK.1 hw 0 rfl rfl 4 (by decide) (hg gm_38) (fun _ h9 => h9) rfl (by decide +kernel) rfl rfl (Nat.le_of_ble_eq_true rfl) rfl d_G_add_54 (fun H locs hw => ?_)
    refine lv_iload hx hb d_G_add_57 (lv_at hl 1 rfl) ?_
    exact hE x4 ((G_size + 1), G_inputs, G_kinds, G_lefts, G_rights) _ _ _ _ h hw d_G_add_59
  unfold wp_G_add at h
  refine lv_aload_n hx hb d_G_add_0 rfl (lv_at hl 0 rfl) ?_
  refine va_get (D := D) (ci := 1) (v := .int G_size) (C := R_G) (T := T_G) (N := 6) hx hb hts (fun w h => List.mem_cons_of_mem _ (iw_G w h)) hown hK.1 hw.1 0 rfl rfl 4 (by decide) (hg gm_38) (fun _ h9 => h9) rfl d_G_add_1 ?_
  refine lv_istore (lv' := [(4, .int G_size), (0, .ref (ad 1)), (1, .int p1), (2, .int p2), (3, .int p3)]) hx hb d_G_add_4 hl (by decide) rfl (fun ls hl => ?_)
  refine lv_aload_n hx hb d_G_add_6 rfl (lv_at hl 1 rfl) ?_
  refine va_get (D := D) (ci := 1) (v := .ref (ad 2)) (C := R_G) (T := T_G) (N := 6) hx hb hts (fun w h => List.mem_cons_of_mem _ (iw_G w h)) hown hK.1 hw.1 0 rfl rfl 0 (by decide) (hg gm_31) (fun _ h9 => h9) rfl d_G_add_7 ?_
  refine lv_iload hx hb d_G_add_10 (lv_at hl 0 rfl) ?_
  refine lv_iload_n hx hb d_G_add_12 rfl (lv_at hl 2 rfl) ?_
  refine m_iast (ws' := [(k_G cA ad G_size G_inputs), (k_G_kinds cA ad (upd G_kinds G_size.toNatClampNeg p1)), (k_G_lefts cA ad G_lefts), (k_G_rights cA ad G_rights)]) hx hb hK.1 hw 1 0 rfl rfl h.1 rfl d_G_add_13 (fun H locs hw => ?_)
  have h := h.2
  refine lv_iload_n hx hb d_G_add_14 rfl (lv_at hl 2 rfl) ?_
  refine lv_if_ne (tgt := 31) hx hb d_G_add_15 (by decide) (fun hc => ?_) (fun hc => ?_)
  · have h := h.2 hc
    refine lv_aload_n hx hb d_G_add_31 rfl (lv_at hl 1 rfl) ?_
    refine va_get (D := D) (ci := 1) (v := .ref (ad 3)) (C := R_G) (T := T_G) (N := 6) hx hb hts (fun w h => List.mem_cons_of_mem _ (iw_G w h)) hown hK.1 hw.1 0 rfl rfl 1 (by decide) (hg gm_33) (fun _ h9 => h9) rfl d_G_add_32 ?_
    refine lv_iload hx hb d_G_add_35 (lv_at hl 0 rfl) ?_
    refine lv_iload_n hx hb d_G_add_37 rfl (lv_at hl 3 rfl) ?_
    refine m_iast (ws' := [(k_G cA ad G_size G_inputs), (k_G_kinds cA ad (upd G_kinds G_size.toNatClampNeg p1)), (k_G_lefts cA ad (upd G_lefts G_size.toNatClampNeg p2)), (k_G_rights cA ad G_rights)]) hx hb hK.1 hw 2 0 rfl rfl h.1 rfl d_G_add_38 (fun H locs hw => ?_)
    have h := h.2
    refine lv_aload_n hx hb d_G_add_39 rfl (lv_at hl 1 rfl) ?_
    refine va_get (D := D) (ci := 1) (v := .ref (ad 4)) (C := R_G) (T := T_G) (N := 6) hx hb hts (fun w h => List.mem_cons_of_mem _ (iw_G w h)) hown hK.1 hw.1 0 rfl rfl 2 (by decide) (hg gm_35) (fun _ h9 => h9) rfl d_G_add_40 ?_
    refine lv_iload hx hb d_G_add_43 (lv_at hl 0 rfl) ?_
    refine lv_iload_n hx hb d_G_add_45 rfl (lv_at hl 4 rfl) ?_
    refine m_iast (ws' := [(k_G cA ad G_size G_inputs), (k_G_kinds cA ad (upd G_kinds G_size.toNatClampNeg p1)), (k_G_lefts cA ad (upd G_lefts G_size.toNatClampNeg p2)), (k_G_rights cA ad (upd G_rights G_size.toNatClampNeg p3))]) hx hb hK.1 hw 3 0 rfl rfl h.1 rfl d_G_add_46 (fun H locs hw => ?_)
    have h := h.2
    exact j47 _ _ _ _ _ _ _ _ _ h hw (lv_sub hl [1, 0] rfl)
  · have h := h.1 hc
    refine lv_aload_n hx hb d_G_add_18 rfl (lv_at hl 1 rfl) ?_
    refine lv_dup hx hb d_G_add_19 rfl ?_
    refine va_get (D := D) (ci := 1) (v := .int G_inputs) (C := R_G) (T := T_G) (N := 6) hx hb hts (fun w h => List.mem_cons_of_mem _ (iw_G w h)) hown hK.1 hw.1 0 rfl rfl 5 (by decide) (hg gm_41) (fun _ h9 => h9) rfl d_G_add_20 ?_
    refine lv_iconst (v := 1) hx hb d_G_add_23 (by decide) ?_
    refine lv_iadd hx hb d_G_add_24 ?_
    refine m_put (ws' := [(k_G cA ad G_size (G_inputs + 1)), (k_G_kinds cA ad (upd G_kinds G_size.toNatClampNeg p1)), (k_G_lefts cA ad G_lefts), (k_G_rights cA ad G_rights)]) (ci := 1) (v := .int (G_inputs + 1)) (ty := .int) (C := R_G) (T := T_G) (N := 6) hx hb hts (fun w h => List.mem_cons_of_mem _ (iw_G w h)) ty_G tyok_G nm_G hown hK.1 hw 0 rfl rfl 5 (by decide) (hg gm_41) (fun _ h9 => h9) rfl (by decide +kernel) rfl rfl (Nat.le_of_ble_eq_true rfl) rfl d_G_add_25 (fun H locs hw => ?_)
    refine lv_goto (tgt := 47) hx hb d_G_add_28 (by decide) ?_
    exact j47 _ _ _ _ _ _ _ _ _ h hw (lv_sub hl [1, 0] rfl)
def rm_G_truthOf : Room := { frames := 0, cells := 0, slots := 0, locals := 0 }
set_option maxHeartbeats 4000000 in
set_option maxRecDepth 100000 in
theorem c_G_truthOf (l : Launch) (D : va_G) (cA : Nat → ClassId) (ad : Nat → Nat) (sz : Nat) (G_size : Int32) (G_inputs : Int32) (G_truths : (Nat → Int32)) (p1 : Int32) (post : Int32 → Prop) (h : wp_G_truthOf G_truths p1 post) : Met l y_G_truthOf w_G_truthOf rm_G_truthOf (mPc D cA [.ref (ad 1), .int p1] [(k_G cA ad G_size G_inputs), (k_G_truths cA ad G_truths)] sz) (va_Qi (fun (r : Int32) (_ : Unit) => post r) (mB D (va_A [(k_G cA ad G_size G_inputs), (k_G_truths cA ad G_truths)] sz) (fun (_ : Unit) => [(k_G cA ad G_size G_inputs), (k_G_truths cA ad G_truths)])) (va_A [(k_G cA ad G_size G_inputs), (k_G_truths cA ad G_truths)] sz)) 0 0 (va_A [(k_G cA ad G_size G_inputs), (k_G_truths cA ad G_truths)] sz) := by
  refine m_methZ (by decide) rfl (Nat.le_of_ble_eq_true rfl) ?_
  intro p e s m below meth c A Q ls hx hb hml hown hts hK hA hw hl hE
  have hl : lv_has ls 2 [(0, .ref (ad 1)), (1, .int p1)] := hl
  have hown : s.vm.findClass R_G = some m.cls := hown
  have hg : ∀ {w : Cond}, w ∈ gw → w.before _ s = true := fun h => hts _ (List.mem_cons_of_mem _ h)
  have j20 : ∀ (s0 : Int32) (s1 : Int32) (H : Heap) (locs : List Loc) (ls : Array Slot), s_G_truthOf_20 G_truths p1 post s0 s1 → mW D A s.heap [(k_G cA ad G_size G_inputs), (k_G_truths cA ad G_truths)] H locs → lv_has ls 2 [] → W p l e rm_G_truthOf s m [.ref (ad 1), .int p1].toArray below meth c H locs 0 0 Q (F0 m 20 ls [.int s0, .int s1]) := by
    intro s0 s1 H locs ls h hw hl
    unfold s_G_truthOf_20 at h
    refine lv_icmp_eq (tgt := 27) hx hb d_G_truthOf_20 (by decide) (fun hc => ?_) (fun hc => ?_)
    · have h := h.1 hc
      refine lv_iconst (v := 0) hx hb d_G_truthOf_27 (by decide) ?_
      exact hE 0 () _ _ _ _ h rfl hw d_G_truthOf_28
    · have h := h.2 hc
      refine lv_iconst (v := 1) hx hb d_G_truthOf_23 (by decide) ?_
      refine lv_goto (tgt := 28) hx hb d_G_truthOf_24 (by decide) ?_
      exact hE 1 () _ _ _ _ h rfl hw d_G_truthOf_28
  unfold wp_G_truthOf at h
  refine lv_aload_n hx hb d_G_truthOf_0 rfl (lv_at hl 0 rfl) ?_
  refine va_get (D := D) (ci := 1) (v := .ref (ad 5)) (C := R_G) (T := T_G) (N := 6) hx hb hts (fun w h => List.mem_cons_of_mem _ (iw_G w h)) hown hK.1 hw.1 0 rfl rfl 3 (by decide) (hg gm_37) (fun _ h9 => h9) rfl d_G_truthOf_1 ?_
  refine lv_iload_n hx hb d_G_truthOf_4 rfl (lv_at hl 1 rfl) ?_
  refine lv_iconst (v := 1) hx hb d_G_truthOf_5 (by decide) ?_
  refine lv_ishr hx hb d_G_truthOf_6 ?_
  refine va_zald hx hb hK.1 hw.1 1 1 rfl rfl h.1 d_G_truthOf_7 ?_
  have h := h.2
  refine lv_iload_n hx hb d_G_truthOf_8 rfl (lv_at hl 1 rfl) ?_
  refine lv_iconst (v := 1) hx hb d_G_truthOf_9 (by decide) ?_
  refine lv_iand hx hb d_G_truthOf_10 ?_
  refine lv_iconst (v := 1) hx hb d_G_truthOf_11 (by decide) ?_
  refine lv_icmp_ne (tgt := 19) hx hb d_G_truthOf_12 (by decide) (fun hc => ?_) (fun hc => ?_)
  · have h := h.2 hc
    refine lv_iconst (v := 0) hx hb d_G_truthOf_19 (by decide) ?_
    exact j20 _ _ _ _ _ h hw (lv_sub hl [] rfl)
  · have h := h.1 hc
    refine lv_iconst (v := 1) hx hb d_G_truthOf_15 (by decide) ?_
    refine lv_goto (tgt := 20) hx hb d_G_truthOf_16 (by decide) ?_
    exact j20 _ _ _ _ _ h hw (lv_sub hl [] rfl)
def rm_G_isTrueWith : Room := { frames := 1, cells := 0, slots := 0, locals := 21 }
set_option maxHeartbeats 4000000 in
set_option maxRecDepth 100000 in
theorem c_G_isTrueWith (l : Launch) (D : va_G) (cA : Nat → ClassId) (ad : Nat → Nat) (sz : Nat) (G_size : Int32) (G_inputs : Int32) (G_kinds : (Nat → Int32)) (G_lefts : (Nat → Int32)) (G_rights : (Nat → Int32)) (G_truths : (Nat → Int32)) (p1 : Int32) (p2 : Int64) (post : Int32 → (Nat → Int32) → Prop) (h : wp_G_isTrueWith G_kinds G_lefts G_rights G_truths p1 p2 post) : Met l y_G_isTrueWith w_G_isTrueWith rm_G_isTrueWith (mPc D cA [.ref (ad 1), .int p1, .long p2] [(k_G cA ad G_size G_inputs), (k_G_kinds cA ad G_kinds), (k_G_lefts cA ad G_lefts), (k_G_rights cA ad G_rights), (k_G_truths cA ad G_truths)] sz) (va_Qi (fun (r : Int32) (u : (Nat → Int32)) => post r u) (mB D (va_A [(k_G cA ad G_size G_inputs), (k_G_kinds cA ad G_kinds), (k_G_lefts cA ad G_lefts), (k_G_rights cA ad G_rights), (k_G_truths cA ad G_truths)] sz) (fun (u : (Nat → Int32)) => [(k_G cA ad G_size G_inputs), (k_G_kinds cA ad G_kinds), (k_G_lefts cA ad G_lefts), (k_G_rights cA ad G_rights), (k_G_truths cA ad u)])) (va_A [(k_G cA ad G_size G_inputs), (k_G_kinds cA ad G_kinds), (k_G_lefts cA ad G_lefts), (k_G_rights cA ad G_rights), (k_G_truths cA ad G_truths)] sz)) 0 0 (va_A [(k_G cA ad G_size G_inputs), (k_G_kinds cA ad G_kinds), (k_G_lefts cA ad G_lefts), (k_G_rights cA ad G_rights), (k_G_truths cA ad G_truths)] sz) := by
  refine m_methZ (by decide) rfl (Nat.le_of_ble_eq_true rfl) ?_
  intro p e s m below meth c A Q ls hx hb hml hown hts hK hA hw hl hE
  have hl : lv_has ls 8 [(0, .ref (ad 1)), (1, .int p1), (2, .long p2)] := hl
  have hown : s.vm.findClass R_G = some m.cls := hown
  have hg : ∀ {w : Cond}, w ∈ gw → w.before _ s = true := fun h => hts _ (List.mem_cons_of_mem _ h)
  obtain ⟨C11, hC11⟩ : ∃ C : Int32 → Int64 → Int32 → (Nat → Int32) → Prop, ∀ (x4 : Int32) (x5 : Int64) (x7 : Int32) (G_truths : (Nat → Int32)), C x4 x5 x7 G_truths ↔ (∀ (H : Heap) (locs : List Loc) (ls : Array Slot), mW D A s.heap [(k_G cA ad G_size G_inputs), (k_G_kinds cA ad G_kinds), (k_G_lefts cA ad G_lefts), (k_G_rights cA ad G_rights), (k_G_truths cA ad G_truths)] H locs → lv_has ls 8 [(0, .ref (ad 1)), (1, .int p1), (4, .int x4), (5, .long x5), (7, .int x7)] → W p l e rm_G_isTrueWith s m [.ref (ad 1), .int p1, .long p2].toArray below meth c H locs 0 0 Q (F0 m 11 ls [])) := ⟨_, fun _ _ _ _ => Iff.rfl⟩
  have j149 : ∀ (x4 : Int32) (x5 : Int64) (x7 : Int32) (G_truths : (Nat → Int32)) (H : Heap) (locs : List Loc) (ls : Array Slot), s_G_isTrueWith_149 G_kinds G_lefts G_rights p1 p2 C11 post x4 x5 x7 G_truths → mW D A s.heap [(k_G cA ad G_size G_inputs), (k_G_kinds cA ad G_kinds), (k_G_lefts cA ad G_lefts), (k_G_rights cA ad G_rights), (k_G_truths cA ad G_truths)] H locs → lv_has ls 8 [(0, .ref (ad 1)), (1, .int p1), (4, .int x4), (5, .long x5), (7, .int x7)] → W p l e rm_G_isTrueWith s m [.ref (ad 1), .int p1, .long p2].toArray below meth c H locs 0 0 Q (F0 m 149 ls []) := by
    intro x4 x5 x7 G_truths H locs ls h hw hl
    unfold s_G_isTrueWith_149 at h
    refine lv_iinc (v := (x7 + 1)) (lv' := [(7, .int (x7 + 1)), (0, .ref (ad 1)), (1, .int p1), (4, .int x4), (5, .long x5)]) hx hb d_G_isTrueWith_149 hl (k := 4) rfl rfl (by decide) rfl (fun ls hl => ?_)
    refine lv_goto (tgt := 11) hx hb d_G_isTrueWith_152 (by decide) ?_
    exact (hC11 _ _ _ _).1 h _ _ _ hw (lv_sub hl [1, 2, 3, 4, 0] rfl)
  have j148 : ∀ (s0 : Int32) (s1 : Int32) (x4 : Int32) (x5 : Int64) (x7 : Int32) (G_truths : (Nat → Int32)) (H : Heap) (locs : List Loc) (ls : Array Slot), s_G_isTrueWith_148 G_kinds G_lefts G_rights p1 p2 C11 post s0 s1 x4 x5 x7 G_truths → mW D A s.heap [(k_G cA ad G_size G_inputs), (k_G_kinds cA ad G_kinds), (k_G_lefts cA ad G_lefts), (k_G_rights cA ad G_rights), (k_G_truths cA ad G_truths)] H locs → lv_has ls 8 [(0, .ref (ad 1)), (1, .int p1), (4, .int x4), (5, .long x5), (7, .int x7)] → W p l e rm_G_isTrueWith s m [.ref (ad 1), .int p1, .long p2].toArray below meth c H locs 0 0 Q (F0 m 148 ls [.int s0, .int s1, .ref (ad 5)]) := by
    intro s0 s1 x4 x5 x7 G_truths H locs ls h hw hl
    unfold s_G_isTrueWith_148 at h
    refine m_zast (ws' := [(k_G cA ad G_size G_inputs), (k_G_kinds cA ad G_kinds), (k_G_lefts cA ad G_lefts), (k_G_rights cA ad G_rights), (k_G_truths cA ad (upd G_truths s1.toNatClampNeg (vp_nar .boolean s0)))]) hx hb hK.1 hw 4 1 rfl rfl h.1 rfl d_G_isTrueWith_148 (fun H locs hw => ?_)
    have h := h.2
    exact j149 _ _ _ _ _ _ _ h hw (lv_sub hl [0, 1, 2, 3, 4] rfl)
  have j108 : ∀ (s0 : Int32) (s1 : Int32) (x4 : Int32) (x5 : Int64) (x7 : Int32) (G_truths : (Nat → Int32)) (H : Heap) (locs : List Loc) (ls : Array Slot), s_G_isTrueWith_108 G_kinds G_lefts G_rights p1 p2 C11 post s0 s1 x4 x5 x7 G_truths → mW D A s.heap [(k_G cA ad G_size G_inputs), (k_G_kinds cA ad G_kinds), (k_G_lefts cA ad G_lefts), (k_G_rights cA ad G_rights), (k_G_truths cA ad G_truths)] H locs → lv_has ls 8 [(0, .ref (ad 1)), (1, .int p1), (4, .int x4), (5, .long x5), (7, .int x7)] → W p l e rm_G_isTrueWith s m [.ref (ad 1), .int p1, .long p2].toArray below meth c H locs 0 0 Q (F0 m 108 ls [.int s0, .int s1, .ref (ad 5)]) := by
    intro s0 s1 x4 x5 x7 G_truths H locs ls h hw hl
    unfold s_G_isTrueWith_108 at h
    refine m_zast (ws' := [(k_G cA ad G_size G_inputs), (k_G_kinds cA ad G_kinds), (k_G_lefts cA ad G_lefts), (k_G_rights cA ad G_rights), (k_G_truths cA ad (upd G_truths s1.toNatClampNeg (vp_nar .boolean s0)))]) hx hb hK.1 hw 4 1 rfl rfl h.1 rfl d_G_isTrueWith_108 (fun H locs hw => ?_)
    have h := h.2
    refine lv_goto (tgt := 149) hx hb d_G_isTrueWith_109 (by decide) ?_
    exact j149 _ _ _ _ _ _ _ h hw (lv_sub hl [0, 1, 2, 3, 4] rfl)
  have j107 : ∀ (s0 : Int32) (x4 : Int32) (x5 : Int64) (x7 : Int32) (G_truths : (Nat → Int32)) (H : Heap) (locs : List Loc) (ls : Array Slot), s_G_isTrueWith_107 G_kinds G_lefts G_rights p1 p2 C11 post s0 x4 x5 x7 G_truths → mW D A s.heap [(k_G cA ad G_size G_inputs), (k_G_kinds cA ad G_kinds), (k_G_lefts cA ad G_lefts), (k_G_rights cA ad G_rights), (k_G_truths cA ad G_truths)] H locs → lv_has ls 8 [(0, .ref (ad 1)), (1, .int p1), (4, .int x4), (5, .long x5), (7, .int x7)] → W p l e rm_G_isTrueWith s m [.ref (ad 1), .int p1, .long p2].toArray below meth c H locs 0 0 Q (F0 m 107 ls [.int s0, .ref (ad 5)]) := by
    intro s0 x4 x5 x7 G_truths H locs ls h hw hl
    unfold s_G_isTrueWith_107 at h
    refine lv_iconst (v := 0) hx hb d_G_isTrueWith_107 (by decide) ?_
    exact j108 _ _ _ _ _ _ _ _ _ h hw (lv_sub hl [0, 1, 2, 3, 4] rfl)
  have j48 : ∀ (s0 : Int32) (s1 : Int32) (x4 : Int32) (x5 : Int64) (x7 : Int32) (G_truths : (Nat → Int32)) (H : Heap) (locs : List Loc) (ls : Array Slot), s_G_isTrueWith_48 G_kinds G_lefts G_rights p1 p2 C11 post s0 s1 x4 x5 x7 G_truths → mW D A s.heap [(k_G cA ad G_size G_inputs), (k_G_kinds cA ad G_kinds), (k_G_lefts cA ad G_lefts), (k_G_rights cA ad G_rights), (k_G_truths cA ad G_truths)] H locs → lv_has ls 8 [(0, .ref (ad 1)), (1, .int p1), (4, .int x4), (5, .long x5), (7, .int x7)] → W p l e rm_G_isTrueWith s m [.ref (ad 1), .int p1, .long p2].toArray below meth c H locs 0 0 Q (F0 m 48 ls [.int s0, .int s1, .ref (ad 5)]) := by
    intro s0 s1 x4 x5 x7 G_truths H locs ls h hw hl
    unfold s_G_isTrueWith_48 at h
    refine m_zast (ws' := [(k_G cA ad G_size G_inputs), (k_G_kinds cA ad G_kinds), (k_G_lefts cA ad G_lefts), (k_G_rights cA ad G_rights), (k_G_truths cA ad (upd G_truths s1.toNatClampNeg (vp_nar .boolean s0)))]) hx hb hK.1 hw 4 1 rfl rfl h.1 rfl d_G_isTrueWith_48 (fun H locs hw => ?_)
    have h := h.2
    refine lv_lload hx hb d_G_isTrueWith_49 (lv_at hl 3 rfl) ?_
    refine lv_iconst (v := 1) hx hb d_G_isTrueWith_51 (by decide) ?_
    refine lv_lushr hx hb d_G_isTrueWith_52 rfl ?_
    refine lv_lstore (lv' := [(5, .long ((x5.toUInt64 >>> ((1 : Int32).toInt64.toUInt64 &&& Int64.toUInt64 63)).toInt64)), (0, .ref (ad 1)), (1, .int p1), (4, .int x4), (7, .int x7)]) hx hb d_G_isTrueWith_53 hl (by decide) rfl (fun ls hl => ?_)
    refine lv_goto (tgt := 149) hx hb d_G_isTrueWith_55 (by decide) ?_
    exact j149 _ _ _ _ _ _ _ h hw (lv_sub hl [1, 2, 3, 0, 4] rfl)
  have hc11 : ∀ (x4 : Int32) (x5 : Int64) (x7 : Int32) (G_truths : (Nat → Int32)), s_G_isTrueWith_11 G_kinds G_lefts G_rights p1 p2 C11 post x4 x5 x7 G_truths → C11 x4 x5 x7 G_truths := by
    intro x4 x5 x7 G_truths h
    unfold s_G_isTrueWith_11 at h
    refine (hC11 _ _ _ _).2 ?_
    intro H locs ls hw hl
    refine lv_iload hx hb d_G_isTrueWith_11 (lv_at hl 4 rfl) ?_
    refine lv_iload hx hb d_G_isTrueWith_13 (lv_at hl 2 rfl) ?_
    refine lv_icmp_gt (tgt := 155) hx hb d_G_isTrueWith_15 (by decide) (fun hc => ?_) (fun hc => ?_)
    · have h := h.1 hc
      refine lv_aload_n hx hb d_G_isTrueWith_155 rfl (lv_at hl 0 rfl) ?_
      refine lv_iload_n hx hb d_G_isTrueWith_156 rfl (lv_at hl 1 rfl) ?_
      refine m_calli (hr := va_runV (As := [.int p1]) (rest := []) ⟨hx, hb, hml, hown, hts⟩ (c_G_truthOf l D cA ad _ G_size G_inputs G_truths p1 _ h) (cwV 1 hts (ginV gm_522 gm_524 gs_39 gm_2 gm_525) rfl rfl rfl (by decide +kernel) ⟨Nat.le_of_ble_eq_true rfl, Nat.le_of_ble_eq_true rfl⟩) (m_preV 1 0 rfl rfl hK hw [0, 4] rfl rfl) rfl rfl hl.1 rfl (lv_room (Nat.le_of_ble_eq_true rfl)) d_G_isTrueWith_157 ⟨Nat.zero_le _, Nat.zero_le _⟩) (w2 := (fun (_ : Unit) => [(k_G cA ad G_size G_inputs), (k_G_kinds cA ad G_kinds), (k_G_lefts cA ad G_lefts), (k_G_rights cA ad G_rights), (k_G_truths cA ad G_truths)])) (wr := [(k_G_kinds cA ad G_kinds), (k_G_lefts cA ad G_lefts), (k_G_rights cA ad G_rights)]) hw hA [0, 4] [1, 2, 3] [3, 0, 1, 2, 4] rfl rfl (by decide) (by decide) (by decide) (fun _ => rfl) (fun r157 u H locs hw h => ?_)
      exact hE r157 (G_truths) _ _ _ _ h.2 (isB_nar h.1) hw d_G_isTrueWith_160
    · have h := h.2 hc
      refine lv_aload_n hx hb d_G_isTrueWith_18 rfl (lv_at hl 0 rfl) ?_
      refine va_get (D := D) (ci := 1) (v := .ref (ad 2)) (C := R_G) (T := T_G) (N := 6) hx hb hts (fun w h => List.mem_cons_of_mem _ (iw_G w h)) hown hK.1 hw.1 0 rfl rfl 0 (by decide) (hg gm_31) (fun _ h9 => h9) rfl d_G_isTrueWith_19 ?_
      refine lv_iload hx hb d_G_isTrueWith_22 (lv_at hl 4 rfl) ?_
      refine va_iald hx hb hK.1 hw.1 1 0 rfl rfl h.1 d_G_isTrueWith_24 ?_
      have h := h.2
      refine lv_if_ne (tgt := 58) hx hb d_G_isTrueWith_25 (by decide) (fun hc => ?_) (fun hc => ?_)
      · have h := h.2 hc
        refine lv_aload_n hx hb d_G_isTrueWith_58 rfl (lv_at hl 0 rfl) ?_
        refine va_get (D := D) (ci := 1) (v := .ref (ad 2)) (C := R_G) (T := T_G) (N := 6) hx hb hts (fun w h => List.mem_cons_of_mem _ (iw_G w h)) hown hK.1 hw.1 0 rfl rfl 0 (by decide) (hg gm_31) (fun _ h9 => h9) rfl d_G_isTrueWith_59 ?_
        refine lv_iload hx hb d_G_isTrueWith_62 (lv_at hl 4 rfl) ?_
        refine va_iald hx hb hK.1 hw.1 1 0 rfl rfl h.1 d_G_isTrueWith_64 ?_
        have h := h.2
        refine lv_iconst (v := 1) hx hb d_G_isTrueWith_65 (by decide) ?_
        refine lv_icmp_ne (tgt := 112) hx hb d_G_isTrueWith_66 (by decide) (fun hc => ?_) (fun hc => ?_)
        · have h := h.2 hc
          refine lv_aload_n hx hb d_G_isTrueWith_112 rfl (lv_at hl 0 rfl) ?_
          refine va_get (D := D) (ci := 1) (v := .ref (ad 5)) (C := R_G) (T := T_G) (N := 6) hx hb hts (fun w h => List.mem_cons_of_mem _ (iw_G w h)) hown hK.1 hw.1 0 rfl rfl 3 (by decide) (hg gm_37) (fun _ h9 => h9) rfl d_G_isTrueWith_113 ?_
          refine lv_iload hx hb d_G_isTrueWith_116 (lv_at hl 4 rfl) ?_
          refine lv_aload_n hx hb d_G_isTrueWith_118 rfl (lv_at hl 0 rfl) ?_
          refine lv_aload_n hx hb d_G_isTrueWith_119 rfl (lv_at hl 0 rfl) ?_
          refine va_get (D := D) (ci := 1) (v := .ref (ad 3)) (C := R_G) (T := T_G) (N := 6) hx hb hts (fun w h => List.mem_cons_of_mem _ (iw_G w h)) hown hK.1 hw.1 0 rfl rfl 1 (by decide) (hg gm_33) (fun _ h9 => h9) rfl d_G_isTrueWith_120 ?_
          refine lv_iload hx hb d_G_isTrueWith_123 (lv_at hl 4 rfl) ?_
          refine va_iald hx hb hK.1 hw.1 2 0 rfl rfl h.1 d_G_isTrueWith_125 ?_
          have h := h.2
          refine m_calli (hr := va_runV (As := [.int (G_lefts x7.toNatClampNeg)]) (rest := [.int x7, .ref (ad 5)]) ⟨hx, hb, hml, hown, hts⟩ (c_G_truthOf l D cA ad _ G_size G_inputs G_truths (G_lefts x7.toNatClampNeg) _ h) (cwV 1 hts (ginV gm_522 gm_524 gs_39 gm_2 gm_525) rfl rfl rfl (by decide +kernel) ⟨Nat.le_of_ble_eq_true rfl, Nat.le_of_ble_eq_true rfl⟩) (m_preV 1 0 rfl rfl hK hw [0, 4] rfl rfl) rfl rfl hl.1 rfl (lv_room (Nat.le_of_ble_eq_true rfl)) d_G_isTrueWith_126 ⟨Nat.zero_le _, Nat.zero_le _⟩) (w2 := (fun (_ : Unit) => [(k_G cA ad G_size G_inputs), (k_G_kinds cA ad G_kinds), (k_G_lefts cA ad G_lefts), (k_G_rights cA ad G_rights), (k_G_truths cA ad G_truths)])) (wr := [(k_G_kinds cA ad G_kinds), (k_G_lefts cA ad G_lefts), (k_G_rights cA ad G_rights)]) hw hA [0, 4] [1, 2, 3] [3, 0, 1, 2, 4] rfl rfl (by decide) (by decide) (by decide) (fun _ => rfl) (fun r126 u H locs hw h => ?_)
          refine lv_aload_n hx hb d_G_isTrueWith_129 rfl (lv_at hl 0 rfl) ?_
          refine lv_aload_n hx hb d_G_isTrueWith_130 rfl (lv_at hl 0 rfl) ?_
          refine va_get (D := D) (ci := 1) (v := .ref (ad 4)) (C := R_G) (T := T_G) (N := 6) hx hb hts (fun w h => List.mem_cons_of_mem _ (iw_G w h)) hown hK.1 hw.1 0 rfl rfl 2 (by decide) (hg gm_35) (fun _ h9 => h9) rfl d_G_isTrueWith_131 ?_
          refine lv_iload hx hb d_G_isTrueWith_134 (lv_at hl 4 rfl) ?_
          refine va_iald hx hb hK.1 hw.1 3 0 rfl rfl h.1 d_G_isTrueWith_136 ?_
          have h := h.2
          refine m_calli (hr := va_runV (As := [.int (G_rights x7.toNatClampNeg)]) (rest := [.int r126, .int x7, .ref (ad 5)]) ⟨hx, hb, hml, hown, hts⟩ (c_G_truthOf l D cA ad _ G_size G_inputs G_truths (G_rights x7.toNatClampNeg) _ h) (cwV 1 hts (ginV gm_522 gm_524 gs_39 gm_2 gm_525) rfl rfl rfl (by decide +kernel) ⟨Nat.le_of_ble_eq_true rfl, Nat.le_of_ble_eq_true rfl⟩) (m_preV 1 0 rfl rfl hK hw [0, 4] rfl rfl) rfl rfl hl.1 rfl (lv_room (Nat.le_of_ble_eq_true rfl)) d_G_isTrueWith_137 ⟨Nat.zero_le _, Nat.zero_le _⟩) (w2 := (fun (_ : Unit) => [(k_G cA ad G_size G_inputs), (k_G_kinds cA ad G_kinds), (k_G_lefts cA ad G_lefts), (k_G_rights cA ad G_rights), (k_G_truths cA ad G_truths)])) (wr := [(k_G_kinds cA ad G_kinds), (k_G_lefts cA ad G_lefts), (k_G_rights cA ad G_rights)]) hw hA [0, 4] [1, 2, 3] [3, 0, 1, 2, 4] rfl rfl (by decide) (by decide) (by decide) (fun _ => rfl) (fun r137 u H locs hw h => ?_)
          refine lv_icmp_eq (tgt := 147) hx hb d_G_isTrueWith_140 (by decide) (fun hc => ?_) (fun hc => ?_)
          · have h := h.1 hc
            refine lv_iconst (v := 0) hx hb d_G_isTrueWith_147 (by decide) ?_
            exact j148 _ _ _ _ _ _ _ _ _ h hw (lv_sub hl [0, 1, 2, 3, 4] rfl)
          · have h := h.2 hc
            refine lv_iconst (v := 1) hx hb d_G_isTrueWith_143 (by decide) ?_
            refine lv_goto (tgt := 148) hx hb d_G_isTrueWith_144 (by decide) ?_
            exact j148 _ _ _ _ _ _ _ _ _ h hw (lv_sub hl [0, 1, 2, 3, 4] rfl)
        · have h := h.1 hc
          refine lv_aload_n hx hb d_G_isTrueWith_69 rfl (lv_at hl 0 rfl) ?_
          refine va_get (D := D) (ci := 1) (v := .ref (ad 5)) (C := R_G) (T := T_G) (N := 6) hx hb hts (fun w h => List.mem_cons_of_mem _ (iw_G w h)) hown hK.1 hw.1 0 rfl rfl 3 (by decide) (hg gm_37) (fun _ h9 => h9) rfl d_G_isTrueWith_70 ?_
          refine lv_iload hx hb d_G_isTrueWith_73 (lv_at hl 4 rfl) ?_
          refine lv_aload_n hx hb d_G_isTrueWith_75 rfl (lv_at hl 0 rfl) ?_
          refine lv_aload_n hx hb d_G_isTrueWith_76 rfl (lv_at hl 0 rfl) ?_
          refine va_get (D := D) (ci := 1) (v := .ref (ad 3)) (C := R_G) (T := T_G) (N := 6) hx hb hts (fun w h => List.mem_cons_of_mem _ (iw_G w h)) hown hK.1 hw.1 0 rfl rfl 1 (by decide) (hg gm_33) (fun _ h9 => h9) rfl d_G_isTrueWith_77 ?_
          refine lv_iload hx hb d_G_isTrueWith_80 (lv_at hl 4 rfl) ?_
          refine va_iald hx hb hK.1 hw.1 2 0 rfl rfl h.1 d_G_isTrueWith_82 ?_
          have h := h.2
          refine m_calli (hr := va_runV (As := [.int (G_lefts x7.toNatClampNeg)]) (rest := [.int x7, .ref (ad 5)]) ⟨hx, hb, hml, hown, hts⟩ (c_G_truthOf l D cA ad _ G_size G_inputs G_truths (G_lefts x7.toNatClampNeg) _ h) (cwV 1 hts (ginV gm_522 gm_524 gs_39 gm_2 gm_525) rfl rfl rfl (by decide +kernel) ⟨Nat.le_of_ble_eq_true rfl, Nat.le_of_ble_eq_true rfl⟩) (m_preV 1 0 rfl rfl hK hw [0, 4] rfl rfl) rfl rfl hl.1 rfl (lv_room (Nat.le_of_ble_eq_true rfl)) d_G_isTrueWith_83 ⟨Nat.zero_le _, Nat.zero_le _⟩) (w2 := (fun (_ : Unit) => [(k_G cA ad G_size G_inputs), (k_G_kinds cA ad G_kinds), (k_G_lefts cA ad G_lefts), (k_G_rights cA ad G_rights), (k_G_truths cA ad G_truths)])) (wr := [(k_G_kinds cA ad G_kinds), (k_G_lefts cA ad G_lefts), (k_G_rights cA ad G_rights)]) hw hA [0, 4] [1, 2, 3] [3, 0, 1, 2, 4] rfl rfl (by decide) (by decide) (by decide) (fun _ => rfl) (fun r83 u H locs hw h => ?_)
          refine lv_if_eq (tgt := 107) hx hb d_G_isTrueWith_86 (by decide) (fun hc => ?_) (fun hc => ?_)
          · have h := h.1 hc
            exact j107 _ _ _ _ _ _ _ _ h hw (lv_sub hl [0, 1, 2, 3, 4] rfl)
          · have h := h.2 hc
            refine lv_aload_n hx hb d_G_isTrueWith_89 rfl (lv_at hl 0 rfl) ?_
            refine lv_aload_n hx hb d_G_isTrueWith_90 rfl (lv_at hl 0 rfl) ?_
            refine va_get (D := D) (ci := 1) (v := .ref (ad 4)) (C := R_G) (T := T_G) (N := 6) hx hb hts (fun w h => List.mem_cons_of_mem _ (iw_G w h)) hown hK.1 hw.1 0 rfl rfl 2 (by decide) (hg gm_35) (fun _ h9 => h9) rfl d_G_isTrueWith_91 ?_
            refine lv_iload hx hb d_G_isTrueWith_94 (lv_at hl 4 rfl) ?_
            refine va_iald hx hb hK.1 hw.1 3 0 rfl rfl h.1 d_G_isTrueWith_96 ?_
            have h := h.2
            refine m_calli (hr := va_runV (As := [.int (G_rights x7.toNatClampNeg)]) (rest := [.int x7, .ref (ad 5)]) ⟨hx, hb, hml, hown, hts⟩ (c_G_truthOf l D cA ad _ G_size G_inputs G_truths (G_rights x7.toNatClampNeg) _ h) (cwV 1 hts (ginV gm_522 gm_524 gs_39 gm_2 gm_525) rfl rfl rfl (by decide +kernel) ⟨Nat.le_of_ble_eq_true rfl, Nat.le_of_ble_eq_true rfl⟩) (m_preV 1 0 rfl rfl hK hw [0, 4] rfl rfl) rfl rfl hl.1 rfl (lv_room (Nat.le_of_ble_eq_true rfl)) d_G_isTrueWith_97 ⟨Nat.zero_le _, Nat.zero_le _⟩) (w2 := (fun (_ : Unit) => [(k_G cA ad G_size G_inputs), (k_G_kinds cA ad G_kinds), (k_G_lefts cA ad G_lefts), (k_G_rights cA ad G_rights), (k_G_truths cA ad G_truths)])) (wr := [(k_G_kinds cA ad G_kinds), (k_G_lefts cA ad G_lefts), (k_G_rights cA ad G_rights)]) hw hA [0, 4] [1, 2, 3] [3, 0, 1, 2, 4] rfl rfl (by decide) (by decide) (by decide) (fun _ => rfl) (fun r97 u H locs hw h => ?_)
            refine lv_if_eq (tgt := 107) hx hb d_G_isTrueWith_100 (by decide) (fun hc => ?_) (fun hc => ?_)
            · have h := h.1 hc
              exact j107 _ _ _ _ _ _ _ _ h hw (lv_sub hl [0, 1, 2, 3, 4] rfl)
            · have h := h.2 hc
              refine lv_iconst (v := 1) hx hb d_G_isTrueWith_103 (by decide) ?_
              refine lv_goto (tgt := 108) hx hb d_G_isTrueWith_104 (by decide) ?_
              exact j108 _ _ _ _ _ _ _ _ _ h hw (lv_sub hl [0, 1, 2, 3, 4] rfl)
      · have h := h.1 hc
        refine lv_aload_n hx hb d_G_isTrueWith_28 rfl (lv_at hl 0 rfl) ?_
        refine va_get (D := D) (ci := 1) (v := .ref (ad 5)) (C := R_G) (T := T_G) (N := 6) hx hb hts (fun w h => List.mem_cons_of_mem _ (iw_G w h)) hown hK.1 hw.1 0 rfl rfl 3 (by decide) (hg gm_37) (fun _ h9 => h9) rfl d_G_isTrueWith_29 ?_
        refine lv_iload hx hb d_G_isTrueWith_32 (lv_at hl 4 rfl) ?_
        refine lv_lload hx hb d_G_isTrueWith_34 (lv_at hl 3 rfl) ?_
        refine lv_lconst (v := 1) hx hb d_G_isTrueWith_36 rfl ?_
        refine lv_land hx hb d_G_isTrueWith_37 ?_
        refine lv_lconst (v := 0) hx hb d_G_isTrueWith_38 rfl ?_
        refine W.lcmp hx hb d_G_isTrueWith_39 ?_
        refine lv_if_eq (tgt := 47) hx hb d_G_isTrueWith_40 (by decide) (fun hc => ?_) (fun hc => ?_)
        · have h := h.1 hc
          refine lv_iconst (v := 0) hx hb d_G_isTrueWith_47 (by decide) ?_
          exact j48 _ _ _ _ _ _ _ _ _ h hw (lv_sub hl [0, 1, 2, 3, 4] rfl)
        · have h := h.2 hc
          refine lv_iconst (v := 1) hx hb d_G_isTrueWith_43 (by decide) ?_
          refine lv_goto (tgt := 48) hx hb d_G_isTrueWith_44 (by decide) ?_
          exact j48 _ _ _ _ _ _ _ _ _ h hw (lv_sub hl [0, 1, 2, 3, 4] rfl)
  unfold wp_G_isTrueWith at h
  have h := h C11 hc11
  refine lv_iload_n hx hb d_G_isTrueWith_0 rfl (lv_at hl 1 rfl) ?_
  refine lv_iconst (v := 1) hx hb d_G_isTrueWith_1 (by decide) ?_
  refine lv_ishr hx hb d_G_isTrueWith_2 ?_
  refine lv_istore (lv' := [(4, .int (p1 >>> ((1 : Int32) &&& 31))), (0, .ref (ad 1)), (1, .int p1), (2, .long p2)]) hx hb d_G_isTrueWith_3 hl (by decide) rfl (fun ls hl => ?_)
  refine lv_lload_n hx hb d_G_isTrueWith_5 rfl (lv_at hl 3 rfl) ?_
  refine lv_lstore (lv' := [(5, .long p2), (4, .int (p1 >>> ((1 : Int32) &&& 31))), (0, .ref (ad 1)), (1, .int p1), (2, .long p2)]) hx hb d_G_isTrueWith_6 hl (by decide) rfl (fun ls hl => ?_)
  refine lv_iconst (v := 1) hx hb d_G_isTrueWith_8 (by decide) ?_
  refine lv_istore (lv' := [(7, .int 1), (5, .long p2), (4, .int (p1 >>> ((1 : Int32) &&& 31))), (0, .ref (ad 1)), (1, .int p1), (2, .long p2)]) hx hb d_G_isTrueWith_9 hl (by decide) rfl (fun ls hl => ?_)
  exact (hC11 _ _ _ _).1 h _ _ _ hw (lv_sub hl [3, 4, 2, 1, 0] rfl)
