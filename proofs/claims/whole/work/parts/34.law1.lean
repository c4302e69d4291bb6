theorem d_L_gate_0 : decode b_L_gate 0 = .ok (.aload 4, 2) := by decide +kernel
theorem d_L_gate_2 : decode b_L_gate 2 = .ok (.iconst 0, 1) := by decide +kernel
theorem d_L_gate_3 : decode b_L_gate 3 = .ok (.aload_n 0, 1) := by decide +kernel
theorem d_L_gate_4 : decode b_L_gate 4 = .ok (.iload_n 1, 1) := by decide +kernel
theorem d_L_gate_5 : decode b_L_gate 5 = .ok (.iload_n 2, 1) := by decide +kernel
theorem d_L_gate_6 : decode b_L_gate 6 = .ok (.iload_n 3, 1) := by decide +kernel
theorem d_L_gate_7 : decode b_L_gate 7 = .ok (.invokevirtual 7, 3) := by decide +kernel
theorem d_L_gate_10 : decode b_L_gate 10 = .ok (.i2l, 1) := by decide +kernel
theorem d_L_gate_11 : decode b_L_gate 11 = .ok (.lastore, 1) := by decide +kernel
theorem d_L_gate_12 : decode b_L_gate 12 = .ok (.goto 15, 3) := by decide +kernel
theorem d_L_gate_15 : decode b_L_gate 15 = .ok (.astore 5, 2) := by decide +kernel
theorem d_L_gate_17 : decode b_L_gate 17 = .ok (.iconst 1, 1) := by decide +kernel
theorem d_L_gate_18 : decode b_L_gate 18 = .ok (.ireturn, 1) := by decide +kernel
theorem d_L_gate_19 : decode b_L_gate 19 = .ok (.astore 5, 2) := by decide +kernel
theorem d_L_gate_21 : decode b_L_gate 21 = .ok (.iconst 2, 1) := by decide +kernel
theorem d_L_gate_22 : decode b_L_gate 22 = .ok (.ireturn, 1) := by decide +kernel
theorem d_L_gate_23 : decode b_L_gate 23 = .ok (.astore 5, 2) := by decide +kernel
theorem d_L_gate_25 : decode b_L_gate 25 = .ok (.iconst 3, 1) := by decide +kernel
theorem d_L_gate_26 : decode b_L_gate 26 = .ok (.ireturn, 1) := by decide +kernel
theorem d_L_gate_27 : decode b_L_gate 27 = .ok (.iconst 0, 1) := by decide +kernel
theorem d_L_gate_28 : decode b_L_gate 28 = .ok (.ireturn, 1) := by decide +kernel
theorem d_L_line_0 : decode b_L_line 0 = .ok (.aload_n 1, 1) := by decide +kernel
theorem d_L_line_1 : decode b_L_line 1 = .ok (.iconst 0, 1) := by decide +kernel
theorem d_L_line_2 : decode b_L_line 2 = .ok (.aload_n 0, 1) := by decide +kernel
theorem d_L_line_3 : decode b_L_line 3 = .ok (.invokevirtual 19, 3) := by decide +kernel
theorem d_L_line_6 : decode b_L_line 6 = .ok (.i2l, 1) := by decide +kernel
theorem d_L_line_7 : decode b_L_line 7 = .ok (.lastore, 1) := by decide +kernel
theorem d_L_line_8 : decode b_L_line 8 = .ok (.goto 6, 3) := by decide +kernel
theorem d_L_line_11 : decode b_L_line 11 = .ok (.astore_n 2, 1) := by decide +kernel
theorem d_L_line_12 : decode b_L_line 12 = .ok (.iconst 1, 1) := by decide +kernel
theorem d_L_line_13 : decode b_L_line 13 = .ok (.ireturn, 1) := by decide +kernel
theorem d_L_line_14 : decode b_L_line 14 = .ok (.iconst 0, 1) := by decide +kernel
theorem d_L_line_15 : decode b_L_line 15 = .ok (.ireturn, 1) := by decide +kernel
theorem d_L_literal_0 : decode b_L_literal 0 = .ok (.aload_n 3, 1) := by decide +kernel
theorem d_L_literal_1 : decode b_L_literal 1 = .ok (.iconst 0, 1) := by decide +kernel
theorem d_L_literal_2 : decode b_L_literal 2 = .ok (.aload_n 0, 1) := by decide +kernel
theorem d_L_literal_3 : decode b_L_literal 3 = .ok (.iload_n 1, 1) := by decide +kernel
theorem d_L_literal_4 : decode b_L_literal 4 = .ok (.iload_n 2, 1) := by decide +kernel
theorem d_L_literal_5 : decode b_L_literal 5 = .ok (.invokevirtual 23, 3) := by decide +kernel
theorem d_L_literal_8 : decode b_L_literal 8 = .ok (.ifCond .eq 7, 3) := by decide +kernel
theorem d_L_literal_11 : decode b_L_literal 11 = .ok (.lconst 1, 1) := by decide +kernel
theorem d_L_literal_12 : decode b_L_literal 12 = .ok (.goto 4, 3) := by decide +kernel
theorem d_L_literal_15 : decode b_L_literal 15 = .ok (.lconst 0, 1) := by decide +kernel
theorem d_L_literal_16 : decode b_L_literal 16 = .ok (.lastore, 1) := by decide +kernel
theorem d_L_literal_17 : decode b_L_literal 17 = .ok (.goto 15, 3) := by decide +kernel
theorem d_L_literal_20 : decode b_L_literal 20 = .ok (.astore 4, 2) := by decide +kernel
theorem d_L_literal_22 : decode b_L_literal 22 = .ok (.iconst 1, 1) := by decide +kernel
theorem d_L_literal_23 : decode b_L_literal 23 = .ok (.ireturn, 1) := by decide +kernel
theorem d_L_literal_24 : decode b_L_literal 24 = .ok (.astore 4, 2) := by decide +kernel
theorem d_L_literal_26 : decode b_L_literal 26 = .ok (.iconst 2, 1) := by decide +kernel
theorem d_L_literal_27 : decode b_L_literal 27 = .ok (.ireturn, 1) := by decide +kernel
theorem d_L_literal_28 : decode b_L_literal 28 = .ok (.astore 4, 2) := by decide +kernel
theorem d_L_literal_30 : decode b_L_literal 30 = .ok (.iconst 3, 1) := by decide +kernel
theorem d_L_literal_31 : decode b_L_literal 31 = .ok (.ireturn, 1) := by decide +kernel
theorem d_L_literal_32 : decode b_L_literal 32 = .ok (.iconst 0, 1) := by decide +kernel
theorem d_L_literal_33 : decode b_L_literal 33 = .ok (.ireturn, 1) := by decide +kernel
theorem d_L_equalLine_0 : decode b_L_equalLine 0 = .ok (.aload_n 3, 1) := by decide +kernel
theorem d_L_equalLine_1 : decode b_L_equalLine 1 = .ok (.iconst 0, 1) := by decide +kernel
theorem d_L_equalLine_2 : decode b_L_equalLine 2 = .ok (.aload_n 0, 1) := by decide +kernel
theorem d_L_equalLine_3 : decode b_L_equalLine 3 = .ok (.iload_n 1, 1) := by decide +kernel
theorem d_L_equalLine_4 : decode b_L_equalLine 4 = .ok (.iload_n 2, 1) := by decide +kernel
theorem d_L_equalLine_5 : decode b_L_equalLine 5 = .ok (.invokevirtual 27, 3) := by decide +kernel
theorem d_L_equalLine_8 : decode b_L_equalLine 8 = .ok (.i2l, 1) := by decide +kernel
theorem d_L_equalLine_9 : decode b_L_equalLine 9 = .ok (.lastore, 1) := by decide +kernel
theorem d_L_equalLine_10 : decode b_L_equalLine 10 = .ok (.goto 11, 3) := by decide +kernel
theorem d_L_equalLine_13 : decode b_L_equalLine 13 = .ok (.astore 4, 2) := by decide +kernel
theorem d_L_equalLine_15 : decode b_L_equalLine 15 = .ok (.iconst 1, 1) := by decide +kernel
theorem d_L_equalLine_16 : decode b_L_equalLine 16 = .ok (.ireturn, 1) := by decide +kernel
theorem d_L_equalLine_17 : decode b_L_equalLine 17 = .ok (.astore 4, 2) := by decide +kernel
theorem d_L_equalLine_19 : decode b_L_equalLine 19 = .ok (.iconst 2, 1) := by decide +kernel
theorem d_L_equalLine_20 : decode b_L_equalLine 20 = .ok (.ireturn, 1) := by decide +kernel
theorem d_L_equalLine_21 : decode b_L_equalLine 21 = .ok (.iconst 0, 1) := by decide +kernel
theorem d_L_equalLine_22 : decode b_L_equalLine 22 = .ok (.ireturn, 1) := by decide +kernel
theorem d_L_check_0 : decode b_L_check 0 = .ok (.aload_n 2, 1) := by decide +kernel
theorem d_L_check_1 : decode b_L_check 1 = .ok (.iconst 0, 1) := by decide +kernel
theorem d_L_check_2 : decode b_L_check 2 = .ok (.aload_n 0, 1) := by decide +kernel
theorem d_L_check_3 : decode b_L_check 3 = .ok (.iload_n 1, 1) := by decide +kernel
theorem d_L_check_4 : decode b_L_check 4 = .ok (.invokevirtual 31, 3) := by decide +kernel
theorem d_L_check_7 : decode b_L_check 7 = .ok (.i2l, 1) := by decide +kernel
theorem d_L_check_8 : decode b_L_check 8 = .ok (.lastore, 1) := by decide +kernel
theorem d_L_check_9 : decode b_L_check 9 = .ok (.goto 6, 3) := by decide +kernel
theorem d_L_check_12 : decode b_L_check 12 = .ok (.astore_n 3, 1) := by decide +kernel
theorem d_L_check_13 : decode b_L_check 13 = .ok (.iconst 1, 1) := by decide +kernel
theorem d_L_check_14 : decode b_L_check 14 = .ok (.ireturn, 1) := by decide +kernel
theorem d_L_check_15 : decode b_L_check 15 = .ok (.iconst 0, 1) := by decide +kernel
theorem d_L_check_16 : decode b_L_check 16 = .ok (.ireturn, 1) := by decide +kernel
theorem d_L_good_0 : decode b_L_good 0 = .ok (.aload_n 2, 1) := by decide +kernel
theorem d_L_good_1 : decode b_L_good 1 = .ok (.iconst 0, 1) := by decide +kernel
theorem d_L_good_2 : decode b_L_good 2 = .ok (.aload_n 0, 1) := by decide +kernel
theorem d_L_good_3 : decode b_L_good 3 = .ok (.iload_n 1, 1) := by decide +kernel
theorem d_L_good_4 : decode b_L_good 4 = .ok (.invokevirtual 35, 3) := by decide +kernel
theorem d_L_good_7 : decode b_L_good 7 = .ok (.ifCond .eq 7, 3) := by decide +kernel
theorem d_L_good_10 : decode b_L_good 10 = .ok (.lconst 1, 1) := by decide +kernel
theorem d_L_good_11 : decode b_L_good 11 = .ok (.goto 4, 3) := by decide +kernel
theorem d_L_good_14 : decode b_L_good 14 = .ok (.lconst 0, 1) := by decide +kernel
theorem d_L_good_15 : decode b_L_good 15 = .ok (.lastore, 1) := by decide +kernel
theorem d_L_good_16 : decode b_L_good 16 = .ok (.goto 6, 3) := by decide +kernel
theorem d_L_good_19 : decode b_L_good 19 = .ok (.astore_n 3, 1) := by decide +kernel
theorem d_L_good_20 : decode b_L_good 20 = .ok (.iconst 1, 1) := by decide +kernel
theorem d_L_good_21 : decode b_L_good 21 = .ok (.ireturn, 1) := by decide +kernel
theorem d_L_good_22 : decode b_L_good 22 = .ok (.iconst 0, 1) := by decide +kernel
theorem d_L_good_23 : decode b_L_good 23 = .ok (.ireturn, 1) := by decide +kernel
theorem d_L_lineAt_0 : decode b_L_lineAt 0 = .ok (.aload_n 3, 1) := by decide +kernel
theorem d_L_lineAt_1 : decode b_L_lineAt 1 = .ok (.iconst 0, 1) := by decide +kernel
theorem d_L_lineAt_2 : decode b_L_lineAt 2 = .ok (.aload_n 0, 1) := by decide +kernel
theorem d_L_lineAt_3 : decode b_L_lineAt 3 = .ok (.iload_n 1, 1) := by decide +kernel
theorem d_L_lineAt_4 : decode b_L_lineAt 4 = .ok (.iload_n 2, 1) := by decide +kernel
theorem d_L_lineAt_5 : decode b_L_lineAt 5 = .ok (.invokevirtual 39, 3) := by decide +kernel
theorem d_L_lineAt_8 : decode b_L_lineAt 8 = .ok (.i2l, 1) := by decide +kernel
theorem d_L_lineAt_9 : decode b_L_lineAt 9 = .ok (.lastore, 1) := by decide +kernel
theorem d_L_lineAt_10 : decode b_L_lineAt 10 = .ok (.goto 7, 3) := by decide +kernel
theorem d_L_lineAt_13 : decode b_L_lineAt 13 = .ok (.astore 4, 2) := by decide +kernel
theorem d_L_lineAt_15 : decode b_L_lineAt 15 = .ok (.iconst 1, 1) := by decide +kernel
theorem d_L_lineAt_16 : decode b_L_lineAt 16 = .ok (.ireturn, 1) := by decide +kernel
theorem d_L_lineAt_17 : decode b_L_lineAt 17 = .ok (.iconst 0, 1) := by decide +kernel
theorem d_L_lineAt_18 : decode b_L_lineAt 18 = .ok (.ireturn, 1) := by decide +kernel
theorem d_L_implied_0 : decode b_L_implied 0 = .ok (.aload 5, 2) := by decide +kernel
theorem d_L_implied_2 : decode b_L_implied 2 = .ok (.iconst 0, 1) := by decide +kernel
theorem d_L_implied_3 : decode b_L_implied 3 = .ok (.aload_n 0, 1) := by decide +kernel
theorem d_L_implied_4 : decode b_L_implied 4 = .ok (.iload_n 1, 1) := by decide +kernel
theorem d_L_implied_5 : decode b_L_implied 5 = .ok (.iload_n 2, 1) := by decide +kernel
theorem d_L_implied_6 : decode b_L_implied 6 = .ok (.iload_n 3, 1) := by decide +kernel
theorem d_L_implied_7 : decode b_L_implied 7 = .ok (.iload 4, 2) := by decide +kernel
theorem d_L_implied_9 : decode b_L_implied 9 = .ok (.invokevirtual 42, 3) := by decide +kernel
theorem d_L_implied_12 : decode b_L_implied 12 = .ok (.i2l, 1) := by decide +kernel
theorem d_L_implied_13 : decode b_L_implied 13 = .ok (.lastore, 1) := by decide +kernel
theorem d_L_implied_14 : decode b_L_implied 14 = .ok (.goto 7, 3) := by decide +kernel
theorem d_L_implied_17 : decode b_L_implied 17 = .ok (.astore 6, 2) := by decide +kernel
theorem d_L_implied_19 : decode b_L_implied 19 = .ok (.iconst 1, 1) := by decide +kernel
theorem d_L_implied_20 : decode b_L_implied 20 = .ok (.ireturn, 1) := by decide +kernel
theorem d_L_implied_21 : decode b_L_implied 21 = .ok (.iconst 0, 1) := by decide +kernel
theorem d_L_implied_22 : decode b_L_implied 22 = .ok (.ireturn, 1) := by decide +kernel
theorem d_L_shorten_0 : decode b_L_shorten 0 = .ok (.aload_n 2, 1) := by decide +kernel
theorem d_L_shorten_1 : decode b_L_shorten 1 = .ok (.iconst 0, 1) := by decide +kernel
theorem d_L_shorten_2 : decode b_L_shorten 2 = .ok (.aload_n 0, 1) := by decide +kernel
theorem d_L_shorten_3 : decode b_L_shorten 3 = .ok (.iload_n 1, 1) := by decide +kernel
theorem d_L_shorten_4 : decode b_L_shorten 4 = .ok (.invokevirtual 46, 3) := by decide +kernel
theorem d_L_shorten_7 : decode b_L_shorten 7 = .ok (.i2l, 1) := by decide +kernel
theorem d_L_shorten_8 : decode b_L_shorten 8 = .ok (.lastore, 1) := by decide +kernel
theorem d_L_shorten_9 : decode b_L_shorten 9 = .ok (.goto 6, 3) := by decide +kernel
theorem d_L_shorten_12 : decode b_L_shorten 12 = .ok (.astore_n 3, 1) := by decide +kernel
theorem d_L_shorten_13 : decode b_L_shorten 13 = .ok (.iconst 1, 1) := by decide +kernel
theorem d_L_shorten_14 : decode b_L_shorten 14 = .ok (.ireturn, 1) := by decide +kernel
theorem d_L_shorten_15 : decode b_L_shorten 15 = .ok (.iconst 0, 1) := by decide +kernel
theorem d_L_shorten_16 : decode b_L_shorten 16 = .ok (.ireturn, 1) := by decide +kernel
theorem d_L_holds_0 : decode b_L_holds 0 = .ok (.aload 4, 2) := by decide +kernel
theorem d_L_holds_2 : decode b_L_holds 2 = .ok (.iconst 0, 1) := by decide +kernel
theorem d_L_holds_3 : decode b_L_holds 3 = .ok (.aload_n 0, 1) := by decide +kernel
theorem d_L_holds_4 : decode b_L_holds 4 = .ok (.iload_n 1, 1) := by decide +kernel
theorem d_L_holds_5 : decode b_L_holds 5 = .ok (.lload_n 2, 1) := by decide +kernel
theorem d_L_holds_6 : decode b_L_holds 6 = .ok (.invokevirtual 49, 3) := by decide +kernel
theorem d_L_holds_9 : decode b_L_holds 9 = .ok (.ifCond .eq 7, 3) := by decide +kernel
theorem d_L_holds_12 : decode b_L_holds 12 = .ok (.lconst 1, 1) := by decide +kernel
theorem d_L_holds_13 : decode b_L_holds 13 = .ok (.goto 4, 3) := by decide +kernel
theorem d_L_holds_16 : decode b_L_holds 16 = .ok (.lconst 0, 1) := by decide +kernel
theorem d_L_holds_17 : decode b_L_holds 17 = .ok (.lastore, 1) := by decide +kernel
theorem d_L_holds_18 : decode b_L_holds 18 = .ok (.goto 7, 3) := by decide +kernel
theorem d_L_holds_21 : decode b_L_holds 21 = .ok (.astore 5, 2) := by decide +kernel
theorem d_L_holds_23 : decode b_L_holds 23 = .ok (.iconst 1, 1) := by decide +kernel
theorem d_L_holds_24 : decode b_L_holds 24 = .ok (.ireturn, 1) := by decide +kernel
theorem d_L_holds_25 : decode b_L_holds 25 = .ok (.iconst 0, 1) := by decide +kernel
theorem d_L_holds_26 : decode b_L_holds 26 = .ok (.ireturn, 1) := by decide +kernel
theorem d_L_text_0 : decode b_L_text 0 = .ok (.aload_n 2, 1) := by decide +kernel
theorem d_L_text_1 : decode b_L_text 1 = .ok (.iconst 0, 1) := by decide +kernel
theorem d_L_text_2 : decode b_L_text 2 = .ok (.aload_n 0, 1) := by decide +kernel
theorem d_L_text_3 : decode b_L_text 3 = .ok (.iload_n 1, 1) := by decide +kernel
theorem d_L_text_4 : decode b_L_text 4 = .ok (.invokevirtual 53, 3) := by decide +kernel
theorem d_L_text_7 : decode b_L_text 7 = .ok (.i2l, 1) := by decide +kernel
theorem d_L_text_8 : decode b_L_text 8 = .ok (.lastore, 1) := by decide +kernel
theorem d_L_text_9 : decode b_L_text 9 = .ok (.goto 6, 3) := by decide +kernel
theorem d_L_text_12 : decode b_L_text 12 = .ok (.astore_n 3, 1) := by decide +kernel
theorem d_L_text_13 : decode b_L_text 13 = .ok (.iconst 1, 1) := by decide +kernel
theorem d_L_text_14 : decode b_L_text 14 = .ok (.ireturn, 1) := by decide +kernel
theorem d_L_text_15 : decode b_L_text 15 = .ok (.iconst 0, 1) := by decide +kernel
theorem d_L_text_16 : decode b_L_text 16 = .ok (.ireturn, 1) := by decide +kernel
theorem d_L_count_0 : decode b_L_count 0 = .ok (.aload_n 2, 1) := by decide +kernel
theorem d_L_count_1 : decode b_L_count 1 = .ok (.iconst 0, 1) := by decide +kernel
theorem d_L_count_2 : decode b_L_count 2 = .ok (.aload_n 0, 1) := by decide +kernel
theorem d_L_count_3 : decode b_L_count 3 = .ok (.iload_n 1, 1) := by decide +kernel
theorem d_L_count_4 : decode b_L_count 4 = .ok (.invokevirtual 56, 3) := by decide +kernel
theorem d_L_count_7 : decode b_L_count 7 = .ok (.i2l, 1) := by decide +kernel
theorem d_L_count_8 : decode b_L_count 8 = .ok (.lastore, 1) := by decide +kernel
theorem d_L_count_9 : decode b_L_count 9 = .ok (.goto 6, 3) := by decide +kernel
theorem d_L_count_12 : decode b_L_count 12 = .ok (.astore_n 3, 1) := by decide +kernel
theorem d_L_count_13 : decode b_L_count 13 = .ok (.iconst 1, 1) := by decide +kernel
theorem d_L_count_14 : decode b_L_count 14 = .ok (.ireturn, 1) := by decide +kernel
theorem d_L_count_15 : decode b_L_count 15 = .ok (.iconst 0, 1) := by decide +kernel
theorem d_L_count_16 : decode b_L_count 16 = .ok (.ireturn, 1) := by decide +kernel
def rm_L_gate : Room := { frames := 7, cells := 1, slots := 6, locals := 105 }
set_option maxHeartbeats 4000000 in
set_option maxRecDepth 100000 in
theorem c_L_gate (l : Launch) (hl9 : l.stackTraces = false) (D : va_G) (cA : Nat → ClassId) (ad : Nat → Nat) (s0 : State) (hs0 : tS s0) (sz : Nat) (G_size : Int32) (G_inputs : Int32) (G_kinds : (Nat → Int32)) (G_lefts : (Nat → Int32)) (G_rights : (Nat → Int32)) (L_out : (Nat → Int64)) (p1 : Int32) (p2 : Int32) (p3 : Int32) (post : Int32 → Int32 → Int32 → (Nat → Int32) → (Nat → Int32) → (Nat → Int32) → (Nat → Int64) → Prop) (h : wp_L_gate G_size G_inputs G_kinds G_lefts G_rights L_out p1 p2 p3 post) : Met l y_L_gate w_L_gate rm_L_gate (mPcO D cA s0 [.ref (ad 0), .int p1, .int p2, .int p3, .ref (ad 26)] [(k_P cA ad), (k_G cA ad G_size G_inputs), (k_G_kinds cA ad G_kinds), (k_G_lefts cA ad G_lefts), (k_G_rights cA ad G_rights), (k_L_out cA ad L_out)] sz) (va_Qi (fun (r : Int32) (u : Int32 × Int32 × (Nat → Int32) × (Nat → Int32) × (Nat → Int32) × (Nat → Int64)) => post r u.1 u.2.1 u.2.2.1 u.2.2.2.1 u.2.2.2.2.1 u.2.2.2.2.2) (mB D (va_A [(k_P cA ad), (k_G cA ad G_size G_inputs), (k_G_kinds cA ad G_kinds), (k_G_lefts cA ad G_lefts), (k_G_rights cA ad G_rights), (k_L_out cA ad L_out)] sz) (fun (u : Int32 × Int32 × (Nat → Int32) × (Nat → Int32) × (Nat → Int32) × (Nat → Int64)) => [(k_P cA ad), (k_G cA ad u.1 u.2.1), (k_G_kinds cA ad u.2.2.1), (k_G_lefts cA ad u.2.2.2.1), (k_G_rights cA ad u.2.2.2.2.1), (k_L_out cA ad u.2.2.2.2.2)])) (va_A [(k_P cA ad), (k_G cA ad G_size G_inputs), (k_G_kinds cA ad G_kinds), (k_G_lefts cA ad G_lefts), (k_G_rights cA ad G_rights), (k_L_out cA ad L_out)] sz)) 1 6 (va_A [(k_P cA ad), (k_G cA ad G_size G_inputs), (k_G_kinds cA ad G_kinds), (k_G_lefts cA ad G_lefts), (k_G_rights cA ad G_rights), (k_L_out cA ad L_out)] sz) := by
  refine m_methW (by decide) rfl (Nat.le_of_ble_eq_true rfl) ?_
  intro p e s m below meth c A Q ls hx hb hml hown hts hK ho hTab hA hw hl hE
  have hl : lv_has ls 6 [(0, .ref (ad 0)), (1, .int p1), (2, .int p2), (3, .int p3), (4, .ref (ad 26))] := hl
  have hown : s.vm.findClass R_L = some m.cls := hown
  have hg : ∀ {w : Cond}, w ∈ gw → w.before _ s = true := fun h => hts _ (List.mem_cons_of_mem _ h)
  unfold wp_L_gate at h
  refine lv_aload hx hb d_L_gate_0 (lv_at hl 4 rfl) ?_
  refine lv_iconst (v := 0) hx hb d_L_gate_2 (by decide) ?_
  refine lv_aload_n hx hb d_L_gate_3 rfl (lv_at hl 0 rfl) ?_
  refine lv_iload_n hx hb d_L_gate_4 rfl (lv_at hl 1 rfl) ?_
  refine lv_iload_n hx hb d_L_gate_5 rfl (lv_at hl 2 rfl) ?_
  refine lv_iload_n hx hb d_L_gate_6 rfl (lv_at hl 3 rfl) ?_
  rcases h with h | h
  · refine m_calli (hr := va_runV (As := [.int p1, .int p2, .int p3]) (rest := [.int 0, .ref (ad 26)]) ⟨hx, hb, hml, hown, hts⟩ (c_P_gate l D cA ad _ G_size G_inputs G_kinds G_lefts G_rights p1 p2 p3 _ h) (cwV 3 hts (ginV gm_254 gm_255 gm_256 gm_1 gm_257) rfl rfl rfl (by decide +kernel) ⟨Nat.le_of_ble_eq_true rfl, Nat.le_of_ble_eq_true rfl⟩) (m_preV 0 0 rfl rfl hK hw [0, 1, 2, 3, 4] rfl rfl) rfl rfl hl.1 rfl (lv_room (Nat.le_of_ble_eq_true rfl)) d_L_gate_7 ⟨Nat.zero_le _, Nat.zero_le _⟩) (w2 := (fun (u : Int32 × Int32 × (Nat → Int32) × (Nat → Int32) × (Nat → Int32)) => [(k_P cA ad), (k_G cA ad u.1 u.2.1), (k_G_kinds cA ad u.2.2.1), (k_G_lefts cA ad u.2.2.2.1), (k_G_rights cA ad u.2.2.2.2), (k_L_out cA ad L_out)])) (wr := [(k_L_out cA ad L_out)]) hw hA [0, 1, 2, 3, 4] [5] [1, 2, 3, 4, 5, 0] rfl rfl (by decide) (by decide) (by decide) (fun _ => rfl) (fun r7 u H locs hw h => ?_)
    obtain ⟨G_size_7, G_inputs_7, G_kinds_7, G_lefts_7, G_rights_7⟩ := u
    have hw : mW D A s.heap [(k_P cA ad), (k_G cA ad G_size_7 G_inputs_7), (k_G_kinds cA ad G_kinds_7), (k_G_lefts cA ad G_lefts_7), (k_G_rights cA ad G_rights_7), (k_L_out cA ad L_out)] H locs := hw
    refine lv_i2l hx hb d_L_gate_10 rfl ?_
    refine m_last (ws' := [(k_P cA ad), (k_G cA ad G_size_7 G_inputs_7), (k_G_kinds cA ad G_kinds_7), (k_G_lefts cA ad G_lefts_7), (k_G_rights cA ad G_rights_7), (k_L_out cA ad (vp_updL L_out (0 : Int32).toNatClampNeg r7.toInt64))]) hx hb hK.1 hw 5 2 rfl rfl h.1 rfl d_L_gate_11 (fun H locs hw => ?_)
    have h := h.2
    refine lv_goto (tgt := 27) hx hb d_L_gate_12 (by decide) ?_
    refine lv_iconst (v := 0) hx hb d_L_gate_27 (by decide) ?_
    refine W.widen (k := 1) (n := 6) (Nat.zero_le _) (Nat.zero_le _) ?_
    exact hE 0 (G_size_7, G_inputs_7, G_kinds_7, G_lefts_7, G_rights_7, (vp_updL L_out (0 : Int32).toNatClampNeg r7.toInt64)) _ _ _ _ h hw d_L_gate_28
  · refine x_call (As := [.int p1, .int p2, .int p3]) (rest := [.int 0, .ref (ad 26)]) ⟨hx, hb, hml, hown, hts⟩ (t_P_gate l hl9 D cA ad s0 hs0 _ G_size G_inputs G_kinds G_lefts G_rights p1 p2 p3 _ h) (cwV 3 hts (ginV gm_254 gm_255 gm_256 gm_1 gm_257) rfl rfl rfl (by decide +kernel) ⟨Nat.le_of_ble_eq_true rfl, Nat.le_of_ble_eq_true rfl⟩) (m_preVO 0 0 rfl rfl hK ho hw [0, 1, 2, 3, 4] rfl rfl) rfl hl.1 (lv_room (Nat.le_of_ble_eq_true rfl)) d_L_gate_7 ⟨Nat.le_of_ble_eq_true rfl, Nat.le_of_ble_eq_true rfl⟩ (fun k q9 H h hsz hkp => ?_)
    have hw : mW D A s.heap [(k_P cA ad), (k_G cA ad G_size G_inputs), (k_G_kinds cA ad G_kinds), (k_G_lefts cA ad G_lefts), (k_G_rights cA ad G_rights), (k_L_out cA ad L_out)] H [] := m_keep hw hsz hkp
    rcases h with ⟨rfl, h⟩ | ⟨rfl, h⟩ | ⟨rfl, h⟩
    · refine ⟨[], ⟨0, 12, 15, 13⟩, [⟨0, 12, 19, 15⟩, ⟨0, 12, 23, 17⟩], "java/lang/IndexOutOfBoundsException", by rw [hTab]; rfl, (fun z hz => nomatch hz), by decide, by decide, hg gm_251, (va_Nw.use rfl (hK.2 _ nw_265)), ?_⟩
      refine lv_astore (lv' := [(5, .ref q9), (0, .ref (ad 0)), (1, .int p1), (2, .int p2), (3, .int p3), (4, .ref (ad 26))]) hx hb d_L_gate_15 hl (by decide) rfl (fun ls hl => ?_)
      refine lv_iconst (v := 1) hx hb d_L_gate_17 (by decide) ?_
      exact hE 1 (G_size, G_inputs, G_kinds, G_lefts, G_rights, L_out) _ _ _ _ h hw d_L_gate_18
    · refine ⟨[⟨0, 12, 15, 13⟩], ⟨0, 12, 19, 15⟩, [⟨0, 12, 23, 17⟩], "java/lang/IllegalArgumentException", by rw [hTab]; rfl, (List.forall_mem_cons.mpr ⟨Or.inr ⟨by decide, "java/lang/IndexOutOfBoundsException", hg gm_251, nc_old hs0 ho (E := "java/lang/IllegalArgumentException") (nm := "java/lang/IndexOutOfBoundsException") (by decide +kernel)⟩, fun z hz => nomatch hz⟩), by decide, by decide, hg gm_252, (va_Nw.use rfl (hK.2 _ nw_333)), ?_⟩
      refine lv_astore (lv' := [(5, .ref q9), (0, .ref (ad 0)), (1, .int p1), (2, .int p2), (3, .int p3), (4, .ref (ad 26))]) hx hb d_L_gate_19 hl (by decide) rfl (fun ls hl => ?_)
      refine lv_iconst (v := 2) hx hb d_L_gate_21 (by decide) ?_
      exact hE 2 (G_size, G_inputs, G_kinds, G_lefts, G_rights, L_out) _ _ _ _ h hw d_L_gate_22
    · refine ⟨[⟨0, 12, 15, 13⟩, ⟨0, 12, 19, 15⟩], ⟨0, 12, 23, 17⟩, [], "java/lang/UnsupportedOperationException", by rw [hTab]; rfl, (List.forall_mem_cons.mpr ⟨Or.inr ⟨by decide, "java/lang/IndexOutOfBoundsException", hg gm_251, nc_old hs0 ho (E := "java/lang/UnsupportedOperationException") (nm := "java/lang/IndexOutOfBoundsException") (by decide +kernel)⟩, List.forall_mem_cons.mpr ⟨Or.inr ⟨by decide, "java/lang/IllegalArgumentException", hg gm_252, nc_old hs0 ho (E := "java/lang/UnsupportedOperationException") (nm := "java/lang/IllegalArgumentException") (by decide +kernel)⟩, fun z hz => nomatch hz⟩⟩), by decide, by decide, hg gm_253, (va_Nw.use rfl (hK.2 _ nw_349)), ?_⟩
      refine lv_astore (lv' := [(5, .ref q9), (0, .ref (ad 0)), (1, .int p1), (2, .int p2), (3, .int p3), (4, .ref (ad 26))]) hx hb d_L_gate_23 hl (by decide) rfl (fun ls hl => ?_)
      refine lv_iconst (v := 3) hx hb d_L_gate_25 (by decide) ?_
      exact hE 3 (G_size, G_inputs, G_kinds, G_lefts, G_rights, L_out) _ _ _ _ h hw d_L_gate_26
def rm_L_line : Room := { frames := 7, cells := 1, slots := 6, locals := 102 }
set_option maxHeartbeats 4000000 in
set_option maxRecDepth 100000 in
theorem c_L_line (l : Launch) (hl9 : l.stackTraces = false) (D : va_G) (cA : Nat → ClassId) (ad : Nat → Nat) (s0 : State) (hs0 : tS s0) (sz : Nat) (F_size : Int32) (F_kinds : (Nat → Int32)) (F_sizes : (Nat → Int32)) (L_out : (Nat → Int64)) (post : Int32 → Int32 → (Nat → Int32) → (Nat → Int32) → (Nat → Int64) → Prop) (h : wp_L_line F_size F_kinds F_sizes L_out post) : Met l y_L_line w_L_line rm_L_line (mPcO D cA s0 [.ref (ad 0), .ref (ad 26)] [(k_P cA ad), (k_F cA ad F_size), (k_F_kinds cA ad F_kinds), (k_F_sizes cA ad F_sizes), (k_L_out cA ad L_out)] sz) (va_Qi (fun (r : Int32) (u : Int32 × (Nat → Int32) × (Nat → Int32) × (Nat → Int64)) => post r u.1 u.2.1 u.2.2.1 u.2.2.2) (mB D (va_A [(k_P cA ad), (k_F cA ad F_size), (k_F_kinds cA ad F_kinds), (k_F_sizes cA ad F_sizes), (k_L_out cA ad L_out)] sz) (fun (u : Int32 × (Nat → Int32) × (Nat → Int32) × (Nat → Int64)) => [(k_P cA ad), (k_F cA ad u.1), (k_F_kinds cA ad u.2.1), (k_F_sizes cA ad u.2.2.1), (k_L_out cA ad u.2.2.2)])) (va_A [(k_P cA ad), (k_F cA ad F_size), (k_F_kinds cA ad F_kinds), (k_F_sizes cA ad F_sizes), (k_L_out cA ad L_out)] sz)) 1 6 (va_A [(k_P cA ad), (k_F cA ad F_size), (k_F_kinds cA ad F_kinds), (k_F_sizes cA ad F_sizes), (k_L_out cA ad L_out)] sz) := by
  refine m_methW (by decide) rfl (Nat.le_of_ble_eq_true rfl) ?_
  intro p e s m below meth c A Q ls hx hb hml hown hts hK ho hTab hA hw hl hE
  have hl : lv_has ls 3 [(0, .ref (ad 0)), (1, .ref (ad 26))] := hl
  have hown : s.vm.findClass R_L = some m.cls := hown
  have hg : ∀ {w : Cond}, w ∈ gw → w.before _ s = true := fun h => hts _ (List.mem_cons_of_mem _ h)
  unfold wp_L_line at h
  refine lv_aload_n hx hb d_L_line_0 rfl (lv_at hl 1 rfl) ?_
  refine lv_iconst (v := 0) hx hb d_L_line_1 (by decide) ?_
  refine lv_aload_n hx hb d_L_line_2 rfl (lv_at hl 0 rfl) ?_
  rcases h with h | h
  · refine m_calli (hr := va_runV (As := []) (rest := [.int 0, .ref (ad 26)]) ⟨hx, hb, hml, hown, hts⟩ (c_P_line l D cA ad _ F_size F_kinds F_sizes _ h) (cwV 0 hts (ginV gm_370 gm_371 gm_372 gm_1 gm_373) rfl rfl rfl (by decide +kernel) ⟨Nat.le_of_ble_eq_true rfl, Nat.le_of_ble_eq_true rfl⟩) (m_preV 0 0 rfl rfl hK hw [0, 1, 2, 3] rfl rfl) rfl rfl hl.1 rfl (lv_room (Nat.le_of_ble_eq_true rfl)) d_L_line_3 ⟨Nat.zero_le _, Nat.zero_le _⟩) (w2 := (fun (u : Int32 × (Nat → Int32) × (Nat → Int32)) => [(k_P cA ad), (k_F cA ad u.1), (k_F_kinds cA ad u.2.1), (k_F_sizes cA ad u.2.2), (k_L_out cA ad L_out)])) (wr := [(k_L_out cA ad L_out)]) hw hA [0, 1, 2, 3] [4] [1, 2, 3, 4, 0] rfl rfl (by decide) (by decide) (by decide) (fun _ => rfl) (fun r3 u H locs hw h => ?_)
    obtain ⟨F_size_3, F_kinds_3, F_sizes_3⟩ := u
    have hw : mW D A s.heap [(k_P cA ad), (k_F cA ad F_size_3), (k_F_kinds cA ad F_kinds_3), (k_F_sizes cA ad F_sizes_3), (k_L_out cA ad L_out)] H locs := hw
    refine lv_i2l hx hb d_L_line_6 rfl ?_
    refine m_last (ws' := [(k_P cA ad), (k_F cA ad F_size_3), (k_F_kinds cA ad F_kinds_3), (k_F_sizes cA ad F_sizes_3), (k_L_out cA ad (vp_updL L_out (0 : Int32).toNatClampNeg r3.toInt64))]) hx hb hK.1 hw 4 2 rfl rfl h.1 rfl d_L_line_7 (fun H locs hw => ?_)
    have h := h.2
    refine lv_goto (tgt := 14) hx hb d_L_line_8 (by decide) ?_
    refine lv_iconst (v := 0) hx hb d_L_line_14 (by decide) ?_
    refine W.widen (k := 1) (n := 6) (Nat.zero_le _) (Nat.zero_le _) ?_
    exact hE 0 (F_size_3, F_kinds_3, F_sizes_3, (vp_updL L_out (0 : Int32).toNatClampNeg r3.toInt64)) _ _ _ _ h hw d_L_line_15
  · refine x_call (As := []) (rest := [.int 0, .ref (ad 26)]) ⟨hx, hb, hml, hown, hts⟩ (t_P_line l hl9 D cA ad s0 hs0 _ F_size F_kinds F_sizes _ h) (cwV 0 hts (ginV gm_370 gm_371 gm_372 gm_1 gm_373) rfl rfl rfl (by decide +kernel) ⟨Nat.le_of_ble_eq_true rfl, Nat.le_of_ble_eq_true rfl⟩) (m_preVO 0 0 rfl rfl hK ho hw [0, 1, 2, 3] rfl rfl) rfl hl.1 (lv_room (Nat.le_of_ble_eq_true rfl)) d_L_line_3 ⟨Nat.le_of_ble_eq_true rfl, Nat.le_of_ble_eq_true rfl⟩ (fun k q9 H h hsz hkp => ?_)
    have hw : mW D A s.heap [(k_P cA ad), (k_F cA ad F_size), (k_F_kinds cA ad F_kinds), (k_F_sizes cA ad F_sizes), (k_L_out cA ad L_out)] H [] := m_keep hw hsz hkp
    obtain ⟨rfl, h⟩ := h
    refine ⟨[], ⟨0, 8, 11, 17⟩, [], "java/lang/UnsupportedOperationException", by rw [hTab]; rfl, (fun z hz => nomatch hz), by decide, by decide, hg gm_253, (va_Nw.use rfl (hK.2 _ nw_349)), ?_⟩
    refine lv_astore_n (lv' := [(2, .ref q9), (0, .ref (ad 0)), (1, .ref (ad 26))]) hx hb d_L_line_11 rfl hl (by decide) rfl (fun ls hl => ?_)
    refine lv_iconst (v := 1) hx hb d_L_line_12 (by decide) ?_
    exact hE 1 (F_size, F_kinds, F_sizes, L_out) _ _ _ _ h hw d_L_line_13
def rm_L_literal : Room := { frames := 7, cells := 1, slots := 6, locals := 104 }
set_option maxHeartbeats 4000000 in
set_option maxRecDepth 100000 in
theorem c_L_literal (l : Launch) (hl9 : l.stackTraces = false) (D : va_G) (cA : Nat → ClassId) (ad : Nat → Nat) (s0 : State) (hs0 : tS s0) (sz : Nat) (G_size : Int32) (G_inputs : Int32) (F_size : Int32) (F_kinds : (Nat → Int32)) (F_sizes : (Nat → Int32)) (F_literals : (Nat → Int32)) (L_out : (Nat → Int64)) (p1 : Int32) (p2 : Int32) (post : Int32 → (Nat → Int32) → (Nat → Int32) → (Nat → Int64) → Prop) (h : wp_L_literal G_size F_size F_kinds F_sizes F_literals L_out p1 p2 post) : Met l y_L_literal w_L_literal rm_L_literal (mPcO D cA s0 [.ref (ad 0), .int p1, .int p2, .ref (ad 26)] [(k_P cA ad), (k_G cA ad G_size G_inputs), (k_F cA ad F_size), (k_F_kinds cA ad F_kinds), (k_F_sizes cA ad F_sizes), (k_F_literals cA ad F_literals), (k_L_out cA ad L_out)] sz) (va_Qi (fun (r : Int32) (u : (Nat → Int32) × (Nat → Int32) × (Nat → Int64)) => post r u.1 u.2.1 u.2.2) (mB D (va_A [(k_P cA ad), (k_G cA ad G_size G_inputs), (k_F cA ad F_size), (k_F_kinds cA ad F_kinds), (k_F_sizes cA ad F_sizes), (k_F_literals cA ad F_literals), (k_L_out cA ad L_out)] sz) (fun (u : (Nat → Int32) × (Nat → Int32) × (Nat → Int64)) => [(k_P cA ad), (k_G cA ad G_size G_inputs), (k_F cA ad F_size), (k_F_kinds cA ad F_kinds), (k_F_sizes cA ad u.1), (k_F_literals cA ad u.2.1), (k_L_out cA ad u.2.2)])) (va_A [(k_P cA ad), (k_G cA ad G_size G_inputs), (k_F cA ad F_size), (k_F_kinds cA ad F_kinds), (k_F_sizes cA ad F_sizes), (k_F_literals cA ad F_literals), (k_L_out cA ad L_out)] sz)) 1 6 (va_A [(k_P cA ad), (k_G cA ad G_size G_inputs), (k_F cA ad F_size), (k_F_kinds cA ad F_kinds), (k_F_sizes cA ad F_sizes), (k_F_literals cA ad F_literals), (k_L_out cA ad L_out)] sz) := by
  refine m_methW (by decide) rfl (Nat.le_of_ble_eq_true rfl) ?_
  intro p e s m below meth c A Q ls hx hb hml hown hts hK ho hTab hA hw hl hE
  have hl : lv_has ls 5 [(0, .ref (ad 0)), (1, .int p1), (2, .int p2), (3, .ref (ad 26))] := hl
  have hown : s.vm.findClass R_L = some m.cls := hown
  have hg : ∀ {w : Cond}, w ∈ gw → w.before _ s = true := fun h => hts _ (List.mem_cons_of_mem _ h)
  have j16 : ∀ (s0 : Int64) (s1 : Int32) (F_sizes : (Nat → Int32)) (F_literals : (Nat → Int32)) (L_out : (Nat → Int64)) (H : Heap) (locs : List Loc) (ls : Array Slot), s_L_literal_16 G_size F_size F_kinds p1 p2 post s0 s1 F_sizes F_literals L_out → mW D A s.heap [(k_P cA ad), (k_G cA ad G_size G_inputs), (k_F cA ad F_size), (k_F_kinds cA ad F_kinds), (k_F_sizes cA ad F_sizes), (k_F_literals cA ad F_literals), (k_L_out cA ad L_out)] H locs → lv_has ls 5 [] → W p l e rm_L_literal s m [.ref (ad 0), .int p1, .int p2, .ref (ad 26)].toArray below meth c H locs 0 0 Q (F0 m 16 ls [.long s0, .int s1, .ref (ad 26)]) := by
    intro s0 s1 F_sizes F_literals L_out H locs ls h hw hl
    unfold s_L_literal_16 at h
    refine m_last (ws' := [(k_P cA ad), (k_G cA ad G_size G_inputs), (k_F cA ad F_size), (k_F_kinds cA ad F_kinds), (k_F_sizes cA ad F_sizes), (k_F_literals cA ad F_literals), (k_L_out cA ad (vp_updL L_out s1.toNatClampNeg s0))]) hx hb hK.1 hw 6 2 rfl rfl h.1 rfl d_L_literal_16 (fun H locs hw => ?_)
    have h := h.2
    refine lv_goto (tgt := 32) hx hb d_L_literal_17 (by decide) ?_
    refine lv_iconst (v := 0) hx hb d_L_literal_32 (by decide) ?_
    refine W.widen (k := 1) (n := 6) (Nat.zero_le _) (Nat.zero_le _) ?_
    exact hE 0 (F_sizes, F_literals, (vp_updL L_out s1.toNatClampNeg s0)) _ _ _ _ h hw d_L_literal_33
  unfold wp_L_literal at h
  refine lv_aload_n hx hb d_L_literal_0 rfl (lv_at hl 3 rfl) ?_
  refine lv_iconst (v := 0) hx hb d_L_literal_1 (by decide) ?_
  refine lv_aload_n hx hb d_L_literal_2 rfl (lv_at hl 0 rfl) ?_
  refine lv_iload_n hx hb d_L_literal_3 rfl (lv_at hl 1 rfl) ?_
  refine lv_iload_n hx hb d_L_literal_4 rfl (lv_at hl 2 rfl) ?_
  rcases h with h | h
  · refine m_calli (hr := va_runV (As := [.int p1, .int p2]) (rest := [.int 0, .ref (ad 26)]) ⟨hx, hb, hml, hown, hts⟩ (c_P_literal l D cA ad _ G_size G_inputs F_size F_kinds F_sizes F_literals p1 p2 _ h) (cwV 2 hts (ginV gm_380 gm_381 gm_382 gm_1 gm_383) rfl rfl rfl (by decide +kernel) ⟨Nat.le_of_ble_eq_true rfl, Nat.le_of_ble_eq_true rfl⟩) (m_preV 0 0 rfl rfl hK hw [0, 1, 2, 3, 4, 5] rfl rfl) rfl rfl hl.1 rfl (lv_room (Nat.le_of_ble_eq_true rfl)) d_L_literal_5 ⟨Nat.zero_le _, Nat.zero_le _⟩) (w2 := (fun (u : (Nat → Int32) × (Nat → Int32)) => [(k_P cA ad), (k_G cA ad G_size G_inputs), (k_F cA ad F_size), (k_F_kinds cA ad F_kinds), (k_F_sizes cA ad u.1), (k_F_literals cA ad u.2), (k_L_out cA ad L_out)])) (wr := [(k_L_out cA ad L_out)]) hw hA [0, 1, 2, 3, 4, 5] [6] [1, 2, 3, 4, 5, 6, 0] rfl rfl (by decide) (by decide) (by decide) (fun _ => rfl) (fun r5 u H locs hw h => ?_)
    obtain ⟨F_sizes_5, F_literals_5⟩ := u
    have hw : mW D A s.heap [(k_P cA ad), (k_G cA ad G_size G_inputs), (k_F cA ad F_size), (k_F_kinds cA ad F_kinds), (k_F_sizes cA ad F_sizes_5), (k_F_literals cA ad F_literals_5), (k_L_out cA ad L_out)] H locs := hw
    refine lv_if_eq (tgt := 15) hx hb d_L_literal_8 (by decide) (fun hc => ?_) (fun hc => ?_)
    · have h := h.1 hc
      refine lv_lconst (v := 0) hx hb d_L_literal_15 rfl ?_
      exact j16 _ _ _ _ _ _ _ _ h hw (lv_sub hl [] rfl)
    · have h := h.2 hc
      refine lv_lconst (v := 1) hx hb d_L_literal_11 rfl ?_
      refine lv_goto (tgt := 16) hx hb d_L_literal_12 (by decide) ?_
      exact j16 _ _ _ _ _ _ _ _ h hw (lv_sub hl [] rfl)
  · refine x_call (As := [.int p1, .int p2]) (rest := [.int 0, .ref (ad 26)]) ⟨hx, hb, hml, hown, hts⟩ (t_P_literal l hl9 D cA ad s0 hs0 _ G_size G_inputs F_size F_kinds F_sizes F_literals p1 p2 _ h) (cwV 2 hts (ginV gm_380 gm_381 gm_382 gm_1 gm_383) rfl rfl rfl (by decide +kernel) ⟨Nat.le_of_ble_eq_true rfl, Nat.le_of_ble_eq_true rfl⟩) (m_preVO 0 0 rfl rfl hK ho hw [0, 1, 2, 3, 4, 5] rfl rfl) rfl hl.1 (lv_room (Nat.le_of_ble_eq_true rfl)) d_L_literal_5 ⟨Nat.le_of_ble_eq_true rfl, Nat.le_of_ble_eq_true rfl⟩ (fun k q9 H h hsz hkp => ?_)
    have hw : mW D A s.heap [(k_P cA ad), (k_G cA ad G_size G_inputs), (k_F cA ad F_size), (k_F_kinds cA ad F_kinds), (k_F_sizes cA ad F_sizes), (k_F_literals cA ad F_literals), (k_L_out cA ad L_out)] H [] := m_keep hw hsz hkp
    rcases h with ⟨rfl, h⟩ | ⟨rfl, h⟩ | ⟨rfl, h⟩
    · refine ⟨[], ⟨0, 17, 20, 13⟩, [⟨0, 17, 24, 15⟩, ⟨0, 17, 28, 17⟩], "java/lang/IndexOutOfBoundsException", by rw [hTab]; rfl, (fun z hz => nomatch hz), by decide, by decide, hg gm_251, (va_Nw.use rfl (hK.2 _ nw_265)), ?_⟩
      refine lv_astore (lv' := [(4, .ref q9), (0, .ref (ad 0)), (1, .int p1), (2, .int p2), (3, .ref (ad 26))]) hx hb d_L_literal_20 hl (by decide) rfl (fun ls hl => ?_)
      refine lv_iconst (v := 1) hx hb d_L_literal_22 (by decide) ?_
      exact hE 1 (F_sizes, F_literals, L_out) _ _ _ _ h hw d_L_literal_23
    · refine ⟨[⟨0, 17, 20, 13⟩], ⟨0, 17, 24, 15⟩, [⟨0, 17, 28, 17⟩], "java/lang/IllegalArgumentException", by rw [hTab]; rfl, (List.forall_mem_cons.mpr ⟨Or.inr ⟨by decide, "java/lang/IndexOutOfBoundsException", hg gm_251, nc_old hs0 ho (E := "java/lang/IllegalArgumentException") (nm := "java/lang/IndexOutOfBoundsException") (by decide +kernel)⟩, fun z hz => nomatch hz⟩), by decide, by decide, hg gm_252, (va_Nw.use rfl (hK.2 _ nw_333)), ?_⟩
      refine lv_astore (lv' := [(4, .ref q9), (0, .ref (ad 0)), (1, .int p1), (2, .int p2), (3, .ref (ad 26))]) hx hb d_L_literal_24 hl (by decide) rfl (fun ls hl => ?_)
      refine lv_iconst (v := 2) hx hb d_L_literal_26 (by decide) ?_
      exact hE 2 (F_sizes, F_literals, L_out) _ _ _ _ h hw d_L_literal_27
    · refine ⟨[⟨0, 17, 20, 13⟩, ⟨0, 17, 24, 15⟩], ⟨0, 17, 28, 17⟩, [], "java/lang/UnsupportedOperationException", by rw [hTab]; rfl, (List.forall_mem_cons.mpr ⟨Or.inr ⟨by decide, "java/lang/IndexOutOfBoundsException", hg gm_251, nc_old hs0 ho (E := "java/lang/UnsupportedOperationException") (nm := "java/lang/IndexOutOfBoundsException") (by decide +kernel)⟩, List.forall_mem_cons.mpr ⟨Or.inr ⟨by decide, "java/lang/IllegalArgumentException", hg gm_252, nc_old hs0 ho (E := "java/lang/UnsupportedOperationException") (nm := "java/lang/IllegalArgumentException") (by decide +kernel)⟩, fun z hz => nomatch hz⟩⟩), by decide, by decide, hg gm_253, (va_Nw.use rfl (hK.2 _ nw_349)), ?_⟩
      refine lv_astore (lv' := [(4, .ref q9), (0, .ref (ad 0)), (1, .int p1), (2, .int p2), (3, .ref (ad 26))]) hx hb d_L_literal_28 hl (by decide) rfl (fun ls hl => ?_)
      refine lv_iconst (v := 3) hx hb d_L_literal_30 (by decide) ?_
      exact hE 3 (F_sizes, F_literals, L_out) _ _ _ _ h hw d_L_literal_31
def rm_L_equalLine : Room := { frames := 7, cells := 1, slots := 6, locals := 105 }
set_option maxHeartbeats 4000000 in
set_option maxRecDepth 100000 in
theorem c_L_equalLine (l : Launch) (hl9 : l.stackTraces = false) (D : va_G) (cA : Nat → ClassId) (ad : Nat → Nat) (s0 : State) (hs0 : tS s0) (sz : Nat) (G_size : Int32) (G_inputs : Int32) (F_size : Int32) (F_kinds : (Nat → Int32)) (F_sizes : (Nat → Int32)) (F_literals : (Nat → Int32)) (L_out : (Nat → Int64)) (p1 : Int32) (p2 : Int32) (post : Int32 → Int32 → (Nat → Int32) → (Nat → Int32) → (Nat → Int32) → (Nat → Int64) → Prop) (h : wp_L_equalLine G_size F_size F_kinds F_sizes F_literals L_out p1 p2 post) : Met l y_L_equalLine w_L_equalLine rm_L_equalLine (mPcO D cA s0 [.ref (ad 0), .int p1, .int p2, .ref (ad 26)] [(k_P cA ad), (k_G cA ad G_size G_inputs), (k_F cA ad F_size), (k_F_kinds cA ad F_kinds), (k_F_sizes cA ad F_sizes), (k_F_literals cA ad F_literals), (k_L_out cA ad L_out)] sz) (va_Qi (fun (r : Int32) (u : Int32 × (Nat → Int32) × (Nat → Int32) × (Nat → Int32) × (Nat → Int64)) => post r u.1 u.2.1 u.2.2.1 u.2.2.2.1 u.2.2.2.2) (mB D (va_A [(k_P cA ad), (k_G cA ad G_size G_inputs), (k_F cA ad F_size), (k_F_kinds cA ad F_kinds), (k_F_sizes cA ad F_sizes), (k_F_literals cA ad F_literals), (k_L_out cA ad L_out)] sz) (fun (u : Int32 × (Nat → Int32) × (Nat → Int32) × (Nat → Int32) × (Nat → Int64)) => [(k_P cA ad), (k_G cA ad G_size G_inputs), (k_F cA ad u.1), (k_F_kinds cA ad u.2.1), (k_F_sizes cA ad u.2.2.1), (k_F_literals cA ad u.2.2.2.1), (k_L_out cA ad u.2.2.2.2)])) (va_A [(k_P cA ad), (k_G cA ad G_size G_inputs), (k_F cA ad F_size), (k_F_kinds cA ad F_kinds), (k_F_sizes cA ad F_sizes), (k_F_literals cA ad F_literals), (k_L_out cA ad L_out)] sz)) 1 6 (va_A [(k_P cA ad), (k_G cA ad G_size G_inputs), (k_F cA ad F_size), (k_F_kinds cA ad F_kinds), (k_F_sizes cA ad F_sizes), (k_F_literals cA ad F_literals), (k_L_out cA ad L_out)] sz) := by
  refine m_methW (by decide) rfl (Nat.le_of_ble_eq_true rfl) ?_
  intro p e s m below meth c A Q ls hx hb hml hown hts hK ho hTab hA hw hl hE
  have hl : lv_has ls 5 [(0, .ref (ad 0)), (1, .int p1), (2, .int p2), (3, .ref (ad 26))] := hl
  have hown : s.vm.findClass R_L = some m.cls := hown
  have hg : ∀ {w : Cond}, w ∈ gw → w.before _ s = true := fun h => hts _ (List.mem_cons_of_mem _ h)
  unfold wp_L_equalLine at h
  refine lv_aload_n hx hb d_L_equalLine_0 rfl (lv_at hl 3 rfl) ?_
  refine lv_iconst (v := 0) hx hb d_L_equalLine_1 (by decide) ?_
  refine lv_aload_n hx hb d_L_equalLine_2 rfl (lv_at hl 0 rfl) ?_
  refine lv_iload_n hx hb d_L_equalLine_3 rfl (lv_at hl 1 rfl) ?_
  refine lv_iload_n hx hb d_L_equalLine_4 rfl (lv_at hl 2 rfl) ?_
  rcases h with h | h
  · refine m_calli (hr := va_runV (As := [.int p1, .int p2]) (rest := [.int 0, .ref (ad 26)]) ⟨hx, hb, hml, hown, hts⟩ (c_P_equalLine l D cA ad _ G_size G_inputs F_size F_kinds F_sizes F_literals p1 p2 _ h) (cwV 2 hts (ginV gm_397 gm_398 gm_399 gm_1 gm_400) rfl rfl rfl (by decide +kernel) ⟨Nat.le_of_ble_eq_true rfl, Nat.le_of_ble_eq_true rfl⟩) (m_preV 0 0 rfl rfl hK hw [0, 1, 2, 3, 4, 5] rfl rfl) rfl rfl hl.1 rfl (lv_room (Nat.le_of_ble_eq_true rfl)) d_L_equalLine_5 ⟨Nat.zero_le _, Nat.zero_le _⟩) (w2 := (fun (u : Int32 × (Nat → Int32) × (Nat → Int32) × (Nat → Int32)) => [(k_P cA ad), (k_G cA ad G_size G_inputs), (k_F cA ad u.1), (k_F_kinds cA ad u.2.1), (k_F_sizes cA ad u.2.2.1), (k_F_literals cA ad u.2.2.2), (k_L_out cA ad L_out)])) (wr := [(k_L_out cA ad L_out)]) hw hA [0, 1, 2, 3, 4, 5] [6] [1, 2, 3, 4, 5, 6, 0] rfl rfl (by decide) (by decide) (by decide) (fun _ => rfl) (fun r5 u H locs hw h => ?_)
    obtain ⟨F_size_5, F_kinds_5, F_sizes_5, F_literals_5⟩ := u
    have hw : mW D A s.heap [(k_P cA ad), (k_G cA ad G_size G_inputs), (k_F cA ad F_size_5), (k_F_kinds cA ad F_kinds_5), (k_F_sizes cA ad F_sizes_5), (k_F_literals cA ad F_literals_5), (k_L_out cA ad L_out)] H locs := hw
    refine lv_i2l hx hb d_L_equalLine_8 rfl ?_
    refine m_last (ws' := [(k_P cA ad), (k_G cA ad G_size G_inputs), (k_F cA ad F_size_5), (k_F_kinds cA ad F_kinds_5), (k_F_sizes cA ad F_sizes_5), (k_F_literals cA ad F_literals_5), (k_L_out cA ad (vp_updL L_out (0 : Int32).toNatClampNeg r5.toInt64))]) hx hb hK.1 hw 6 2 rfl rfl h.1 rfl d_L_equalLine_9 (fun H locs hw => ?_)
    have h := h.2
    refine lv_goto (tgt := 21) hx hb d_L_equalLine_10 (by decide) ?_
    refine lv_iconst (v := 0) hx hb d_L_equalLine_21 (by decide) ?_
    refine W.widen (k := 1) (n := 6) (Nat.zero_le _) (Nat.zero_le _) ?_
    exact hE 0 (F_size_5, F_kinds_5, F_sizes_5, F_literals_5, (vp_updL L_out (0 : Int32).toNatClampNeg r5.toInt64)) _ _ _ _ h hw d_L_equalLine_22
  · refine x_call (As := [.int p1, .int p2]) (rest := [.int 0, .ref (ad 26)]) ⟨hx, hb, hml, hown, hts⟩ (t_P_equalLine l hl9 D cA ad s0 hs0 _ G_size G_inputs F_size F_kinds F_sizes F_literals p1 p2 _ h) (cwV 2 hts (ginV gm_397 gm_398 gm_399 gm_1 gm_400) rfl rfl rfl (by decide +kernel) ⟨Nat.le_of_ble_eq_true rfl, Nat.le_of_ble_eq_true rfl⟩) (m_preVO 0 0 rfl rfl hK ho hw [0, 1, 2, 3, 4, 5] rfl rfl) rfl hl.1 (lv_room (Nat.le_of_ble_eq_true rfl)) d_L_equalLine_5 ⟨Nat.le_of_ble_eq_true rfl, Nat.le_of_ble_eq_true rfl⟩ (fun k q9 H h hsz hkp => ?_)
    have hw : mW D A s.heap [(k_P cA ad), (k_G cA ad G_size G_inputs), (k_F cA ad F_size), (k_F_kinds cA ad F_kinds), (k_F_sizes cA ad F_sizes), (k_F_literals cA ad F_literals), (k_L_out cA ad L_out)] H [] := m_keep hw hsz hkp
    rcases h with ⟨rfl, h⟩ | ⟨rfl, h⟩
    · refine ⟨[], ⟨0, 10, 13, 13⟩, [⟨0, 10, 17, 17⟩], "java/lang/IndexOutOfBoundsException", by rw [hTab]; rfl, (fun z hz => nomatch hz), by decide, by decide, hg gm_251, (va_Nw.use rfl (hK.2 _ nw_265)), ?_⟩
      refine lv_astore (lv' := [(4, .ref q9), (0, .ref (ad 0)), (1, .int p1), (2, .int p2), (3, .ref (ad 26))]) hx hb d_L_equalLine_13 hl (by decide) rfl (fun ls hl => ?_)
      refine lv_iconst (v := 1) hx hb d_L_equalLine_15 (by decide) ?_
      exact hE 1 (F_size, F_kinds, F_sizes, F_literals, L_out) _ _ _ _ h hw d_L_equalLine_16
    · refine ⟨[⟨0, 10, 13, 13⟩], ⟨0, 10, 17, 17⟩, [], "java/lang/UnsupportedOperationException", by rw [hTab]; rfl, (List.forall_mem_cons.mpr ⟨Or.inr ⟨by decide, "java/lang/IndexOutOfBoundsException", hg gm_251, nc_old hs0 ho (E := "java/lang/UnsupportedOperationException") (nm := "java/lang/IndexOutOfBoundsException") (by decide +kernel)⟩, fun z hz => nomatch hz⟩), by decide, by decide, hg gm_253, (va_Nw.use rfl (hK.2 _ nw_349)), ?_⟩
      refine lv_astore (lv' := [(4, .ref q9), (0, .ref (ad 0)), (1, .int p1), (2, .int p2), (3, .ref (ad 26))]) hx hb d_L_equalLine_17 hl (by decide) rfl (fun ls hl => ?_)
      refine lv_iconst (v := 2) hx hb d_L_equalLine_19 (by decide) ?_
      exact hE 2 (F_size, F_kinds, F_sizes, F_literals, L_out) _ _ _ _ h hw d_L_equalLine_20
def rm_L_check : Room := { frames := 7, cells := 1, slots := 6, locals := 163 }
set_option maxHeartbeats 4000000 in
set_option maxRecDepth 100000 in
theorem c_L_check (l : Launch) (hl9 : l.stackTraces = false) (D : va_G) (cA : Nat → ClassId) (ad : Nat → Nat) (s0 : State) (hs0 : tS s0) (sz : Nat) (G_size : Int32) (G_inputs : Int32) (G_kinds : (Nat → Int32)) (G_lefts : (Nat → Int32)) (G_rights : (Nat → Int32)) (F_size : Int32) (F_kinds : (Nat → Int32)) (F_sizes : (Nat → Int32)) (F_literals : (Nat → Int32)) (F_leftOut : (Nat → Int32)) (U_conflict : Int32) (U_changed : Int32) (U_told : (Nat → Int32)) (L_out : (Nat → Int64)) (p1 : Int32) (post : Int32 → Int32 → Int32 → (Nat → Int32) → (Nat → Int64) → Prop) (h : wp_L_check G_size G_kinds G_lefts G_rights F_size F_kinds F_sizes F_literals F_leftOut U_conflict U_changed U_told L_out p1 post) : Met l y_L_check w_L_check rm_L_check (mPcO D cA s0 [.ref (ad 0), .int p1, .ref (ad 26)] [(k_P cA ad), (k_G cA ad G_size G_inputs), (k_G_kinds cA ad G_kinds), (k_G_lefts cA ad G_lefts), (k_G_rights cA ad G_rights), (k_F cA ad F_size), (k_F_kinds cA ad F_kinds), (k_F_sizes cA ad F_sizes), (k_F_literals cA ad F_literals), (k_F_leftOut cA ad F_leftOut), (k_U cA ad U_conflict U_changed), (k_U_told cA ad U_told), (k_L_out cA ad L_out)] sz) (va_Qi (fun (r : Int32) (u : Int32 × Int32 × (Nat → Int32) × (Nat → Int64)) => post r u.1 u.2.1 u.2.2.1 u.2.2.2) (mB D (va_A [(k_P cA ad), (k_G cA ad G_size G_inputs), (k_G_kinds cA ad G_kinds), (k_G_lefts cA ad G_lefts), (k_G_rights cA ad G_rights), (k_F cA ad F_size), (k_F_kinds cA ad F_kinds), (k_F_sizes cA ad F_sizes), (k_F_literals cA ad F_literals), (k_F_leftOut cA ad F_leftOut), (k_U cA ad U_conflict U_changed), (k_U_told cA ad U_told), (k_L_out cA ad L_out)] sz) (fun (u : Int32 × Int32 × (Nat → Int32) × (Nat → Int64)) => [(k_P cA ad), (k_G cA ad G_size G_inputs), (k_G_kinds cA ad G_kinds), (k_G_lefts cA ad G_lefts), (k_G_rights cA ad G_rights), (k_F cA ad F_size), (k_F_kinds cA ad F_kinds), (k_F_sizes cA ad F_sizes), (k_F_literals cA ad F_literals), (k_F_leftOut cA ad F_leftOut), (k_U cA ad u.1 u.2.1), (k_U_told cA ad u.2.2.1), (k_L_out cA ad u.2.2.2)])) (va_A [(k_P cA ad), (k_G cA ad G_size G_inputs), (k_G_kinds cA ad G_kinds), (k_G_lefts cA ad G_lefts), (k_G_rights cA ad G_rights), (k_F cA ad F_size), (k_F_kinds cA ad F_kinds), (k_F_sizes cA ad F_sizes), (k_F_literals cA ad F_literals), (k_F_leftOut cA ad F_leftOut), (k_U cA ad U_conflict U_changed), (k_U_told cA ad U_told), (k_L_out cA ad L_out)] sz)) 1 6 (va_A [(k_P cA ad), (k_G cA ad G_size G_inputs), (k_G_kinds cA ad G_kinds), (k_G_lefts cA ad G_lefts), (k_G_rights cA ad G_rights), (k_F cA ad F_size), (k_F_kinds cA ad F_kinds), (k_F_sizes cA ad F_sizes), (k_F_literals cA ad F_literals), (k_F_leftOut cA ad F_leftOut), (k_U cA ad U_conflict U_changed), (k_U_told cA ad U_told), (k_L_out cA ad L_out)] sz) := by
  refine m_methW (by decide) rfl (Nat.le_of_ble_eq_true rfl) ?_
  intro p e s m below meth c A Q ls hx hb hml hown hts hK ho hTab hA hw hl hE
  have hl : lv_has ls 4 [(0, .ref (ad 0)), (1, .int p1), (2, .ref (ad 26))] := hl
  have hown : s.vm.findClass R_L = some m.cls := hown
  have hg : ∀ {w : Cond}, w ∈ gw → w.before _ s = true := fun h => hts _ (List.mem_cons_of_mem _ h)
  unfold wp_L_check at h
  refine lv_aload_n hx hb d_L_check_0 rfl (lv_at hl 2 rfl) ?_
  refine lv_iconst (v := 0) hx hb d_L_check_1 (by decide) ?_
  refine lv_aload_n hx hb d_L_check_2 rfl (lv_at hl 0 rfl) ?_
  refine lv_iload_n hx hb d_L_check_3 rfl (lv_at hl 1 rfl) ?_
  rcases h with h | h
  · refine m_calli (hr := va_runV (As := [.int p1]) (rest := [.int 0, .ref (ad 26)]) ⟨hx, hb, hml, hown, hts⟩ (c_P_check l D cA ad _ G_size G_inputs G_kinds G_lefts G_rights F_size F_kinds F_sizes F_literals F_leftOut U_conflict U_changed U_told p1 _ h) (cwV 1 hts (ginV gm_404 gm_405 gm_406 gm_1 gm_407) rfl rfl rfl (by decide +kernel) ⟨Nat.le_of_ble_eq_true rfl, Nat.le_of_ble_eq_true rfl⟩) (m_preV 0 0 rfl rfl hK hw [0, 1, 2, 3, 4, 5, 6, 7, 8, 9, 10, 11] rfl rfl) rfl rfl hl.1 rfl (lv_room (Nat.le_of_ble_eq_true rfl)) d_L_check_4 ⟨Nat.zero_le _, Nat.zero_le _⟩) (w2 := (fun (u : Int32 × Int32 × (Nat → Int32)) => [(k_P cA ad), (k_G cA ad G_size G_inputs), (k_G_kinds cA ad G_kinds), (k_G_lefts cA ad G_lefts), (k_G_rights cA ad G_rights), (k_F cA ad F_size), (k_F_kinds cA ad F_kinds), (k_F_sizes cA ad F_sizes), (k_F_literals cA ad F_literals), (k_F_leftOut cA ad F_leftOut), (k_U cA ad u.1 u.2.1), (k_U_told cA ad u.2.2), (k_L_out cA ad L_out)])) (wr := [(k_L_out cA ad L_out)]) hw hA [0, 1, 2, 3, 4, 5, 6, 7, 8, 9, 10, 11] [12] [1, 2, 3, 4, 5, 6, 7, 8, 9, 10, 11, 12, 0] rfl rfl (by decide) (by decide) (by decide) (fun _ => rfl) (fun r4 u H locs hw h => ?_)
    obtain ⟨U_conflict_4, U_changed_4, U_told_4⟩ := u
    have hw : mW D A s.heap [(k_P cA ad), (k_G cA ad G_size G_inputs), (k_G_kinds cA ad G_kinds), (k_G_lefts cA ad G_lefts), (k_G_rights cA ad G_rights), (k_F cA ad F_size), (k_F_kinds cA ad F_kinds), (k_F_sizes cA ad F_sizes), (k_F_literals cA ad F_literals), (k_F_leftOut cA ad F_leftOut), (k_U cA ad U_conflict_4 U_changed_4), (k_U_told cA ad U_told_4), (k_L_out cA ad L_out)] H locs := hw
    refine lv_i2l hx hb d_L_check_7 rfl ?_
    refine m_last (ws' := [(k_P cA ad), (k_G cA ad G_size G_inputs), (k_G_kinds cA ad G_kinds), (k_G_lefts cA ad G_lefts), (k_G_rights cA ad G_rights), (k_F cA ad F_size), (k_F_kinds cA ad F_kinds), (k_F_sizes cA ad F_sizes), (k_F_literals cA ad F_literals), (k_F_leftOut cA ad F_leftOut), (k_U cA ad U_conflict_4 U_changed_4), (k_U_told cA ad U_told_4), (k_L_out cA ad (vp_updL L_out (0 : Int32).toNatClampNeg r4.toInt64))]) hx hb hK.1 hw 12 2 rfl rfl h.1 rfl d_L_check_8 (fun H locs hw => ?_)
    have h := h.2
    refine lv_goto (tgt := 15) hx hb d_L_check_9 (by decide) ?_
    refine lv_iconst (v := 0) hx hb d_L_check_15 (by decide) ?_
    refine W.widen (k := 1) (n := 6) (Nat.zero_le _) (Nat.zero_le _) ?_
    exact hE 0 (U_conflict_4, U_changed_4, U_told_4, (vp_updL L_out (0 : Int32).toNatClampNeg r4.toInt64)) _ _ _ _ h hw d_L_check_16
  · refine x_call (As := [.int p1]) (rest := [.int 0, .ref (ad 26)]) ⟨hx, hb, hml, hown, hts⟩ (t_P_check l hl9 D cA ad s0 hs0 _ G_size G_inputs G_kinds G_lefts G_rights F_size F_kinds F_sizes F_literals F_leftOut U_conflict U_changed U_told p1 _ h) (cwV 1 hts (ginV gm_404 gm_405 gm_406 gm_1 gm_407) rfl rfl rfl (by decide +kernel) ⟨Nat.le_of_ble_eq_true rfl, Nat.le_of_ble_eq_true rfl⟩) (m_preVO 0 0 rfl rfl hK ho hw [0, 1, 2, 3, 4, 5, 6, 7, 8, 9, 10, 11] rfl rfl) rfl hl.1 (lv_room (Nat.le_of_ble_eq_true rfl)) d_L_check_4 ⟨Nat.le_of_ble_eq_true rfl, Nat.le_of_ble_eq_true rfl⟩ (fun k q9 H h hsz hkp => ?_)
    have hw : mW D A s.heap [(k_P cA ad), (k_G cA ad G_size G_inputs), (k_G_kinds cA ad G_kinds), (k_G_lefts cA ad G_lefts), (k_G_rights cA ad G_rights), (k_F cA ad F_size), (k_F_kinds cA ad F_kinds), (k_F_sizes cA ad F_sizes), (k_F_literals cA ad F_literals), (k_F_leftOut cA ad F_leftOut), (k_U cA ad U_conflict U_changed), (k_U_told cA ad U_told), (k_L_out cA ad L_out)] H [] := m_keep hw hsz hkp
    obtain ⟨rfl, h⟩ := h
    refine ⟨[], ⟨0, 9, 12, 13⟩, [], "java/lang/IndexOutOfBoundsException", by rw [hTab]; rfl, (fun z hz => nomatch hz), by decide, by decide, hg gm_251, (va_Nw.use rfl (hK.2 _ nw_265)), ?_⟩
    refine lv_astore_n (lv' := [(3, .ref q9), (0, .ref (ad 0)), (1, .int p1), (2, .ref (ad 26))]) hx hb d_L_check_12 rfl hl (by decide) rfl (fun ls hl => ?_)
    refine lv_iconst (v := 1) hx hb d_L_check_13 (by decide) ?_
    exact hE 1 (U_conflict, U_changed, U_told, L_out) _ _ _ _ h hw d_L_check_14
def rm_L_good : Room := { frames := 7, cells := 1, slots := 6, locals := 140 }
set_option maxHeartbeats 4000000 in
set_option maxRecDepth 100000 in
theorem c_L_good (l : Launch) (hl9 : l.stackTraces = false) (D : va_G) (cA : Nat → ClassId) (ad : Nat → Nat) (s0 : State) (hs0 : tS s0) (sz : Nat) (G_size : Int32) (G_inputs : Int32) (G_kinds : (Nat → Int32)) (G_lefts : (Nat → Int32)) (G_rights : (Nat → Int32)) (F_size : Int32) (F_kinds : (Nat → Int32)) (F_sizes : (Nat → Int32)) (F_literals : (Nat → Int32)) (F_leftOut : (Nat → Int32)) (U_conflict : Int32) (U_changed : Int32) (U_told : (Nat → Int32)) (L_out : (Nat → Int64)) (p1 : Int32) (post : Int32 → Int32 → Int32 → (Nat → Int32) → (Nat → Int64) → Prop) (h : wp_L_good G_size G_kinds G_lefts G_rights F_size F_kinds F_sizes F_literals F_leftOut U_conflict U_changed U_told L_out p1 post) : Met l y_L_good w_L_good rm_L_good (mPcO D cA s0 [.ref (ad 0), .int p1, .ref (ad 26)] [(k_P cA ad), (k_G cA ad G_size G_inputs), (k_G_kinds cA ad G_kinds), (k_G_lefts cA ad G_lefts), (k_G_rights cA ad G_rights), (k_F cA ad F_size), (k_F_kinds cA ad F_kinds), (k_F_sizes cA ad F_sizes), (k_F_literals cA ad F_literals), (k_F_leftOut cA ad F_leftOut), (k_U cA ad U_conflict U_changed), (k_U_told cA ad U_told), (k_L_out cA ad L_out)] sz) (va_Qi (fun (r : Int32) (u : Int32 × Int32 × (Nat → Int32) × (Nat → Int64)) => post r u.1 u.2.1 u.2.2.1 u.2.2.2) (mB D (va_A [(k_P cA ad), (k_G cA ad G_size G_inputs), (k_G_kinds cA ad G_kinds), (k_G_lefts cA ad G_lefts), (k_G_rights cA ad G_rights), (k_F cA ad F_size), (k_F_kinds cA ad F_kinds), (k_F_sizes cA ad F_sizes), (k_F_literals cA ad F_literals), (k_F_leftOut cA ad F_leftOut), (k_U cA ad U_conflict U_changed), (k_U_told cA ad U_told), (k_L_out cA ad L_out)] sz) (fun (u : Int32 × Int32 × (Nat → Int32) × (Nat → Int64)) => [(k_P cA ad), (k_G cA ad G_size G_inputs), (k_G_kinds cA ad G_kinds), (k_G_lefts cA ad G_lefts), (k_G_rights cA ad G_rights), (k_F cA ad F_size), (k_F_kinds cA ad F_kinds), (k_F_sizes cA ad F_sizes), (k_F_literals cA ad F_literals), (k_F_leftOut cA ad F_leftOut), (k_U cA ad u.1 u.2.1), (k_U_told cA ad u.2.2.1), (k_L_out cA ad u.2.2.2)])) (va_A [(k_P cA ad), (k_G cA ad G_size G_inputs), (k_G_kinds cA ad G_kinds), (k_G_lefts cA ad G_lefts), (k_G_rights cA ad G_rights), (k_F cA ad F_size), (k_F_kinds cA ad F_kinds), (k_F_sizes cA ad F_sizes), (k_F_literals cA ad F_literals), (k_F_leftOut cA ad F_leftOut), (k_U cA ad U_conflict U_changed), (k_U_told cA ad U_told), (k_L_out cA ad L_out)] sz)) 1 6 (va_A [(k_P cA ad), (k_G cA ad G_size G_inputs), (k_G_kinds cA ad G_kinds), (k_G_lefts cA ad G_lefts), (k_G_rights cA ad G_rights), (k_F cA ad F_size), (k_F_kinds cA ad F_kinds), (k_F_sizes cA ad F_sizes), (k_F_literals cA ad F_literals), (k_F_leftOut cA ad F_leftOut), (k_U cA ad U_conflict U_changed), (k_U_told cA ad U_told), (k_L_out cA ad L_out)] sz) := by
  refine m_methW (by decide) rfl (Nat.le_of_ble_eq_true rfl) ?_
  intro p e s m below meth c A Q ls hx hb hml hown hts hK ho hTab hA hw hl hE
  have hl : lv_has ls 4 [(0, .ref (ad 0)), (1, .int p1), (2, .ref (ad 26))] := hl
  have hown : s.vm.findClass R_L = some m.cls := hown
  have hg : ∀ {w : Cond}, w ∈ gw → w.before _ s = true := fun h => hts _ (List.mem_cons_of_mem _ h)
  have j15 : ∀ (s0 : Int64) (s1 : Int32) (U_conflict : Int32) (U_changed : Int32) (U_told : (Nat → Int32)) (L_out : (Nat → Int64)) (H : Heap) (locs : List Loc) (ls : Array Slot), s_L_good_15 G_size G_kinds G_lefts G_rights F_size F_kinds F_sizes F_literals F_leftOut p1 post s0 s1 U_conflict U_changed U_told L_out → mW D A s.heap [(k_P cA ad), (k_G cA ad G_size G_inputs), (k_G_kinds cA ad G_kinds), (k_G_lefts cA ad G_lefts), (k_G_rights cA ad G_rights), (k_F cA ad F_size), (k_F_kinds cA ad F_kinds), (k_F_sizes cA ad F_sizes), (k_F_literals cA ad F_literals), (k_F_leftOut cA ad F_leftOut), (k_U cA ad U_conflict U_changed), (k_U_told cA ad U_told), (k_L_out cA ad L_out)] H locs → lv_has ls 4 [] → W p l e rm_L_good s m [.ref (ad 0), .int p1, .ref (ad 26)].toArray below meth c H locs 0 0 Q (F0 m 15 ls [.long s0, .int s1, .ref (ad 26)]) := by
    intro s0 s1 U_conflict U_changed U_told L_out H locs ls h hw hl
    unfold s_L_good_15 at h
    refine m_last (ws' := [(k_P cA ad), (k_G cA ad G_size G_inputs), (k_G_kinds cA ad G_kinds), (k_G_lefts cA ad G_lefts), (k_G_rights cA ad G_rights), (k_F cA ad F_size), (k_F_kinds cA ad F_kinds), (k_F_sizes cA ad F_sizes), (k_F_literals cA ad F_literals), (k_F_leftOut cA ad F_leftOut), (k_U cA ad U_conflict U_changed), (k_U_told cA ad U_told), (k_L_out cA ad (vp_updL L_out s1.toNatClampNeg s0))]) hx hb hK.1 hw 12 2 rfl rfl h.1 rfl d_L_good_15 (fun H locs hw => ?_)
    have h := h.2
    refine lv_goto (tgt := 22) hx hb d_L_good_16 (by decide) ?_
    refine lv_iconst (v := 0) hx hb d_L_good_22 (by decide) ?_
    refine W.widen (k := 1) (n := 6) (Nat.zero_le _) (Nat.zero_le _) ?_
    exact hE 0 (U_conflict, U_changed, U_told, (vp_updL L_out s1.toNatClampNeg s0)) _ _ _ _ h hw d_L_good_23
  unfold wp_L_good at h
  refine lv_aload_n hx hb d_L_good_0 rfl (lv_at hl 2 rfl) ?_
  refine lv_iconst (v := 0) hx hb d_L_good_1 (by decide) ?_
  refine lv_aload_n hx hb d_L_good_2 rfl (lv_at hl 0 rfl) ?_
  refine lv_iload_n hx hb d_L_good_3 rfl (lv_at hl 1 rfl) ?_
  rcases h with h | h
  · refine m_calli (hr := va_runV (As := [.int p1]) (rest := [.int 0, .ref (ad 26)]) ⟨hx, hb, hml, hown, hts⟩ (c_P_good l D cA ad _ G_size G_inputs G_kinds G_lefts G_rights F_size F_kinds F_sizes F_literals F_leftOut U_conflict U_changed U_told p1 _ h) (cwV 1 hts (ginV gm_463 gm_464 gm_465 gm_1 gm_466) rfl rfl rfl (by decide +kernel) ⟨Nat.le_of_ble_eq_true rfl, Nat.le_of_ble_eq_true rfl⟩) (m_preV 0 0 rfl rfl hK hw [0, 1, 2, 3, 4, 5, 6, 7, 8, 9, 10, 11] rfl rfl) rfl rfl hl.1 rfl (lv_room (Nat.le_of_ble_eq_true rfl)) d_L_good_4 ⟨Nat.zero_le _, Nat.zero_le _⟩) (w2 := (fun (u : Int32 × Int32 × (Nat → Int32)) => [(k_P cA ad), (k_G cA ad G_size G_inputs), (k_G_kinds cA ad G_kinds), (k_G_lefts cA ad G_lefts), (k_G_rights cA ad G_rights), (k_F cA ad F_size), (k_F_kinds cA ad F_kinds), (k_F_sizes cA ad F_sizes), (k_F_literals cA ad F_literals), (k_F_leftOut cA ad F_leftOut), (k_U cA ad u.1 u.2.1), (k_U_told cA ad u.2.2), (k_L_out cA ad L_out)])) (wr := [(k_L_out cA ad L_out)]) hw hA [0, 1, 2, 3, 4, 5, 6, 7, 8, 9, 10, 11] [12] [1, 2, 3, 4, 5, 6, 7, 8, 9, 10, 11, 12, 0] rfl rfl (by decide) (by decide) (by decide) (fun _ => rfl) (fun r4 u H locs hw h => ?_)
    obtain ⟨U_conflict_4, U_changed_4, U_told_4⟩ := u
    have hw : mW D A s.heap [(k_P cA ad), (k_G cA ad G_size G_inputs), (k_G_kinds cA ad G_kinds), (k_G_lefts cA ad G_lefts), (k_G_rights cA ad G_rights), (k_F cA ad F_size), (k_F_kinds cA ad F_kinds), (k_F_sizes cA ad F_sizes), (k_F_literals cA ad F_literals), (k_F_leftOut cA ad F_leftOut), (k_U cA ad U_conflict_4 U_changed_4), (k_U_told cA ad U_told_4), (k_L_out cA ad L_out)] H locs := hw
    refine lv_if_eq (tgt := 14) hx hb d_L_good_7 (by decide) (fun hc => ?_) (fun hc => ?_)
    · have h := h.1 hc
      refine lv_lconst (v := 0) hx hb d_L_good_14 rfl ?_
      exact j15 _ _ _ _ _ _ _ _ _ h hw (lv_sub hl [] rfl)
    · have h := h.2 hc
      refine lv_lconst (v := 1) hx hb d_L_good_10 rfl ?_
      refine lv_goto (tgt := 15) hx hb d_L_good_11 (by decide) ?_
      exact j15 _ _ _ _ _ _ _ _ _ h hw (lv_sub hl [] rfl)
  · refine x_call (As := [.int p1]) (rest := [.int 0, .ref (ad 26)]) ⟨hx, hb, hml, hown, hts⟩ (t_P_good l hl9 D cA ad s0 hs0 _ G_size G_inputs G_kinds G_lefts G_rights F_size F_kinds F_sizes F_literals F_leftOut U_conflict U_changed U_told p1 _ h) (cwV 1 hts (ginV gm_463 gm_464 gm_465 gm_1 gm_466) rfl rfl rfl (by decide +kernel) ⟨Nat.le_of_ble_eq_true rfl, Nat.le_of_ble_eq_true rfl⟩) (m_preVO 0 0 rfl rfl hK ho hw [0, 1, 2, 3, 4, 5, 6, 7, 8, 9, 10, 11] rfl rfl) rfl hl.1 (lv_room (Nat.le_of_ble_eq_true rfl)) d_L_good_4 ⟨Nat.le_of_ble_eq_true rfl, Nat.le_of_ble_eq_true rfl⟩ (fun k q9 H h hsz hkp => ?_)
    have hw : mW D A s.heap [(k_P cA ad), (k_G cA ad G_size G_inputs), (k_G_kinds cA ad G_kinds), (k_G_lefts cA ad G_lefts), (k_G_rights cA ad G_rights), (k_F cA ad F_size), (k_F_kinds cA ad F_kinds), (k_F_sizes cA ad F_sizes), (k_F_literals cA ad F_literals), (k_F_leftOut cA ad F_leftOut), (k_U cA ad U_conflict U_changed), (k_U_told cA ad U_told), (k_L_out cA ad L_out)] H [] := m_keep hw hsz hkp
    obtain ⟨rfl, h⟩ := h
    refine ⟨[], ⟨0, 16, 19, 13⟩, [], "java/lang/IndexOutOfBoundsException", by rw [hTab]; rfl, (fun z hz => nomatch hz), by decide, by decide, hg gm_251, (va_Nw.use rfl (hK.2 _ nw_265)), ?_⟩
    refine lv_astore_n (lv' := [(3, .ref q9), (0, .ref (ad 0)), (1, .int p1), (2, .ref (ad 26))]) hx hb d_L_good_19 rfl hl (by decide) rfl (fun ls hl => ?_)
    refine lv_iconst (v := 1) hx hb d_L_good_20 (by decide) ?_
    exact hE 1 (U_conflict, U_changed, U_told, L_out) _ _ _ _ h hw d_L_good_21
def rm_L_lineAt : Room := { frames := 7, cells := 1, slots := 6, locals := 104 }
set_option maxHeartbeats 4000000 in
set_option maxRecDepth 100000 in
theorem c_L_lineAt (l : Launch) (hl9 : l.stackTraces = false) (D : va_G) (cA : Nat → ClassId) (ad : Nat → Nat) (s0 : State) (hs0 : tS s0) (sz : Nat) (F_size : Int32) (F_kinds : (Nat → Int32)) (F_sizes : (Nat → Int32)) (F_literals : (Nat → Int32)) (L_out : (Nat → Int64)) (p1 : Int32) (p2 : Int32) (post : Int32 → (Nat → Int64) → Prop) (h : wp_L_lineAt F_size F_kinds F_sizes F_literals L_out p1 p2 post) : Met l y_L_lineAt w_L_lineAt rm_L_lineAt (mPcO D cA s0 [.ref (ad 0), .int p1, .int p2, .ref (ad 26)] [(k_P cA ad), (k_F cA ad F_size), (k_F_kinds cA ad F_kinds), (k_F_sizes cA ad F_sizes), (k_F_literals cA ad F_literals), (k_L_out cA ad L_out)] sz) (va_Qi (fun (r : Int32) (u : (Nat → Int64)) => post r u) (mB D (va_A [(k_P cA ad), (k_F cA ad F_size), (k_F_kinds cA ad F_kinds), (k_F_sizes cA ad F_sizes), (k_F_literals cA ad F_literals), (k_L_out cA ad L_out)] sz) (fun (u : (Nat → Int64)) => [(k_P cA ad), (k_F cA ad F_size), (k_F_kinds cA ad F_kinds), (k_F_sizes cA ad F_sizes), (k_F_literals cA ad F_literals), (k_L_out cA ad u)])) (va_A [(k_P cA ad), (k_F cA ad F_size), (k_F_kinds cA ad F_kinds), (k_F_sizes cA ad F_sizes), (k_F_literals cA ad F_literals), (k_L_out cA ad L_out)] sz)) 1 6 (va_A [(k_P cA ad), (k_F cA ad F_size), (k_F_kinds cA ad F_kinds), (k_F_sizes cA ad F_sizes), (k_F_literals cA ad F_literals), (k_L_out cA ad L_out)] sz) := by
  refine m_methW (by decide) rfl (Nat.le_of_ble_eq_true rfl) ?_
  intro p e s m below meth c A Q ls hx hb hml hown hts hK ho hTab hA hw hl hE
  have hl : lv_has ls 5 [(0, .ref (ad 0)), (1, .int p1), (2, .int p2), (3, .ref (ad 26))] := hl
  have hown : s.vm.findClass R_L = some m.cls := hown
  have hg : ∀ {w : Cond}, w ∈ gw → w.before _ s = true := fun h => hts _ (List.mem_cons_of_mem _ h)
  unfold wp_L_lineAt at h
  refine lv_aload_n hx hb d_L_lineAt_0 rfl (lv_at hl 3 rfl) ?_
  refine lv_iconst (v := 0) hx hb d_L_lineAt_1 (by decide) ?_
  refine lv_aload_n hx hb d_L_lineAt_2 rfl (lv_at hl 0 rfl) ?_
  refine lv_iload_n hx hb d_L_lineAt_3 rfl (lv_at hl 1 rfl) ?_
  refine lv_iload_n hx hb d_L_lineAt_4 rfl (lv_at hl 2 rfl) ?_
  rcases h with h | h
  · refine m_calli (hr := va_runV (As := [.int p1, .int p2]) (rest := [.int 0, .ref (ad 26)]) ⟨hx, hb, hml, hown, hts⟩ (c_P_lineAt l D cA ad _ F_size F_kinds F_sizes F_literals p1 p2 _ h) (cwV 2 hts (ginV gm_471 gm_472 gm_473 gm_1 gm_474) rfl rfl rfl (by decide +kernel) ⟨Nat.le_of_ble_eq_true rfl, Nat.le_of_ble_eq_true rfl⟩) (m_preV 0 0 rfl rfl hK hw [0, 1, 2, 3, 4] rfl rfl) rfl rfl hl.1 rfl (lv_room (Nat.le_of_ble_eq_true rfl)) d_L_lineAt_5 ⟨Nat.zero_le _, Nat.zero_le _⟩) (w2 := (fun (_ : Unit) => [(k_P cA ad), (k_F cA ad F_size), (k_F_kinds cA ad F_kinds), (k_F_sizes cA ad F_sizes), (k_F_literals cA ad F_literals), (k_L_out cA ad L_out)])) (wr := [(k_L_out cA ad L_out)]) hw hA [0, 1, 2, 3, 4] [5] [1, 2, 3, 4, 5, 0] rfl rfl (by decide) (by decide) (by decide) (fun _ => rfl) (fun r5 u H locs hw h => ?_)
    refine lv_i2l hx hb d_L_lineAt_8 rfl ?_
    refine m_last (ws' := [(k_P cA ad), (k_F cA ad F_size), (k_F_kinds cA ad F_kinds), (k_F_sizes cA ad F_sizes), (k_F_literals cA ad F_literals), (k_L_out cA ad (vp_updL L_out (0 : Int32).toNatClampNeg r5.toInt64))]) hx hb hK.1 hw 5 2 rfl rfl h.1 rfl d_L_lineAt_9 (fun H locs hw => ?_)
    have h := h.2
    refine lv_goto (tgt := 17) hx hb d_L_lineAt_10 (by decide) ?_
    refine lv_iconst (v := 0) hx hb d_L_lineAt_17 (by decide) ?_
    refine W.widen (k := 1) (n := 6) (Nat.zero_le _) (Nat.zero_le _) ?_
    exact hE 0 ((vp_updL L_out (0 : Int32).toNatClampNeg r5.toInt64)) _ _ _ _ h hw d_L_lineAt_18
  · refine x_call (As := [.int p1, .int p2]) (rest := [.int 0, .ref (ad 26)]) ⟨hx, hb, hml, hown, hts⟩ (t_P_lineAt l hl9 D cA ad s0 hs0 _ F_size F_kinds F_sizes F_literals p1 p2 _ h) (cwV 2 hts (ginV gm_471 gm_472 gm_473 gm_1 gm_474) rfl rfl rfl (by decide +kernel) ⟨Nat.le_of_ble_eq_true rfl, Nat.le_of_ble_eq_true rfl⟩) (m_preVO 0 0 rfl rfl hK ho hw [0, 1, 2, 3, 4] rfl rfl) rfl hl.1 (lv_room (Nat.le_of_ble_eq_true rfl)) d_L_lineAt_5 ⟨Nat.le_of_ble_eq_true rfl, Nat.le_of_ble_eq_true rfl⟩ (fun k q9 H h hsz hkp => ?_)
    have hw : mW D A s.heap [(k_P cA ad), (k_F cA ad F_size), (k_F_kinds cA ad F_kinds), (k_F_sizes cA ad F_sizes), (k_F_literals cA ad F_literals), (k_L_out cA ad L_out)] H [] := m_keep hw hsz hkp
    obtain ⟨rfl, h⟩ := h
    refine ⟨[], ⟨0, 10, 13, 13⟩, [], "java/lang/IndexOutOfBoundsException", by rw [hTab]; rfl, (fun z hz => nomatch hz), by decide, by decide, hg gm_251, (va_Nw.use rfl (hK.2 _ nw_265)), ?_⟩
    refine lv_astore (lv' := [(4, .ref q9), (0, .ref (ad 0)), (1, .int p1), (2, .int p2), (3, .ref (ad 26))]) hx hb d_L_lineAt_13 hl (by decide) rfl (fun ls hl => ?_)
    refine lv_iconst (v := 1) hx hb d_L_lineAt_15 (by decide) ?_
    exact hE 1 (L_out) _ _ _ _ h hw d_L_lineAt_16
def rm_L_implied : Room := { frames := 7, cells := 1, slots := 6, locals := 106 }
set_option maxHeartbeats 4000000 in
set_option maxRecDepth 100000 in
theorem c_L_implied (l : Launch) (hl9 : l.stackTraces = false) (D : va_G) (cA : Nat → ClassId) (ad : Nat → Nat) (s0 : State) (hs0 : tS s0) (sz : Nat) (G_size : Int32) (G_inputs : Int32) (G_kinds : (Nat → Int32)) (G_lefts : (Nat → Int32)) (G_rights : (Nat → Int32)) (F_size : Int32) (F_kinds : (Nat → Int32)) (F_sizes : (Nat → Int32)) (F_literals : (Nat → Int32)) (F_leftOut : (Nat → Int32)) (U_conflict : Int32) (U_changed : Int32) (U_told : (Nat → Int32)) (L_out : (Nat → Int64)) (p1 : Int32) (p2 : Int32) (p3 : Int32) (p4 : Int32) (post : Int32 → Int32 → Int32 → (Nat → Int32) → (Nat → Int64) → Prop) (h : wp_L_implied G_size G_kinds G_lefts G_rights F_size F_kinds F_sizes F_literals F_leftOut U_conflict U_changed U_told L_out p1 p2 p3 p4 post) : Met l y_L_implied w_L_implied rm_L_implied (mPcO D cA s0 [.ref (ad 0), .int p1, .int p2, .int p3, .int p4, .ref (ad 26)] [(k_P cA ad), (k_G cA ad G_size G_inputs), (k_G_kinds cA ad G_kinds), (k_G_lefts cA ad G_lefts), (k_G_rights cA ad G_rights), (k_F cA ad F_size), (k_F_kinds cA ad F_kinds), (k_F_sizes cA ad F_sizes), (k_F_literals cA ad F_literals), (k_F_leftOut cA ad F_leftOut), (k_U cA ad U_conflict U_changed), (k_U_told cA ad U_told), (k_L_out cA ad L_out)] sz) (va_Qi (fun (r : Int32) (u : Int32 × Int32 × (Nat → Int32) × (Nat → Int64)) => post r u.1 u.2.1 u.2.2.1 u.2.2.2) (mB D (va_A [(k_P cA ad), (k_G cA ad G_size G_inputs), (k_G_kinds cA ad G_kinds), (k_G_lefts cA ad G_lefts), (k_G_rights cA ad G_rights), (k_F cA ad F_size), (k_F_kinds cA ad F_kinds), (k_F_sizes cA ad F_sizes), (k_F_literals cA ad F_literals), (k_F_leftOut cA ad F_leftOut), (k_U cA ad U_conflict U_changed), (k_U_told cA ad U_told), (k_L_out cA ad L_out)] sz) (fun (u : Int32 × Int32 × (Nat → Int32) × (Nat → Int64)) => [(k_P cA ad), (k_G cA ad G_size G_inputs), (k_G_kinds cA ad G_kinds), (k_G_lefts cA ad G_lefts), (k_G_rights cA ad G_rights), (k_F cA ad F_size), (k_F_kinds cA ad F_kinds), (k_F_sizes cA ad F_sizes), (k_F_literals cA ad F_literals), (k_F_leftOut cA ad F_leftOut), (k_U cA ad u.1 u.2.1), (k_U_told cA ad u.2.2.1), (k_L_out cA ad u.2.2.2)])) (va_A [(k_P cA ad), (k_G cA ad G_size G_inputs), (k_G_kinds cA ad G_kinds), (k_G_lefts cA ad G_lefts), (k_G_rights cA ad G_rights), (k_F cA ad F_size), (k_F_kinds cA ad F_kinds), (k_F_sizes cA ad F_sizes), (k_F_literals cA ad F_literals), (k_F_leftOut cA ad F_leftOut), (k_U cA ad U_conflict U_changed), (k_U_told cA ad U_told), (k_L_out cA ad L_out)] sz)) 1 6 (va_A [(k_P cA ad), (k_G cA ad G_size G_inputs), (k_G_kinds cA ad G_kinds), (k_G_lefts cA ad G_lefts), (k_G_rights cA ad G_rights), (k_F cA ad F_size), (k_F_kinds cA ad F_kinds), (k_F_sizes cA ad F_sizes), (k_F_literals cA ad F_literals), (k_F_leftOut cA ad F_leftOut), (k_U cA ad U_conflict U_changed), (k_U_told cA ad U_told), (k_L_out cA ad L_out)] sz) := by
  refine m_methW (by decide) rfl (Nat.le_of_ble_eq_true rfl) ?_
  intro p e s m below meth c A Q ls hx hb hml hown hts hK ho hTab hA hw hl hE
  have hl : lv_has ls 7 [(0, .ref (ad 0)), (1, .int p1), (2, .int p2), (3, .int p3), (4, .int p4), (5, .ref (ad 26))] := hl
  have hown : s.vm.findClass R_L = some m.cls := hown
  have hg : ∀ {w : Cond}, w ∈ gw → w.before _ s = true := fun h => hts _ (List.mem_cons_of_mem _ h)
  unfold wp_L_implied at h
  refine lv_aload hx hb d_L_implied_0 (lv_at hl 5 rfl) ?_
  refine lv_iconst (v := 0) hx hb d_L_implied_2 (by decide) ?_
  refine lv_aload_n hx hb d_L_implied_3 rfl (lv_at hl 0 rfl) ?_
  refine lv_iload_n hx hb d_L_implied_4 rfl (lv_at hl 1 rfl) ?_
  refine lv_iload_n hx hb d_L_implied_5 rfl (lv_at hl 2 rfl) ?_
  refine lv_iload_n hx hb d_L_implied_6 rfl (lv_at hl 3 rfl) ?_
  refine lv_iload hx hb d_L_implied_7 (lv_at hl 4 rfl) ?_
  rcases h with h | h
  · refine m_calli (hr := va_runV (As := [.int p1, .int p2, .int p3, .int p4]) (rest := [.int 0, .ref (ad 26)]) ⟨hx, hb, hml, hown, hts⟩ (c_P_implied l D cA ad _ G_size G_inputs G_kinds G_lefts G_rights F_size F_kinds F_sizes F_literals F_leftOut U_conflict U_changed U_told p1 p2 p3 p4 _ h) (cwV 4 hts (ginV gm_480 gm_481 gm_482 gm_1 gm_483) rfl rfl rfl (by decide +kernel) ⟨Nat.le_of_ble_eq_true rfl, Nat.le_of_ble_eq_true rfl⟩) (m_preV 0 0 rfl rfl hK hw [0, 1, 2, 3, 4, 5, 6, 7, 8, 9, 10, 11] rfl rfl) rfl rfl hl.1 rfl (lv_room (Nat.le_of_ble_eq_true rfl)) d_L_implied_9 ⟨Nat.zero_le _, Nat.zero_le _⟩) (w2 := (fun (u : Int32 × Int32 × (Nat → Int32)) => [(k_P cA ad), (k_G cA ad G_size G_inputs), (k_G_kinds cA ad G_kinds), (k_G_lefts cA ad G_lefts), (k_G_rights cA ad G_rights), (k_F cA ad F_size), (k_F_kinds cA ad F_kinds), (k_F_sizes cA ad F_sizes), (k_F_literals cA ad F_literals), (k_F_leftOut cA ad F_leftOut), (k_U cA ad u.1 u.2.1), (k_U_told cA ad u.2.2), (k_L_out cA ad L_out)])) (wr := [(k_L_out cA ad L_out)]) hw hA [0, 1, 2, 3, 4, 5, 6, 7, 8, 9, 10, 11] [12] [1, 2, 3, 4, 5, 6, 7, 8, 9, 10, 11, 12, 0] rfl rfl (by decide) (by decide) (by decide) (fun _ => rfl) (fun r9 u H locs hw h => ?_)
    obtain ⟨U_conflict_9, U_changed_9, U_told_9⟩ := u
    have hw : mW D A s.heap [(k_P cA ad), (k_G cA ad G_size G_inputs), (k_G_kinds cA ad G_kinds), (k_G_lefts cA ad G_lefts), (k_G_rights cA ad G_rights), (k_F cA ad F_size), (k_F_kinds cA ad F_kinds), (k_F_sizes cA ad F_sizes), (k_F_literals cA ad F_literals), (k_F_leftOut cA ad F_leftOut), (k_U cA ad U_conflict_9 U_changed_9), (k_U_told cA ad U_told_9), (k_L_out cA ad L_out)] H locs := hw
    refine lv_i2l hx hb d_L_implied_12 rfl ?_
    refine m_last (ws' := [(k_P cA ad), (k_G cA ad G_size G_inputs), (k_G_kinds cA ad G_kinds), (k_G_lefts cA ad G_lefts), (k_G_rights cA ad G_rights), (k_F cA ad F_size), (k_F_kinds cA ad F_kinds), (k_F_sizes cA ad F_sizes), (k_F_literals cA ad F_literals), (k_F_leftOut cA ad F_leftOut), (k_U cA ad U_conflict_9 U_changed_9), (k_U_told cA ad U_told_9), (k_L_out cA ad (vp_updL L_out (0 : Int32).toNatClampNeg r9.toInt64))]) hx hb hK.1 hw 12 2 rfl rfl h.1 rfl d_L_implied_13 (fun H locs hw => ?_)
    have h := h.2
    refine lv_goto (tgt := 21) hx hb d_L_implied_14 (by decide) ?_
    refine lv_iconst (v := 0) hx hb d_L_implied_21 (by decide) ?_
    refine W.widen (k := 1) (n := 6) (Nat.zero_le _) (Nat.zero_le _) ?_
    exact hE 0 (U_conflict_9, U_changed_9, U_told_9, (vp_updL L_out (0 : Int32).toNatClampNeg r9.toInt64)) _ _ _ _ h hw d_L_implied_22
  · refine x_call (As := [.int p1, .int p2, .int p3, .int p4]) (rest := [.int 0, .ref (ad 26)]) ⟨hx, hb, hml, hown, hts⟩ (t_P_implied l hl9 D cA ad s0 hs0 _ G_size G_inputs G_kinds G_lefts G_rights F_size F_kinds F_sizes F_literals F_leftOut U_conflict U_changed U_told p1 p2 p3 p4 _ h) (cwV 4 hts (ginV gm_480 gm_481 gm_482 gm_1 gm_483) rfl rfl rfl (by decide +kernel) ⟨Nat.le_of_ble_eq_true rfl, Nat.le_of_ble_eq_true rfl⟩) (m_preVO 0 0 rfl rfl hK ho hw [0, 1, 2, 3, 4, 5, 6, 7, 8, 9, 10, 11] rfl rfl) rfl hl.1 (lv_room (Nat.le_of_ble_eq_true rfl)) d_L_implied_9 ⟨Nat.le_of_ble_eq_true rfl, Nat.le_of_ble_eq_true rfl⟩ (fun k q9 H h hsz hkp => ?_)
    have hw : mW D A s.heap [(k_P cA ad), (k_G cA ad G_size G_inputs), (k_G_kinds cA ad G_kinds), (k_G_lefts cA ad G_lefts), (k_G_rights cA ad G_rights), (k_F cA ad F_size), (k_F_kinds cA ad F_kinds), (k_F_sizes cA ad F_sizes), (k_F_literals cA ad F_literals), (k_F_leftOut cA ad F_leftOut), (k_U cA ad U_conflict U_changed), (k_U_told cA ad U_told), (k_L_out cA ad L_out)] H [] := m_keep hw hsz hkp
    obtain ⟨rfl, h⟩ := h
    refine ⟨[], ⟨0, 14, 17, 13⟩, [], "java/lang/IndexOutOfBoundsException", by rw [hTab]; rfl, (fun z hz => nomatch hz), by decide, by decide, hg gm_251, (va_Nw.use rfl (hK.2 _ nw_265)), ?_⟩
    refine lv_astore (lv' := [(6, .ref q9), (0, .ref (ad 0)), (1, .int p1), (2, .int p2), (3, .int p3), (4, .int p4), (5, .ref (ad 26))]) hx hb d_L_implied_17 hl (by decide) rfl (fun ls hl => ?_)
    refine lv_iconst (v := 1) hx hb d_L_implied_19 (by decide) ?_
    exact hE 1 (U_conflict, U_changed, U_told, L_out) _ _ _ _ h hw d_L_implied_20
def rm_L_shorten : Room := { frames := 7, cells := 1, slots := 6, locals := 164 }
set_option maxHeartbeats 4000000 in
set_option maxRecDepth 100000 in
theorem c_L_shorten (l : Launch) (hl9 : l.stackTraces = false) (D : va_G) (cA : Nat → ClassId) (ad : Nat → Nat) (s0 : State) (hs0 : tS s0) (sz : Nat) (G_size : Int32) (G_inputs : Int32) (G_kinds : (Nat → Int32)) (G_lefts : (Nat → Int32)) (G_rights : (Nat → Int32)) (F_size : Int32) (F_kinds : (Nat → Int32)) (F_sizes : (Nat → Int32)) (F_literals : (Nat → Int32)) (F_leftOut : (Nat → Int32)) (U_conflict : Int32) (U_changed : Int32) (U_told : (Nat → Int32)) (L_out : (Nat → Int64)) (p1 : Int32) (post : Int32 → Int32 → (Nat → Int32) → (Nat → Int32) → (Nat → Int32) → (Nat → Int32) → Int32 → Int32 → (Nat → Int32) → (Nat → Int64) → Prop) (h : wp_L_shorten G_size G_kinds G_lefts G_rights F_size F_kinds F_sizes F_literals F_leftOut U_conflict U_changed U_told L_out p1 post) : Met l y_L_shorten w_L_shorten rm_L_shorten (mPcO D cA s0 [.ref (ad 0), .int p1, .ref (ad 26)] [(k_P cA ad), (k_G cA ad G_size G_inputs), (k_G_kinds cA ad G_kinds), (k_G_lefts cA ad G_lefts), (k_G_rights cA ad G_rights), (k_F cA ad F_size), (k_F_kinds cA ad F_kinds), (k_F_sizes cA ad F_sizes), (k_F_literals cA ad F_literals), (k_F_leftOut cA ad F_leftOut), (k_U cA ad U_conflict U_changed), (k_U_told cA ad U_told), (k_L_out cA ad L_out)] sz) (va_Qi (fun (r : Int32) (u : Int32 × (Nat → Int32) × (Nat → Int32) × (Nat → Int32) × (Nat → Int32) × Int32 × Int32 × (Nat → Int32) × (Nat → Int64)) => post r u.1 u.2.1 u.2.2.1 u.2.2.2.1 u.2.2.2.2.1 u.2.2.2.2.2.1 u.2.2.2.2.2.2.1 u.2.2.2.2.2.2.2.1 u.2.2.2.2.2.2.2.2) (mB D (va_A [(k_P cA ad), (k_G cA ad G_size G_inputs), (k_G_kinds cA ad G_kinds), (k_G_lefts cA ad G_lefts), (k_G_rights cA ad G_rights), (k_F cA ad F_size), (k_F_kinds cA ad F_kinds), (k_F_sizes cA ad F_sizes), (k_F_literals cA ad F_literals), (k_F_leftOut cA ad F_leftOut), (k_U cA ad U_conflict U_changed), (k_U_told cA ad U_told), (k_L_out cA ad L_out)] sz) (fun (u : Int32 × (Nat → Int32) × (Nat → Int32) × (Nat → Int32) × (Nat → Int32) × Int32 × Int32 × (Nat → Int32) × (Nat → Int64)) => [(k_P cA ad), (k_G cA ad G_size G_inputs), (k_G_kinds cA ad G_kinds), (k_G_lefts cA ad G_lefts), (k_G_rights cA ad G_rights), (k_F cA ad u.1), (k_F_kinds cA ad u.2.1), (k_F_sizes cA ad u.2.2.1), (k_F_literals cA ad u.2.2.2.1), (k_F_leftOut cA ad u.2.2.2.2.1), (k_U cA ad u.2.2.2.2.2.1 u.2.2.2.2.2.2.1), (k_U_told cA ad u.2.2.2.2.2.2.2.1), (k_L_out cA ad u.2.2.2.2.2.2.2.2)])) (va_A [(k_P cA ad), (k_G cA ad G_size G_inputs), (k_G_kinds cA ad G_kinds), (k_G_lefts cA ad G_lefts), (k_G_rights cA ad G_rights), (k_F cA ad F_size), (k_F_kinds cA ad F_kinds), (k_F_sizes cA ad F_sizes), (k_F_literals cA ad F_literals), (k_F_leftOut cA ad F_leftOut), (k_U cA ad U_conflict U_changed), (k_U_told cA ad U_told), (k_L_out cA ad L_out)] sz)) 1 6 (va_A [(k_P cA ad), (k_G cA ad G_size G_inputs), (k_G_kinds cA ad G_kinds), (k_G_lefts cA ad G_lefts), (k_G_rights cA ad G_rights), (k_F cA ad F_size), (k_F_kinds cA ad F_kinds), (k_F_sizes cA ad F_sizes), (k_F_literals cA ad F_literals), (k_F_leftOut cA ad F_leftOut), (k_U cA ad U_conflict U_changed), (k_U_told cA ad U_told), (k_L_out cA ad L_out)] sz) := by
  refine m_methW (by decide) rfl (Nat.le_of_ble_eq_true rfl) ?_
  intro p e s m below meth c A Q ls hx hb hml hown hts hK ho hTab hA hw hl hE
  have hl : lv_has ls 4 [(0, .ref (ad 0)), (1, .int p1), (2, .ref (ad 26))] := hl
  have hown : s.vm.findClass R_L = some m.cls := hown
  have hg : ∀ {w : Cond}, w ∈ gw → w.before _ s = true := fun h => hts _ (List.mem_cons_of_mem _ h)
  unfold wp_L_shorten at h
  refine lv_aload_n hx hb d_L_shorten_0 rfl (lv_at hl 2 rfl) ?_
  refine lv_iconst (v := 0) hx hb d_L_shorten_1 (by decide) ?_
  refine lv_aload_n hx hb d_L_shorten_2 rfl (lv_at hl 0 rfl) ?_
  refine lv_iload_n hx hb d_L_shorten_3 rfl (lv_at hl 1 rfl) ?_
  rcases h with h | h
  · refine m_calli (hr := va_runV (As := [.int p1]) (rest := [.int 0, .ref (ad 26)]) ⟨hx, hb, hml, hown, hts⟩ (c_P_shorten l D cA ad _ G_size G_inputs G_kinds G_lefts G_rights F_size F_kinds F_sizes F_literals F_leftOut U_conflict U_changed U_told p1 _ h) (cwV 1 hts (ginV gm_500 gm_501 gm_502 gm_1 gm_503) rfl rfl rfl (by decide +kernel) ⟨Nat.le_of_ble_eq_true rfl, Nat.le_of_ble_eq_true rfl⟩) (m_preV 0 0 rfl rfl hK hw [0, 1, 2, 3, 4, 5, 6, 7, 8, 9, 10, 11] rfl rfl) rfl rfl hl.1 rfl (lv_room (Nat.le_of_ble_eq_true rfl)) d_L_shorten_4 ⟨Nat.zero_le _, Nat.zero_le _⟩) (w2 := (fun (u : Int32 × (Nat → Int32) × (Nat → Int32) × (Nat → Int32) × (Nat → Int32) × Int32 × Int32 × (Nat → Int32)) => [(k_P cA ad), (k_G cA ad G_size G_inputs), (k_G_kinds cA ad G_kinds), (k_G_lefts cA ad G_lefts), (k_G_rights cA ad G_rights), (k_F cA ad u.1), (k_F_kinds cA ad u.2.1), (k_F_sizes cA ad u.2.2.1), (k_F_literals cA ad u.2.2.2.1), (k_F_leftOut cA ad u.2.2.2.2.1), (k_U cA ad u.2.2.2.2.2.1 u.2.2.2.2.2.2.1), (k_U_told cA ad u.2.2.2.2.2.2.2), (k_L_out cA ad L_out)])) (wr := [(k_L_out cA ad L_out)]) hw hA [0, 1, 2, 3, 4, 5, 6, 7, 8, 9, 10, 11] [12] [1, 2, 3, 4, 5, 6, 7, 8, 9, 10, 11, 12, 0] rfl rfl (by decide) (by decide) (by decide) (fun _ => rfl) (fun r4 u H locs hw h => ?_)
    obtain ⟨F_size_4, F_kinds_4, F_sizes_4, F_literals_4, F_leftOut_4, U_conflict_4, U_changed_4, U_told_4⟩ := u
    have hw : mW D A s.heap [(k_P cA ad), (k_G cA ad G_size G_inputs), (k_G_kinds cA ad G_kinds), (k_G_lefts cA ad G_lefts), (k_G_rights cA ad G_rights), (k_F cA ad F_size_4), (k_F_kinds cA ad F_kinds_4), (k_F_sizes cA ad F_sizes_4), (k_F_literals cA ad F_literals_4), (k_F_leftOut cA ad F_leftOut_4), (k_U cA ad U_conflict_4 U_changed_4), (k_U_told cA ad U_told_4), (k_L_out cA ad L_out)] H locs := hw
    refine lv_i2l hx hb d_L_shorten_7 rfl ?_
    refine m_last (ws' := [(k_P cA ad), (k_G cA ad G_size G_inputs), (k_G_kinds cA ad G_kinds), (k_G_lefts cA ad G_lefts), (k_G_rights cA ad G_rights), (k_F cA ad F_size_4), (k_F_kinds cA ad F_kinds_4), (k_F_sizes cA ad F_sizes_4), (k_F_literals cA ad F_literals_4), (k_F_leftOut cA ad F_leftOut_4), (k_U cA ad U_conflict_4 U_changed_4), (k_U_told cA ad U_told_4), (k_L_out cA ad (vp_updL L_out (0 : Int32).toNatClampNeg r4.toInt64))]) hx hb hK.1 hw 12 2 rfl rfl h.1 rfl d_L_shorten_8 (fun H locs hw => ?_)
    have h := h.2
    refine lv_goto (tgt := 15) hx hb d_L_shorten_9 (by decide) ?_
    refine lv_iconst (v := 0) hx hb d_L_shorten_15 (by decide) ?_
    refine W.widen (k := 1) (n := 6) (Nat.zero_le _) (Nat.zero_le _) ?_
    exact hE 0 (F_size_4, F_kinds_4, F_sizes_4, F_literals_4, F_leftOut_4, U_conflict_4, U_changed_4, U_told_4, (vp_updL L_out (0 : Int32).toNatClampNeg r4.toInt64)) _ _ _ _ h hw d_L_shorten_16
  · refine x_call (As := [.int p1]) (rest := [.int 0, .ref (ad 26)]) ⟨hx, hb, hml, hown, hts⟩ (t_P_shorten l hl9 D cA ad s0 hs0 _ G_size G_inputs G_kinds G_lefts G_rights F_size F_kinds F_sizes F_literals F_leftOut U_conflict U_changed U_told p1 _ h) (cwV 1 hts (ginV gm_500 gm_501 gm_502 gm_1 gm_503) rfl rfl rfl (by decide +kernel) ⟨Nat.le_of_ble_eq_true rfl, Nat.le_of_ble_eq_true rfl⟩) (m_preVO 0 0 rfl rfl hK ho hw [0, 1, 2, 3, 4, 5, 6, 7, 8, 9, 10, 11] rfl rfl) rfl hl.1 (lv_room (Nat.le_of_ble_eq_true rfl)) d_L_shorten_4 ⟨Nat.le_of_ble_eq_true rfl, Nat.le_of_ble_eq_true rfl⟩ (fun k q9 H h hsz hkp => ?_)
    have hw : mW D A s.heap [(k_P cA ad), (k_G cA ad G_size G_inputs), (k_G_kinds cA ad G_kinds), (k_G_lefts cA ad G_lefts), (k_G_rights cA ad G_rights), (k_F cA ad F_size), (k_F_kinds cA ad F_kinds), (k_F_sizes cA ad F_sizes), (k_F_literals cA ad F_literals), (k_F_leftOut cA ad F_leftOut), (k_U cA ad U_conflict U_changed), (k_U_told cA ad U_told), (k_L_out cA ad L_out)] H [] := m_keep hw hsz hkp
    obtain ⟨rfl, h⟩ := h
    refine ⟨[], ⟨0, 9, 12, 13⟩, [], "java/lang/IndexOutOfBoundsException", by rw [hTab]; rfl, (fun z hz => nomatch hz), by decide, by decide, hg gm_251, (va_Nw.use rfl (hK.2 _ nw_265)), ?_⟩
    refine lv_astore_n (lv' := [(3, .ref q9), (0, .ref (ad 0)), (1, .int p1), (2, .ref (ad 26))]) hx hb d_L_shorten_12 rfl hl (by decide) rfl (fun ls hl => ?_)
    refine lv_iconst (v := 1) hx hb d_L_shorten_13 (by decide) ?_
    exact hE 1 (F_size, F_kinds, F_sizes, F_literals, F_leftOut, U_conflict, U_changed, U_told, L_out) _ _ _ _ h hw d_L_shorten_14
def rm_L_holds : Room := { frames := 7, cells := 1, slots := 6, locals := 105 }
set_option maxHeartbeats 4000000 in
set_option maxRecDepth 100000 in
theorem c_L_holds (l : Launch) (hl9 : l.stackTraces = false) (D : va_G) (cA : Nat → ClassId) (ad : Nat → Nat) (s0 : State) (hs0 : tS s0) (sz : Nat) (G_size : Int32) (G_inputs : Int32) (G_kinds : (Nat → Int32)) (G_lefts : (Nat → Int32)) (G_rights : (Nat → Int32)) (G_truths : (Nat → Int32)) (L_out : (Nat → Int64)) (p1 : Int32) (p2 : Int64) (post : Int32 → (Nat → Int32) → (Nat → Int64) → Prop) (h : wp_L_holds G_size G_kinds G_lefts G_rights G_truths L_out p1 p2 post) : Met l y_L_holds w_L_holds rm_L_holds (mPcO D cA s0 [.ref (ad 0), .int p1, .long p2, .ref (ad 26)] [(k_P cA ad), (k_G cA ad G_size G_inputs), (k_G_kinds cA ad G_kinds), (k_G_lefts cA ad G_lefts), (k_G_rights cA ad G_rights), (k_G_truths cA ad G_truths), (k_L_out cA ad L_out)] sz) (va_Qi (fun (r : Int32) (u : (Nat → Int32) × (Nat → Int64)) => post r u.1 u.2) (mB D (va_A [(k_P cA ad), (k_G cA ad G_size G_inputs), (k_G_kinds cA ad G_kinds), (k_G_lefts cA ad G_lefts), (k_G_rights cA ad G_rights), (k_G_truths cA ad G_truths), (k_L_out cA ad L_out)] sz) (fun (u : (Nat → Int32) × (Nat → Int64)) => [(k_P cA ad), (k_G cA ad G_size G_inputs), (k_G_kinds cA ad G_kinds), (k_G_lefts cA ad G_lefts), (k_G_rights cA ad G_rights), (k_G_truths cA ad u.1), (k_L_out cA ad u.2)])) (va_A [(k_P cA ad), (k_G cA ad G_size G_inputs), (k_G_kinds cA ad G_kinds), (k_G_lefts cA ad G_lefts), (k_G_rights cA ad G_rights), (k_G_truths cA ad G_truths), (k_L_out cA ad L_out)] sz)) 1 6 (va_A [(k_P cA ad), (k_G cA ad G_size G_inputs), (k_G_kinds cA ad G_kinds), (k_G_lefts cA ad G_lefts), (k_G_rights cA ad G_rights), (k_G_truths cA ad G_truths), (k_L_out cA ad L_out)] sz) := by
  refine m_methW (by decide) rfl (Nat.le_of_ble_eq_true rfl) ?_
  intro p e s m below meth c A Q ls hx hb hml hown hts hK ho hTab hA hw hl hE
  have hl : lv_has ls 6 [(0, .ref (ad 0)), (1, .int p1), (2, .long p2), (4, .ref (ad 26))] := hl
  have hown : s.vm.findClass R_L = some m.cls := hown
  have hg : ∀ {w : Cond}, w ∈ gw → w.before _ s = true := fun h => hts _ (List.mem_cons_of_mem _ h)
  have j17 : ∀ (s0 : Int64) (s1 : Int32) (G_truths : (Nat → Int32)) (L_out : (Nat → Int64)) (H : Heap) (locs : List Loc) (ls : Array Slot), s_L_holds_17 G_size G_kinds G_lefts G_rights p1 p2 post s0 s1 G_truths L_out → mW D A s.heap [(k_P cA ad), (k_G cA ad G_size G_inputs), (k_G_kinds cA ad G_kinds), (k_G_lefts cA ad G_lefts), (k_G_rights cA ad G_rights), (k_G_truths cA ad G_truths), (k_L_out cA ad L_out)] H locs → lv_has ls 6 [] → W p l e rm_L_holds s m [.ref (ad 0), .int p1, .long p2, .ref (ad 26)].toArray below meth c H locs 0 0 Q (F0 m 17 ls [.long s0, .int s1, .ref (ad 26)]) := by
    intro s0 s1 G_truths L_out H locs ls h hw hl
    unfold s_L_holds_17 at h
    refine m_last (ws' := [(k_P cA ad), (k_G cA ad G_size G_inputs), (k_G_kinds cA ad G_kinds), (k_G_lefts cA ad G_lefts), (k_G_rights cA ad G_rights), (k_G_truths cA ad G_truths), (k_L_out cA ad (vp_updL L_out s1.toNatClampNeg s0))]) hx hb hK.1 hw 6 2 rfl rfl h.1 rfl d_L_holds_17 (fun H locs hw => ?_)
    have h := h.2
    refine lv_goto (tgt := 25) hx hb d_L_holds_18 (by decide) ?_
    refine lv_iconst (v := 0) hx hb d_L_holds_25 (by decide) ?_
    refine W.widen (k := 1) (n := 6) (Nat.zero_le _) (Nat.zero_le _) ?_
    exact hE 0 (G_truths, (vp_updL L_out s1.toNatClampNeg s0)) _ _ _ _ h hw d_L_holds_26
  unfold wp_L_holds at h
  refine lv_aload hx hb d_L_holds_0 (lv_at hl 3 rfl) ?_
  refine lv_iconst (v := 0) hx hb d_L_holds_2 (by decide) ?_
  refine lv_aload_n hx hb d_L_holds_3 rfl (lv_at hl 0 rfl) ?_
  refine lv_iload_n hx hb d_L_holds_4 rfl (lv_at hl 1 rfl) ?_
  refine lv_lload_n hx hb d_L_holds_5 rfl (lv_at hl 2 rfl) ?_
  rcases h with h | h
  · refine m_calli (hr := va_runV (As := [.int p1, .long p2]) (rest := [.int 0, .ref (ad 26)]) ⟨hx, hb, hml, hown, hts⟩ (c_P_holds l D cA ad _ G_size G_inputs G_kinds G_lefts G_rights G_truths p1 p2 _ h) (cwV 2 hts (ginV gm_514 gm_515 gm_516 gm_1 gm_517) rfl rfl rfl (by decide +kernel) ⟨Nat.le_of_ble_eq_true rfl, Nat.le_of_ble_eq_true rfl⟩) (m_preV 0 0 rfl rfl hK hw [0, 1, 2, 3, 4, 5] rfl rfl) rfl rfl hl.1 rfl (lv_room (Nat.le_of_ble_eq_true rfl)) d_L_holds_6 ⟨Nat.zero_le _, Nat.zero_le _⟩) (w2 := (fun (u : (Nat → Int32)) => [(k_P cA ad), (k_G cA ad G_size G_inputs), (k_G_kinds cA ad G_kinds), (k_G_lefts cA ad G_lefts), (k_G_rights cA ad G_rights), (k_G_truths cA ad u), (k_L_out cA ad L_out)])) (wr := [(k_L_out cA ad L_out)]) hw hA [0, 1, 2, 3, 4, 5] [6] [1, 2, 3, 4, 5, 6, 0] rfl rfl (by decide) (by decide) (by decide) (fun _ => rfl) (fun r6 u H locs hw h => ?_)
    obtain ⟨G_truths_6, rfl⟩ : ∃ z, z = u := ⟨_, rfl⟩
    have hw : mW D A s.heap [(k_P cA ad), (k_G cA ad G_size G_inputs), (k_G_kinds cA ad G_kinds), (k_G_lefts cA ad G_lefts), (k_G_rights cA ad G_rights), (k_G_truths cA ad G_truths_6), (k_L_out cA ad L_out)] H locs := hw
    refine lv_if_eq (tgt := 16) hx hb d_L_holds_9 (by decide) (fun hc => ?_) (fun hc => ?_)
    · have h := h.1 hc
      refine lv_lconst (v := 0) hx hb d_L_holds_16 rfl ?_
      exact j17 _ _ _ _ _ _ _ h hw (lv_sub hl [] rfl)
    · have h := h.2 hc
      refine lv_lconst (v := 1) hx hb d_L_holds_12 rfl ?_
      refine lv_goto (tgt := 17) hx hb d_L_holds_13 (by decide) ?_
      exact j17 _ _ _ _ _ _ _ h hw (lv_sub hl [] rfl)
  · refine x_call (As := [.int p1, .long p2]) (rest := [.int 0, .ref (ad 26)]) ⟨hx, hb, hml, hown, hts⟩ (t_P_holds l hl9 D cA ad s0 hs0 _ G_size G_inputs G_kinds G_lefts G_rights G_truths p1 p2 _ h) (cwV 2 hts (ginV gm_514 gm_515 gm_516 gm_1 gm_517) rfl rfl rfl (by decide +kernel) ⟨Nat.le_of_ble_eq_true rfl, Nat.le_of_ble_eq_true rfl⟩) (m_preVO 0 0 rfl rfl hK ho hw [0, 1, 2, 3, 4, 5] rfl rfl) rfl hl.1 (lv_room (Nat.le_of_ble_eq_true rfl)) d_L_holds_6 ⟨Nat.le_of_ble_eq_true rfl, Nat.le_of_ble_eq_true rfl⟩ (fun k q9 H h hsz hkp => ?_)
    have hw : mW D A s.heap [(k_P cA ad), (k_G cA ad G_size G_inputs), (k_G_kinds cA ad G_kinds), (k_G_lefts cA ad G_lefts), (k_G_rights cA ad G_rights), (k_G_truths cA ad G_truths), (k_L_out cA ad L_out)] H [] := m_keep hw hsz hkp
    obtain ⟨rfl, h⟩ := h
    refine ⟨[], ⟨0, 18, 21, 13⟩, [], "java/lang/IndexOutOfBoundsException", by rw [hTab]; rfl, (fun z hz => nomatch hz), by decide, by decide, hg gm_251, (va_Nw.use rfl (hK.2 _ nw_265)), ?_⟩
    refine lv_astore (lv' := [(5, .ref q9), (0, .ref (ad 0)), (1, .int p1), (2, .long p2), (4, .ref (ad 26))]) hx hb d_L_holds_21 hl (by decide) rfl (fun ls hl => ?_)
    refine lv_iconst (v := 1) hx hb d_L_holds_23 (by decide) ?_
    exact hE 1 (G_truths, L_out) _ _ _ _ h hw d_L_holds_24
def rm_L_text : Room := { frames := 7, cells := 1, slots := 6, locals := 113 }
set_option maxHeartbeats 4000000 in
set_option maxRecDepth 100000 in
theorem c_L_text (l : Launch) (hl9 : l.stackTraces = false) (D : va_G) (cA : Nat → ClassId) (ad : Nat → Nat) (s0 : State) (hs0 : tS s0) (sz : Nat) (F_size : Int32) (F_kinds : (Nat → Int32)) (F_sizes : (Nat → Int32)) (F_literals : (Nat → Int32)) (L_out : (Nat → Int64)) (p1 : Int32) (post : Int32 → (Nat → Int64) → Prop) (h : wp_L_text F_size F_kinds F_sizes F_literals L_out p1 post) : Met l y_L_text w_L_text rm_L_text (mPcO D cA s0 [.ref (ad 0), .int p1, .ref (ad 26)] [(k_P cA ad), (k_F cA ad F_size), (k_F_kinds cA ad F_kinds), (k_F_sizes cA ad F_sizes), (k_F_literals cA ad F_literals), (k_L_out cA ad L_out)] sz) (va_Qi (fun (r : Int32) (u : (Nat → Int64)) => post r u) (mB D (va_A [(k_P cA ad), (k_F cA ad F_size), (k_F_kinds cA ad F_kinds), (k_F_sizes cA ad F_sizes), (k_F_literals cA ad F_literals), (k_L_out cA ad L_out)] sz) (fun (u : (Nat → Int64)) => [(k_P cA ad), (k_F cA ad F_size), (k_F_kinds cA ad F_kinds), (k_F_sizes cA ad F_sizes), (k_F_literals cA ad F_literals), (k_L_out cA ad u)])) (va_A [(k_P cA ad), (k_F cA ad F_size), (k_F_kinds cA ad F_kinds), (k_F_sizes cA ad F_sizes), (k_F_literals cA ad F_literals), (k_L_out cA ad L_out)] sz)) 1 6 (va_A [(k_P cA ad), (k_F cA ad F_size), (k_F_kinds cA ad F_kinds), (k_F_sizes cA ad F_sizes), (k_F_literals cA ad F_literals), (k_L_out cA ad L_out)] sz) := by
  refine m_methW (by decide) rfl (Nat.le_of_ble_eq_true rfl) ?_
  intro p e s m below meth c A Q ls hx hb hml hown hts hK ho hTab hA hw hl hE
  have hl : lv_has ls 4 [(0, .ref (ad 0)), (1, .int p1), (2, .ref (ad 26))] := hl
  have hown : s.vm.findClass R_L = some m.cls := hown
  have hg : ∀ {w : Cond}, w ∈ gw → w.before _ s = true := fun h => hts _ (List.mem_cons_of_mem _ h)
  unfold wp_L_text at h
  refine lv_aload_n hx hb d_L_text_0 rfl (lv_at hl 2 rfl) ?_
  refine lv_iconst (v := 0) hx hb d_L_text_1 (by decide) ?_
  refine lv_aload_n hx hb d_L_text_2 rfl (lv_at hl 0 rfl) ?_
  refine lv_iload_n hx hb d_L_text_3 rfl (lv_at hl 1 rfl) ?_
  rcases h with h | h
  · refine m_calli (hr := va_runV (As := [.int p1]) (rest := [.int 0, .ref (ad 26)]) ⟨hx, hb, hml, hown, hts⟩ (c_P_text l D cA ad _ F_size F_kinds F_sizes F_literals p1 _ h) (cwV 1 hts (ginV gm_529 gm_530 gm_531 gm_1 gm_532) rfl rfl rfl (by decide +kernel) ⟨Nat.le_of_ble_eq_true rfl, Nat.le_of_ble_eq_true rfl⟩) (m_preV 0 0 rfl rfl hK hw [0, 1, 2, 3, 4] rfl rfl) rfl rfl hl.1 rfl (lv_room (Nat.le_of_ble_eq_true rfl)) d_L_text_4 ⟨Nat.zero_le _, Nat.zero_le _⟩) (w2 := (fun (_ : Unit) => [(k_P cA ad), (k_F cA ad F_size), (k_F_kinds cA ad F_kinds), (k_F_sizes cA ad F_sizes), (k_F_literals cA ad F_literals), (k_L_out cA ad L_out)])) (wr := [(k_L_out cA ad L_out)]) hw hA [0, 1, 2, 3, 4] [5] [1, 2, 3, 4, 5, 0] rfl rfl (by decide) (by decide) (by decide) (fun _ => rfl) (fun r4 u H locs hw h => ?_)
    refine lv_i2l hx hb d_L_text_7 rfl ?_
    refine m_last (ws' := [(k_P cA ad), (k_F cA ad F_size), (k_F_kinds cA ad F_kinds), (k_F_sizes cA ad F_sizes), (k_F_literals cA ad F_literals), (k_L_out cA ad (vp_updL L_out (0 : Int32).toNatClampNeg r4.toInt64))]) hx hb hK.1 hw 5 2 rfl rfl h.1 rfl d_L_text_8 (fun H locs hw => ?_)
    have h := h.2
    refine lv_goto (tgt := 15) hx hb d_L_text_9 (by decide) ?_
    refine lv_iconst (v := 0) hx hb d_L_text_15 (by decide) ?_
    refine W.widen (k := 1) (n := 6) (Nat.zero_le _) (Nat.zero_le _) ?_
    exact hE 0 ((vp_updL L_out (0 : Int32).toNatClampNeg r4.toInt64)) _ _ _ _ h hw d_L_text_16
  · refine x_call (As := [.int p1]) (rest := [.int 0, .ref (ad 26)]) ⟨hx, hb, hml, hown, hts⟩ (t_P_text l hl9 D cA ad s0 hs0 _ F_size F_kinds F_sizes F_literals p1 _ h) (cwV 1 hts (ginV gm_529 gm_530 gm_531 gm_1 gm_532) rfl rfl rfl (by decide +kernel) ⟨Nat.le_of_ble_eq_true rfl, Nat.le_of_ble_eq_true rfl⟩) (m_preVO 0 0 rfl rfl hK ho hw [0, 1, 2, 3, 4] rfl rfl) rfl hl.1 (lv_room (Nat.le_of_ble_eq_true rfl)) d_L_text_4 ⟨Nat.le_of_ble_eq_true rfl, Nat.le_of_ble_eq_true rfl⟩ (fun k q9 H h hsz hkp => ?_)
    have hw : mW D A s.heap [(k_P cA ad), (k_F cA ad F_size), (k_F_kinds cA ad F_kinds), (k_F_sizes cA ad F_sizes), (k_F_literals cA ad F_literals), (k_L_out cA ad L_out)] H [] := m_keep hw hsz hkp
    obtain ⟨rfl, h⟩ := h
    refine ⟨[], ⟨0, 9, 12, 13⟩, [], "java/lang/IndexOutOfBoundsException", by rw [hTab]; rfl, (fun z hz => nomatch hz), by decide, by decide, hg gm_251, (va_Nw.use rfl (hK.2 _ nw_265)), ?_⟩
    refine lv_astore_n (lv' := [(3, .ref q9), (0, .ref (ad 0)), (1, .int p1), (2, .ref (ad 26))]) hx hb d_L_text_12 rfl hl (by decide) rfl (fun ls hl => ?_)
    refine lv_iconst (v := 1) hx hb d_L_text_13 (by decide) ?_
    exact hE 1 (L_out) _ _ _ _ h hw d_L_text_14
def rm_L_count : Room := { frames := 7, cells := 1, slots := 6, locals := 103 }
set_option maxHeartbeats 4000000 in
set_option maxRecDepth 100000 in
theorem c_L_count (l : Launch) (hl9 : l.stackTraces = false) (D : va_G) (cA : Nat → ClassId) (ad : Nat → Nat) (s0 : State) (hs0 : tS s0) (sz : Nat) (G_size : Int32) (G_inputs : Int32) (F_size : Int32) (F_sizes : (Nat → Int32)) (F_literals : (Nat → Int32)) (T_size : Int32) (T_place : Int32) (T_fault : Int32) (L_out : (Nat → Int64)) (p1 : Int32) (post : Int32 → (Nat → Int64) → Prop) (h : wp_L_count G_size G_inputs F_size F_sizes F_literals T_size L_out p1 post) : Met l y_L_count w_L_count rm_L_count (mPcO D cA s0 [.ref (ad 0), .int p1, .ref (ad 26)] [(k_P cA ad), (k_G cA ad G_size G_inputs), (k_F cA ad F_size), (k_F_sizes cA ad F_sizes), (k_F_literals cA ad F_literals), (k_T cA ad T_size T_place T_fault), (k_L_out cA ad L_out)] sz) (va_Qi (fun (r : Int32) (u : (Nat → Int64)) => post r u) (mB D (va_A [(k_P cA ad), (k_G cA ad G_size G_inputs), (k_F cA ad F_size), (k_F_sizes cA ad F_sizes), (k_F_literals cA ad F_literals), (k_T cA ad T_size T_place T_fault), (k_L_out cA ad L_out)] sz) (fun (u : (Nat → Int64)) => [(k_P cA ad), (k_G cA ad G_size G_inputs), (k_F cA ad F_size), (k_F_sizes cA ad F_sizes), (k_F_literals cA ad F_literals), (k_T cA ad T_size T_place T_fault), (k_L_out cA ad u)])) (va_A [(k_P cA ad), (k_G cA ad G_size G_inputs), (k_F cA ad F_size), (k_F_sizes cA ad F_sizes), (k_F_literals cA ad F_literals), (k_T cA ad T_size T_place T_fault), (k_L_out cA ad L_out)] sz)) 1 6 (va_A [(k_P cA ad), (k_G cA ad G_size G_inputs), (k_F cA ad F_size), (k_F_sizes cA ad F_sizes), (k_F_literals cA ad F_literals), (k_T cA ad T_size T_place T_fault), (k_L_out cA ad L_out)] sz) := by
  refine m_methW (by decide) rfl (Nat.le_of_ble_eq_true rfl) ?_
  intro p e s m below meth c A Q ls hx hb hml hown hts hK ho hTab hA hw hl hE
  have hl : lv_has ls 4 [(0, .ref (ad 0)), (1, .int p1), (2, .ref (ad 26))] := hl
  have hown : s.vm.findClass R_L = some m.cls := hown
  have hg : ∀ {w : Cond}, w ∈ gw → w.before _ s = true := fun h => hts _ (List.mem_cons_of_mem _ h)
  unfold wp_L_count at h
  refine lv_aload_n hx hb d_L_count_0 rfl (lv_at hl 2 rfl) ?_
  refine lv_iconst (v := 0) hx hb d_L_count_1 (by decide) ?_
  refine lv_aload_n hx hb d_L_count_2 rfl (lv_at hl 0 rfl) ?_
  refine lv_iload_n hx hb d_L_count_3 rfl (lv_at hl 1 rfl) ?_
  rcases h with h | h
  · refine m_calli (hr := va_runV (As := [.int p1]) (rest := [.int 0, .ref (ad 26)]) ⟨hx, hb, hml, hown, hts⟩ (c_P_count l D cA ad _ G_size G_inputs F_size F_sizes F_literals T_size T_place T_fault p1 _ h) (cwV 1 hts (ginV gm_556 gm_557 gm_558 gm_1 gm_559) rfl rfl rfl (by decide +kernel) ⟨Nat.le_of_ble_eq_true rfl, Nat.le_of_ble_eq_true rfl⟩) (m_preV 0 0 rfl rfl hK hw [0, 1, 2, 3, 4, 5] rfl rfl) rfl rfl hl.1 rfl (lv_room (Nat.le_of_ble_eq_true rfl)) d_L_count_4 ⟨Nat.zero_le _, Nat.zero_le _⟩) (w2 := (fun (_ : Unit) => [(k_P cA ad), (k_G cA ad G_size G_inputs), (k_F cA ad F_size), (k_F_sizes cA ad F_sizes), (k_F_literals cA ad F_literals), (k_T cA ad T_size T_place T_fault), (k_L_out cA ad L_out)])) (wr := [(k_L_out cA ad L_out)]) hw hA [0, 1, 2, 3, 4, 5] [6] [1, 2, 3, 4, 5, 6, 0] rfl rfl (by decide) (by decide) (by decide) (fun _ => rfl) (fun r4 u H locs hw h => ?_)
    refine lv_i2l hx hb d_L_count_7 rfl ?_
    refine m_last (ws' := [(k_P cA ad), (k_G cA ad G_size G_inputs), (k_F cA ad F_size), (k_F_sizes cA ad F_sizes), (k_F_literals cA ad F_literals), (k_T cA ad T_size T_place T_fault), (k_L_out cA ad (vp_updL L_out (0 : Int32).toNatClampNeg r4.toInt64))]) hx hb hK.1 hw 6 2 rfl rfl h.1 rfl d_L_count_8 (fun H locs hw => ?_)
    have h := h.2
    refine lv_goto (tgt := 15) hx hb d_L_count_9 (by decide) ?_
    refine lv_iconst (v := 0) hx hb d_L_count_15 (by decide) ?_
    refine W.widen (k := 1) (n := 6) (Nat.zero_le _) (Nat.zero_le _) ?_
    exact hE 0 ((vp_updL L_out (0 : Int32).toNatClampNeg r4.toInt64)) _ _ _ _ h hw d_L_count_16
  · refine x_call (As := [.int p1]) (rest := [.int 0, .ref (ad 26)]) ⟨hx, hb, hml, hown, hts⟩ (t_P_count l hl9 D cA ad s0 hs0 _ G_size G_inputs F_size F_sizes F_literals T_size T_place T_fault p1 _ h) (cwV 1 hts (ginV gm_556 gm_557 gm_558 gm_1 gm_559) rfl rfl rfl (by decide +kernel) ⟨Nat.le_of_ble_eq_true rfl, Nat.le_of_ble_eq_true rfl⟩) (m_preVO 0 0 rfl rfl hK ho hw [0, 1, 2, 3, 4, 5] rfl rfl) rfl hl.1 (lv_room (Nat.le_of_ble_eq_true rfl)) d_L_count_4 ⟨Nat.le_of_ble_eq_true rfl, Nat.le_of_ble_eq_true rfl⟩ (fun k q9 H h hsz hkp => ?_)
    have hw : mW D A s.heap [(k_P cA ad), (k_G cA ad G_size G_inputs), (k_F cA ad F_size), (k_F_sizes cA ad F_sizes), (k_F_literals cA ad F_literals), (k_T cA ad T_size T_place T_fault), (k_L_out cA ad L_out)] H [] := m_keep hw hsz hkp
    obtain ⟨rfl, h⟩ := h
    refine ⟨[], ⟨0, 9, 12, 13⟩, [], "java/lang/IndexOutOfBoundsException", by rw [hTab]; rfl, (fun z hz => nomatch hz), by decide, by decide, hg gm_251, (va_Nw.use rfl (hK.2 _ nw_265)), ?_⟩
    refine lv_astore_n (lv' := [(3, .ref q9), (0, .ref (ad 0)), (1, .int p1), (2, .ref (ad 26))]) hx hb d_L_count_12 rfl hl (by decide) rfl (fun ls hl => ?_)
    refine lv_iconst (v := 1) hx hb d_L_count_13 (by decide) ?_
    exact hE 1 (L_out) _ _ _ _ h hw d_L_count_14
