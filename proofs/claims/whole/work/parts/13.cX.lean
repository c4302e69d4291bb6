theorem d_X_literalLength_0 : decode b_X_literalLength 0 = .ok (.iload_n 0, 1) := by decide +kernel
theorem d_X_literalLength_1 : decode b_X_literalLength 1 = .ok (.iconst 1, 1) := by decide +kernel
theorem d_X_literalLength_2 : decode b_X_literalLength 2 = .ok (.ishr, 1) := by decide +kernel
theorem d_X_literalLength_3 : decode b_X_literalLength 3 = .ok (.bipush 10, 2) := by decide +kernel
theorem d_X_literalLength_5 : decode b_X_literalLength 5 = .ok (.if_icmp .ge 7, 3) := by decide +kernel
theorem d_X_literalLength_8 : decode b_X_literalLength 8 = .ok (.iconst 3, 1) := by decide +kernel
theorem d_X_literalLength_9 : decode b_X_literalLength 9 = .ok (.goto 4, 3) := by decide +kernel
theorem d_X_literalLength_12 : decode b_X_literalLength 12 = .ok (.iconst 4, 1) := by decide +kernel
theorem d_X_literalLength_13 : decode b_X_literalLength 13 = .ok (.ireturn, 1) := by decide +kernel
theorem d_X_lineLength_0 : decode b_X_lineLength 0 = .ok (.iconst 2, 1) := by decide +kernel
theorem d_X_lineLength_1 : decode b_X_lineLength 1 = .ok (.istore_n 2, 1) := by decide +kernel
theorem d_X_lineLength_2 : decode b_X_lineLength 2 = .ok (.iconst 0, 1) := by decide +kernel
theorem d_X_lineLength_3 : decode b_X_lineLength 3 = .ok (.istore_n 3, 1) := by decide +kernel
theorem d_X_lineLength_4 : decode b_X_lineLength 4 = .ok (.iload_n 3, 1) := by decide +kernel
theorem d_X_lineLength_5 : decode b_X_lineLength 5 = .ok (.aload_n 0, 1) := by decide +kernel
theorem d_X_lineLength_6 : decode b_X_lineLength 6 = .ok (.getfield 25, 3) := by decide +kernel
theorem d_X_lineLength_9 : decode b_X_lineLength 9 = .ok (.iload_n 1, 1) := by decide +kernel
theorem d_X_lineLength_10 : decode b_X_lineLength 10 = .ok (.iaload, 1) := by decide +kernel
theorem d_X_lineLength_11 : decode b_X_lineLength 11 = .ok (.if_icmp .ge 21, 3) := by decide +kernel
theorem d_X_lineLength_14 : decode b_X_lineLength 14 = .ok (.iload_n 2, 1) := by decide +kernel
theorem d_X_lineLength_15 : decode b_X_lineLength 15 = .ok (.aload_n 0, 1) := by decide +kernel
theorem d_X_lineLength_16 : decode b_X_lineLength 16 = .ok (.iload_n 1, 1) := by decide +kernel
theorem d_X_lineLength_17 : decode b_X_lineLength 17 = .ok (.iload_n 3, 1) := by decide +kernel
theorem d_X_lineLength_18 : decode b_X_lineLength 18 = .ok (.invokevirtual 29, 3) := by decide +kernel
theorem d_X_lineLength_21 : decode b_X_lineLength 21 = .ok (.invokestatic 33, 3) := by decide +kernel
theorem d_X_lineLength_24 : decode b_X_lineLength 24 = .ok (.iadd, 1) := by decide +kernel
theorem d_X_lineLength_25 : decode b_X_lineLength 25 = .ok (.istore_n 2, 1) := by decide +kernel
theorem d_X_lineLength_26 : decode b_X_lineLength 26 = .ok (.iinc 3 1, 3) := by decide +kernel
theorem d_X_lineLength_29 : decode b_X_lineLength 29 = .ok (.goto (-25), 3) := by decide +kernel
theorem d_X_lineLength_32 : decode b_X_lineLength 32 = .ok (.iload_n 2, 1) := by decide +kernel
theorem d_X_lineLength_33 : decode b_X_lineLength 33 = .ok (.ireturn, 1) := by decide +kernel
theorem d_X_lengthOf_0 : decode b_X_lengthOf 0 = .ok (.iconst 0, 1) := by decide +kernel
theorem d_X_lengthOf_1 : decode b_X_lengthOf 1 = .ok (.istore_n 1, 1) := by decide +kernel
theorem d_X_lengthOf_2 : decode b_X_lengthOf 2 = .ok (.iconst 0, 1) := by decide +kernel
theorem d_X_lengthOf_3 : decode b_X_lengthOf 3 = .ok (.istore_n 2, 1) := by decide +kernel
theorem d_X_lengthOf_4 : decode b_X_lengthOf 4 = .ok (.iload_n 2, 1) := by decide +kernel
theorem d_X_lengthOf_5 : decode b_X_lengthOf 5 = .ok (.aload_n 0, 1) := by decide +kernel
theorem d_X_lengthOf_6 : decode b_X_lengthOf 6 = .ok (.getfield 9, 3) := by decide +kernel
theorem d_X_lengthOf_9 : decode b_X_lengthOf 9 = .ok (.if_icmp .ge 17, 3) := by decide +kernel
theorem d_X_lengthOf_12 : decode b_X_lengthOf 12 = .ok (.iload_n 1, 1) := by decide +kernel
theorem d_X_lengthOf_13 : decode b_X_lengthOf 13 = .ok (.aload_n 0, 1) := by decide +kernel
theorem d_X_lengthOf_14 : decode b_X_lengthOf 14 = .ok (.iload_n 2, 1) := by decide +kernel
theorem d_X_lengthOf_15 : decode b_X_lengthOf 15 = .ok (.invokestatic 15, 3) := by decide +kernel
theorem d_X_lengthOf_18 : decode b_X_lengthOf 18 = .ok (.iadd, 1) := by decide +kernel
theorem d_X_lengthOf_19 : decode b_X_lengthOf 19 = .ok (.istore_n 1, 1) := by decide +kernel
theorem d_X_lengthOf_20 : decode b_X_lengthOf 20 = .ok (.iinc 2 1, 3) := by decide +kernel
theorem d_X_lengthOf_23 : decode b_X_lengthOf 23 = .ok (.goto (-19), 3) := by decide +kernel
theorem d_X_lengthOf_26 : decode b_X_lengthOf 26 = .ok (.iload_n 1, 1) := by decide +kernel
theorem d_X_lengthOf_27 : decode b_X_lengthOf 27 = .ok (.ireturn, 1) := by decide +kernel
theorem d_X_literalByte_0 : decode b_X_literalByte 0 = .ok (.iload_n 1, 1) := by decide +kernel
theorem d_X_literalByte_1 : decode b_X_literalByte 1 = .ok (.ifCond .ne 6, 3) := by decide +kernel
theorem d_X_literalByte_4 : decode b_X_literalByte 4 = .ok (.bipush 32, 2) := by decide +kernel
theorem d_X_literalByte_6 : decode b_X_literalByte 6 = .ok (.ireturn, 1) := by decide +kernel
theorem d_X_literalByte_7 : decode b_X_literalByte 7 = .ok (.iload_n 1, 1) := by decide +kernel
theorem d_X_literalByte_8 : decode b_X_literalByte 8 = .ok (.iconst 1, 1) := by decide +kernel
theorem d_X_literalByte_9 : decode b_X_literalByte 9 = .ok (.if_icmp .ne 18, 3) := by decide +kernel
theorem d_X_literalByte_12 : decode b_X_literalByte 12 = .ok (.iload_n 0, 1) := by decide +kernel
theorem d_X_literalByte_13 : decode b_X_literalByte 13 = .ok (.iconst 1, 1) := by decide +kernel
theorem d_X_literalByte_14 : decode b_X_literalByte 14 = .ok (.iand, 1) := by decide +kernel
theorem d_X_literalByte_15 : decode b_X_literalByte 15 = .ok (.iconst 1, 1) := by decide +kernel
theorem d_X_literalByte_16 : decode b_X_literalByte 16 = .ok (.if_icmp .ne 8, 3) := by decide +kernel
theorem d_X_literalByte_19 : decode b_X_literalByte 19 = .ok (.bipush 45, 2) := by decide +kernel
theorem d_X_literalByte_21 : decode b_X_literalByte 21 = .ok (.goto 5, 3) := by decide +kernel
theorem d_X_literalByte_24 : decode b_X_literalByte 24 = .ok (.bipush 43, 2) := by decide +kernel
theorem d_X_literalByte_26 : decode b_X_literalByte 26 = .ok (.ireturn, 1) := by decide +kernel
theorem d_X_literalByte_27 : decode b_X_literalByte 27 = .ok (.iload_n 0, 1) := by decide +kernel
theorem d_X_literalByte_28 : decode b_X_literalByte 28 = .ok (.iconst 1, 1) := by decide +kernel
theorem d_X_literalByte_29 : decode b_X_literalByte 29 = .ok (.ishr, 1) := by decide +kernel
theorem d_X_literalByte_30 : decode b_X_literalByte 30 = .ok (.istore_n 2, 1) := by decide +kernel
theorem d_X_literalByte_31 : decode b_X_literalByte 31 = .ok (.bipush 48, 2) := by decide +kernel
theorem d_X_literalByte_33 : decode b_X_literalByte 33 = .ok (.iload_n 1, 1) := by decide +kernel
theorem d_X_literalByte_34 : decode b_X_literalByte 34 = .ok (.iload_n 0, 1) := by decide +kernel
theorem d_X_literalByte_35 : decode b_X_literalByte 35 = .ok (.invokestatic 33, 3) := by decide +kernel
theorem d_X_literalByte_38 : decode b_X_literalByte 38 = .ok (.iconst 1, 1) := by decide +kernel
theorem d_X_literalByte_39 : decode b_X_literalByte 39 = .ok (.isub, 1) := by decide +kernel
theorem d_X_literalByte_40 : decode b_X_literalByte 40 = .ok (.if_icmp .ne 10, 3) := by decide +kernel
theorem d_X_literalByte_43 : decode b_X_literalByte 43 = .ok (.iload_n 2, 1) := by decide +kernel
theorem d_X_literalByte_44 : decode b_X_literalByte 44 = .ok (.bipush 10, 2) := by decide +kernel
theorem d_X_literalByte_46 : decode b_X_literalByte 46 = .ok (.irem, 1) := by decide +kernel
theorem d_X_literalByte_47 : decode b_X_literalByte 47 = .ok (.goto 7, 3) := by decide +kernel
theorem d_X_literalByte_50 : decode b_X_literalByte 50 = .ok (.iload_n 2, 1) := by decide +kernel
theorem d_X_literalByte_51 : decode b_X_literalByte 51 = .ok (.bipush 10, 2) := by decide +kernel
theorem d_X_literalByte_53 : decode b_X_literalByte 53 = .ok (.idiv, 1) := by decide +kernel
theorem d_X_literalByte_54 : decode b_X_literalByte 54 = .ok (.iadd, 1) := by decide +kernel
theorem d_X_literalByte_55 : decode b_X_literalByte 55 = .ok (.ireturn, 1) := by decide +kernel
theorem d_X_lineByte_0 : decode b_X_lineByte 0 = .ok (.iload_n 2, 1) := by decide +kernel
theorem d_X_lineByte_1 : decode b_X_lineByte 1 = .ok (.ifCond .ne 21, 3) := by decide +kernel
theorem d_X_lineByte_4 : decode b_X_lineByte 4 = .ok (.aload_n 0, 1) := by decide +kernel
theorem d_X_lineByte_5 : decode b_X_lineByte 5 = .ok (.getfield 37, 3) := by decide +kernel
theorem d_X_lineByte_8 : decode b_X_lineByte 8 = .ok (.iload_n 1, 1) := by decide +kernel
theorem d_X_lineByte_9 : decode b_X_lineByte 9 = .ok (.iaload, 1) := by decide +kernel
theorem d_X_lineByte_10 : decode b_X_lineByte 10 = .ok (.iconst 1, 1) := by decide +kernel
theorem d_X_lineByte_11 : decode b_X_lineByte 11 = .ok (.if_icmp .ne 8, 3) := by decide +kernel
theorem d_X_lineByte_14 : decode b_X_lineByte 14 = .ok (.bipush 61, 2) := by decide +kernel
theorem d_X_lineByte_16 : decode b_X_lineByte 16 = .ok (.goto 5, 3) := by decide +kernel
theorem d_X_lineByte_19 : decode b_X_lineByte 19 = .ok (.bipush 99, 2) := by decide +kernel
theorem d_X_lineByte_21 : decode b_X_lineByte 21 = .ok (.ireturn, 1) := by decide +kernel
theorem d_X_lineByte_22 : decode b_X_lineByte 22 = .ok (.iload_n 2, 1) := by decide +kernel
theorem d_X_lineByte_23 : decode b_X_lineByte 23 = .ok (.iconst 1, 1) := by decide +kernel
theorem d_X_lineByte_24 : decode b_X_lineByte 24 = .ok (.isub, 1) := by decide +kernel
theorem d_X_lineByte_25 : decode b_X_lineByte 25 = .ok (.istore_n 3, 1) := by decide +kernel
theorem d_X_lineByte_26 : decode b_X_lineByte 26 = .ok (.iconst 0, 1) := by decide +kernel
theorem d_X_lineByte_27 : decode b_X_lineByte 27 = .ok (.istore 4, 2) := by decide +kernel
theorem d_X_lineByte_29 : decode b_X_lineByte 29 = .ok (.iload 4, 2) := by decide +kernel
theorem d_X_lineByte_31 : decode b_X_lineByte 31 = .ok (.aload_n 0, 1) := by decide +kernel
theorem d_X_lineByte_32 : decode b_X_lineByte 32 = .ok (.getfield 25, 3) := by decide +kernel
theorem d_X_lineByte_35 : decode b_X_lineByte 35 = .ok (.iload_n 1, 1) := by decide +kernel
theorem d_X_lineByte_36 : decode b_X_lineByte 36 = .ok (.iaload, 1) := by decide +kernel
theorem d_X_lineByte_37 : decode b_X_lineByte 37 = .ok (.if_icmp .ge 43, 3) := by decide +kernel
theorem d_X_lineByte_40 : decode b_X_lineByte 40 = .ok (.aload_n 0, 1) := by decide +kernel
theorem d_X_lineByte_41 : decode b_X_lineByte 41 = .ok (.iload_n 1, 1) := by decide +kernel
theorem d_X_lineByte_42 : decode b_X_lineByte 42 = .ok (.iload 4, 2) := by decide +kernel
theorem d_X_lineByte_44 : decode b_X_lineByte 44 = .ok (.invokevirtual 29, 3) := by decide +kernel
theorem d_X_lineByte_47 : decode b_X_lineByte 47 = .ok (.istore 5, 2) := by decide +kernel
theorem d_X_lineByte_49 : decode b_X_lineByte 49 = .ok (.iload 5, 2) := by decide +kernel
theorem d_X_lineByte_51 : decode b_X_lineByte 51 = .ok (.invokestatic 33, 3) := by decide +kernel
theorem d_X_lineByte_54 : decode b_X_lineByte 54 = .ok (.istore 6, 2) := by decide +kernel
theorem d_X_lineByte_56 : decode b_X_lineByte 56 = .ok (.iload_n 3, 1) := by decide +kernel
theorem d_X_lineByte_57 : decode b_X_lineByte 57 = .ok (.iload 6, 2) := by decide +kernel
theorem d_X_lineByte_59 : decode b_X_lineByte 59 = .ok (.if_icmp .ge 10, 3) := by decide +kernel
theorem d_X_lineByte_62 : decode b_X_lineByte 62 = .ok (.iload 5, 2) := by decide +kernel
theorem d_X_lineByte_64 : decode b_X_lineByte 64 = .ok (.iload_n 3, 1) := by decide +kernel
theorem d_X_lineByte_65 : decode b_X_lineByte 65 = .ok (.invokestatic 40, 3) := by decide +kernel
theorem d_X_lineByte_68 : decode b_X_lineByte 68 = .ok (.ireturn, 1) := by decide +kernel
theorem d_X_lineByte_69 : decode b_X_lineByte 69 = .ok (.iload_n 3, 1) := by decide +kernel
theorem d_X_lineByte_70 : decode b_X_lineByte 70 = .ok (.iload 6, 2) := by decide +kernel
theorem d_X_lineByte_72 : decode b_X_lineByte 72 = .ok (.isub, 1) := by decide +kernel
theorem d_X_lineByte_73 : decode b_X_lineByte 73 = .ok (.istore_n 3, 1) := by decide +kernel
theorem d_X_lineByte_74 : decode b_X_lineByte 74 = .ok (.iinc 4 1, 3) := by decide +kernel
theorem d_X_lineByte_77 : decode b_X_lineByte 77 = .ok (.goto (-48), 3) := by decide +kernel
theorem d_X_lineByte_80 : decode b_X_lineByte 80 = .ok (.bipush 10, 2) := by decide +kernel
theorem d_X_lineByte_82 : decode b_X_lineByte 82 = .ok (.ireturn, 1) := by decide +kernel
theorem d_X_byteOf_0 : decode b_X_byteOf 0 = .ok (.iload_n 1, 1) := by decide +kernel
theorem d_X_byteOf_1 : decode b_X_byteOf 1 = .ok (.istore_n 2, 1) := by decide +kernel
theorem d_X_byteOf_2 : decode b_X_byteOf 2 = .ok (.iconst 0, 1) := by decide +kernel
theorem d_X_byteOf_3 : decode b_X_byteOf 3 = .ok (.istore_n 3, 1) := by decide +kernel
theorem d_X_byteOf_4 : decode b_X_byteOf 4 = .ok (.iload_n 3, 1) := by decide +kernel
theorem d_X_byteOf_5 : decode b_X_byteOf 5 = .ok (.aload_n 0, 1) := by decide +kernel
theorem d_X_byteOf_6 : decode b_X_byteOf 6 = .ok (.getfield 9, 3) := by decide +kernel
theorem d_X_byteOf_9 : decode b_X_byteOf 9 = .ok (.if_icmp .ge 34, 3) := by decide +kernel
theorem d_X_byteOf_12 : decode b_X_byteOf 12 = .ok (.aload_n 0, 1) := by decide +kernel
theorem d_X_byteOf_13 : decode b_X_byteOf 13 = .ok (.iload_n 3, 1) := by decide +kernel
theorem d_X_byteOf_14 : decode b_X_byteOf 14 = .ok (.invokestatic 15, 3) := by decide +kernel
theorem d_X_byteOf_17 : decode b_X_byteOf 17 = .ok (.istore 4, 2) := by decide +kernel
theorem d_X_byteOf_19 : decode b_X_byteOf 19 = .ok (.iload_n 2, 1) := by decide +kernel
theorem d_X_byteOf_20 : decode b_X_byteOf 20 = .ok (.iload 4, 2) := by decide +kernel
theorem d_X_byteOf_22 : decode b_X_byteOf 22 = .ok (.if_icmp .ge 10, 3) := by decide +kernel
theorem d_X_byteOf_25 : decode b_X_byteOf 25 = .ok (.aload_n 0, 1) := by decide +kernel
theorem d_X_byteOf_26 : decode b_X_byteOf 26 = .ok (.iload_n 3, 1) := by decide +kernel
theorem d_X_byteOf_27 : decode b_X_byteOf 27 = .ok (.iload_n 2, 1) := by decide +kernel
theorem d_X_byteOf_28 : decode b_X_byteOf 28 = .ok (.invokestatic 21, 3) := by decide +kernel
theorem d_X_byteOf_31 : decode b_X_byteOf 31 = .ok (.ireturn, 1) := by decide +kernel
theorem d_X_byteOf_32 : decode b_X_byteOf 32 = .ok (.iload_n 2, 1) := by decide +kernel
theorem d_X_byteOf_33 : decode b_X_byteOf 33 = .ok (.iload 4, 2) := by decide +kernel
theorem d_X_byteOf_35 : decode b_X_byteOf 35 = .ok (.isub, 1) := by decide +kernel
theorem d_X_byteOf_36 : decode b_X_byteOf 36 = .ok (.istore_n 2, 1) := by decide +kernel
theorem d_X_byteOf_37 : decode b_X_byteOf 37 = .ok (.iinc 3 1, 3) := by decide +kernel
theorem d_X_byteOf_40 : decode b_X_byteOf 40 = .ok (.goto (-36), 3) := by decide +kernel
theorem d_X_byteOf_43 : decode b_X_byteOf 43 = .ok (.bipush 10, 2) := by decide +kernel
theorem d_X_byteOf_45 : decode b_X_byteOf 45 = .ok (.ireturn, 1) := by decide +kernel
def rm_X_literalLength : Room := { frames := 0, cells := 0, slots := 0, locals := 0 }
set_option maxHeartbeats 4000000 in
set_option maxRecDepth 100000 in
theorem c_X_literalLength (l : Launch) (D : va_G) (cA : Nat → ClassId) (ad : Nat → Nat) (sz : Nat) (p0 : Int32) (post : Int32 → Prop) (h : wp_X_literalLength p0 post) : Met l y_X_literalLength w_X_literalLength rm_X_literalLength (mPc D cA [.int p0] [] sz) (va_Qi (fun (r : Int32) (_ : Unit) => post r) (mB D (va_A [] sz) (fun (_ : Unit) => [])) (va_A [] sz)) 0 0 (va_A [] sz) := by
  refine m_methI (by decide) rfl (Nat.le_of_ble_eq_true rfl) ?_
  intro p e s m below meth c A Q ls hx hb hml hown hts hK hA hw hl hE
  have hl : lv_has ls 1 [(0, .int p0)] := hl
  have hown : s.vm.findClass R_X = some m.cls := hown
  have hg : ∀ {w : Cond}, w ∈ gw → w.before _ s = true := fun h => hts _ (List.mem_cons_of_mem _ h)
  unfold wp_X_literalLength at h
  refine lv_iload_n hx hb d_X_literalLength_0 rfl (lv_at hl 0 rfl) ?_
  refine lv_iconst (v := 1) hx hb d_X_literalLength_1 (by decide) ?_
  refine lv_ishr hx hb d_X_literalLength_2 ?_
  refine lv_bipush (v := 10) hx hb d_X_literalLength_3 (by decide) ?_
  refine lv_icmp_ge (tgt := 12) hx hb d_X_literalLength_5 (by decide) (fun hc => ?_) (fun hc => ?_)
  · have h := h.1 hc
    refine lv_iconst (v := 4) hx hb d_X_literalLength_12 (by decide) ?_
    exact hE 4 () _ _ _ _ h hw d_X_literalLength_13
  · have h := h.2 hc
    refine lv_iconst (v := 3) hx hb d_X_literalLength_8 (by decide) ?_
    refine lv_goto (tgt := 13) hx hb d_X_literalLength_9 (by decide) ?_
    exact hE 3 () _ _ _ _ h hw d_X_literalLength_13
def rm_X_lineLength : Room := { frames := 1, cells := 0, slots := 0, locals := 22 }
set_option maxHeartbeats 4000000 in
set_option maxRecDepth 100000 in
theorem c_X_lineLength (l : Launch) (D : va_G) (cA : Nat → ClassId) (ad : Nat → Nat) (sz : Nat) (F_size : Int32) (F_sizes : (Nat → Int32)) (F_literals : (Nat → Int32)) (p1 : Int32) (post : Int32 → Prop) (h : wp_X_lineLength F_sizes F_literals p1 post) : Met l y_X_lineLength w_X_lineLength rm_X_lineLength (mPc D cA [.ref (ad 6), .int p1] [(k_F cA ad F_size), (k_F_sizes cA ad F_sizes), (k_F_literals cA ad F_literals)] sz) (va_Qi (fun (r : Int32) (_ : Unit) => post r) (mB D (va_A [(k_F cA ad F_size), (k_F_sizes cA ad F_sizes), (k_F_literals cA ad F_literals)] sz) (fun (_ : Unit) => [(k_F cA ad F_size), (k_F_sizes cA ad F_sizes), (k_F_literals cA ad F_literals)])) (va_A [(k_F cA ad F_size), (k_F_sizes cA ad F_sizes), (k_F_literals cA ad F_literals)] sz)) 0 0 (va_A [(k_F cA ad F_size), (k_F_sizes cA ad F_sizes), (k_F_literals cA ad F_literals)] sz) := by
  refine m_methI (by decide) rfl (Nat.le_of_ble_eq_true rfl) ?_
  intro p e s m below meth c A Q ls hx hb hml hown hts hK hA hw hl hE
  have hl : lv_has ls 4 [(0, .ref (ad 6)), (1, .int p1)] := hl
  have hown : s.vm.findClass R_X = some m.cls := hown
  have hg : ∀ {w : Cond}, w ∈ gw → w.before _ s = true := fun h => hts _ (List.mem_cons_of_mem _ h)
  obtain ⟨C4, hC4⟩ : ∃ C : Int32 → Int32 → Prop, ∀ (x2 : Int32) (x3 : Int32), C x2 x3 ↔ (∀ (H : Heap) (locs : List Loc) (ls : Array Slot), mW D A s.heap [(k_F cA ad F_size), (k_F_sizes cA ad F_sizes), (k_F_literals cA ad F_literals)] H locs → lv_has ls 4 [(0, .ref (ad 6)), (1, .int p1), (2, .int x2), (3, .int x3)] → W p l e rm_X_lineLength s m [.ref (ad 6), .int p1].toArray below meth c H locs 0 0 Q (F0 m 4 ls [])) := ⟨_, fun _ _ => Iff.rfl⟩
  have hc4 : ∀ (x2 : Int32) (x3 : Int32), s_X_lineLength_4 F_sizes F_literals p1 C4 post x2 x3 → C4 x2 x3 := by
    intro x2 x3 h
    unfold s_X_lineLength_4 at h
    refine (hC4 _ _).2 ?_
    intro H locs ls hw hl
    refine lv_iload_n hx hb d_X_lineLength_4 rfl (lv_at hl 3 rfl) ?_
    refine lv_aload_n hx hb d_X_lineLength_5 rfl (lv_at hl 0 rfl) ?_
    refine va_getN (D := D) (ci := 2) (v := .ref (ad 8)) (C := R_F) (T := T_F) (N := 5) hx hb hts (fun w h => List.mem_cons_of_mem _ (iw_F w h)) hown hK.1 hw.1 0 rfl rfl 1 (by decide) (va_Nw.use rfl (hK.2 _ nw_71)) (fun _ h9 => h9) rfl d_X_lineLength_6 ?_
    refine lv_iload_n hx hb d_X_lineLength_9 rfl (lv_at hl 1 rfl) ?_
    refine va_iald hx hb hK.1 hw.1 1 0 rfl rfl h.1 d_X_lineLength_10 ?_
    have h := h.2
    refine lv_icmp_ge (tgt := 32) hx hb d_X_lineLength_11 (by decide) (fun hc => ?_) (fun hc => ?_)
    · have h := h.1 hc
      refine lv_iload_n hx hb d_X_lineLength_32 rfl (lv_at hl 2 rfl) ?_
      exact hE x2 () _ _ _ _ h hw d_X_lineLength_33
    · have h := h.2 hc
      refine lv_iload_n hx hb d_X_lineLength_14 rfl (lv_at hl 2 rfl) ?_
      refine lv_aload_n hx hb d_X_lineLength_15 rfl (lv_at hl 0 rfl) ?_
      refine lv_iload_n hx hb d_X_lineLength_16 rfl (lv_at hl 1 rfl) ?_
      refine lv_iload_n hx hb d_X_lineLength_17 rfl (lv_at hl 3 rfl) ?_
      refine m_calli (hr := va_runVN (As := [.int p1, .int x3]) (rest := [.int x2]) ⟨hx, hb, hml, hown, hts⟩ (c_F_literalOf l D cA ad _ F_size F_literals p1 x3 _ h) ⟨va_cnB 2 hts (gin gm_235) rfl rfl rfl (hK.2 _ nw_539) (hg gm_3) (by decide +kernel) ⟨Nat.le_of_ble_eq_true rfl, Nat.le_of_ble_eq_true rfl⟩, hg gm_234, hg gs_16⟩ (m_preV 2 0 rfl rfl hK hw [0, 2] rfl rfl) rfl rfl hl.1 rfl (lv_room (Nat.le_of_ble_eq_true rfl)) d_X_lineLength_18 ⟨Nat.zero_le _, Nat.zero_le _⟩) (w2 := (fun (_ : Unit) => [(k_F cA ad F_size), (k_F_sizes cA ad F_sizes), (k_F_literals cA ad F_literals)])) (wr := [(k_F_sizes cA ad F_sizes)]) hw hA [0, 2] [1] [1, 0, 2] rfl rfl (by decide) (by decide) (by decide) (fun _ => rfl) (fun r18 u H locs hw h => ?_)
      refine m_calli (hr := va_runS (As := [.int r18]) (rest := [.int x2]) ⟨hx, hb, hml, hown, hts⟩ (c_X_literalLength l D cA ad _ r18 _ h) (va_cwS 1 hts (ginS gm_540 gm_541 gm_15 gm_542) rfl rfl rfl (by decide +kernel) ⟨Nat.le_of_ble_eq_true rfl, Nat.le_of_ble_eq_true rfl⟩) (m_preS hK hw [] rfl rfl) rfl rfl hl.1 rfl (lv_room (Nat.le_of_ble_eq_true rfl)) d_X_lineLength_21 ⟨Nat.zero_le _, Nat.zero_le _⟩) (w2 := (fun (_ : Unit) => [(k_F cA ad F_size), (k_F_sizes cA ad F_sizes), (k_F_literals cA ad F_literals)])) (wr := [(k_F cA ad F_size), (k_F_sizes cA ad F_sizes), (k_F_literals cA ad F_literals)]) hw hA [] [0, 1, 2] [0, 1, 2] rfl rfl (by decide) (by decide) (by decide) (fun _ => rfl) (fun r21 u H locs hw h => ?_)
      refine lv_iadd hx hb d_X_lineLength_24 ?_
      refine lv_istore_n (lv' := [(2, .int (x2 + r21)), (0, .ref (ad 6)), (1, .int p1), (3, .int x3)]) hx hb d_X_lineLength_25 rfl hl (by decide) rfl (fun ls hl => ?_)
      refine lv_iinc (v := (x3 + 1)) (lv' := [(3, .int (x3 + 1)), (2, .int (x2 + r21)), (0, .ref (ad 6)), (1, .int p1)]) hx hb d_X_lineLength_26 hl (k := 3) rfl rfl (by decide) rfl (fun ls hl => ?_)
      refine lv_goto (tgt := 4) hx hb d_X_lineLength_29 (by decide) ?_
      exact (hC4 _ _).1 h _ _ _ hw (lv_sub hl [2, 3, 1, 0] rfl)
  unfold wp_X_lineLength at h
  have h := h C4 hc4
  refine lv_iconst (v := 2) hx hb d_X_lineLength_0 (by decide) ?_
  refine lv_istore_n (lv' := [(2, .int 2), (0, .ref (ad 6)), (1, .int p1)]) hx hb d_X_lineLength_1 rfl hl (by decide) rfl (fun ls hl => ?_)
  refine lv_iconst (v := 0) hx hb d_X_lineLength_2 (by decide) ?_
  refine lv_istore_n (lv' := [(3, .int 0), (2, .int 2), (0, .ref (ad 6)), (1, .int p1)]) hx hb d_X_lineLength_3 rfl hl (by decide) rfl (fun ls hl => ?_)
  exact (hC4 _ _).1 h _ _ _ hw (lv_sub hl [2, 3, 1, 0] rfl)
def rm_X_lengthOf : Room := { frames := 2, cells := 0, slots := 0, locals := 45 }
set_option maxHeartbeats 4000000 in
set_option maxRecDepth 100000 in
theorem c_X_lengthOf (l : Launch) (D : va_G) (cA : Nat → ClassId) (ad : Nat → Nat) (sz : Nat) (F_size : Int32) (F_sizes : (Nat → Int32)) (F_literals : (Nat → Int32)) (post : Int32 → Prop) (h : wp_X_lengthOf F_size F_sizes F_literals post) : Met l y_X_lengthOf w_X_lengthOf rm_X_lengthOf (mPc D cA [.ref (ad 6)] [(k_F cA ad F_size), (k_F_sizes cA ad F_sizes), (k_F_literals cA ad F_literals)] sz) (va_Qi (fun (r : Int32) (_ : Unit) => post r) (mB D (va_A [(k_F cA ad F_size), (k_F_sizes cA ad F_sizes), (k_F_literals cA ad F_literals)] sz) (fun (_ : Unit) => [(k_F cA ad F_size), (k_F_sizes cA ad F_sizes), (k_F_literals cA ad F_literals)])) (va_A [(k_F cA ad F_size), (k_F_sizes cA ad F_sizes), (k_F_literals cA ad F_literals)] sz)) 0 0 (va_A [(k_F cA ad F_size), (k_F_sizes cA ad F_sizes), (k_F_literals cA ad F_literals)] sz) := by
  refine m_methI (by decide) rfl (Nat.le_of_ble_eq_true rfl) ?_
  intro p e s m below meth c A Q ls hx hb hml hown hts hK hA hw hl hE
  have hl : lv_has ls 3 [(0, .ref (ad 6))] := hl
  have hown : s.vm.findClass R_X = some m.cls := hown
  have hg : ∀ {w : Cond}, w ∈ gw → w.before _ s = true := fun h => hts _ (List.mem_cons_of_mem _ h)
  obtain ⟨C4, hC4⟩ : ∃ C : Int32 → Int32 → Prop, ∀ (x1 : Int32) (x2 : Int32), C x1 x2 ↔ (∀ (H : Heap) (locs : List Loc) (ls : Array Slot), mW D A s.heap [(k_F cA ad F_size), (k_F_sizes cA ad F_sizes), (k_F_literals cA ad F_literals)] H locs → lv_has ls 3 [(0, .ref (ad 6)), (1, .int x1), (2, .int x2)] → W p l e rm_X_lengthOf s m [.ref (ad 6)].toArray below meth c H locs 0 0 Q (F0 m 4 ls [])) := ⟨_, fun _ _ => Iff.rfl⟩
  have hc4 : ∀ (x1 : Int32) (x2 : Int32), s_X_lengthOf_4 F_size F_sizes F_literals C4 post x1 x2 → C4 x1 x2 := by
    intro x1 x2 h
    unfold s_X_lengthOf_4 at h
    refine (hC4 _ _).2 ?_
    intro H locs ls hw hl
    refine lv_iload_n hx hb d_X_lengthOf_4 rfl (lv_at hl 2 rfl) ?_
    refine lv_aload_n hx hb d_X_lengthOf_5 rfl (lv_at hl 0 rfl) ?_
    refine va_getN (D := D) (ci := 2) (v := .int F_size) (C := R_F) (T := T_F) (N := 5) hx hb hts (fun w h => List.mem_cons_of_mem _ (iw_F w h)) hown hK.1 hw.1 0 rfl rfl 4 (by decide) (va_Nw.use rfl (hK.2 _ nw_78)) (fun _ h9 => h9) rfl d_X_lengthOf_6 ?_
    refine lv_icmp_ge (tgt := 26) hx hb d_X_lengthOf_9 (by decide) (fun hc => ?_) (fun hc => ?_)
    · have h := h.1 hc
      refine lv_iload_n hx hb d_X_lengthOf_26 rfl (lv_at hl 1 rfl) ?_
      exact hE x1 () _ _ _ _ h hw d_X_lengthOf_27
    · have h := h.2 hc
      refine lv_iload_n hx hb d_X_lengthOf_12 rfl (lv_at hl 1 rfl) ?_
      refine lv_aload_n hx hb d_X_lengthOf_13 rfl (lv_at hl 0 rfl) ?_
      refine lv_iload_n hx hb d_X_lengthOf_14 rfl (lv_at hl 2 rfl) ?_
      refine m_calli (hr := va_runS (As := [.ref (ad 6), .int x2]) (rest := [.int x1]) ⟨hx, hb, hml, hown, hts⟩ (c_X_lineLength l D cA ad _ F_size F_sizes F_literals x2 _ h) (va_cwS 2 hts (ginS gm_536 gm_537 gm_15 gm_538) rfl rfl rfl (by decide +kernel) ⟨Nat.le_of_ble_eq_true rfl, Nat.le_of_ble_eq_true rfl⟩) (m_preS hK hw [0, 1, 2] rfl rfl) rfl rfl hl.1 rfl (lv_room (Nat.le_of_ble_eq_true rfl)) d_X_lengthOf_15 ⟨Nat.zero_le _, Nat.zero_le _⟩) (w2 := (fun (_ : Unit) => [(k_F cA ad F_size), (k_F_sizes cA ad F_sizes), (k_F_literals cA ad F_literals)])) (wr := []) hw hA [0, 1, 2] [] [0, 1, 2] rfl rfl (by decide) (by decide) (by decide) (fun _ => rfl) (fun r15 u H locs hw h => ?_)
      refine lv_iadd hx hb d_X_lengthOf_18 ?_
      refine lv_istore_n (lv' := [(1, .int (x1 + r15)), (0, .ref (ad 6)), (2, .int x2)]) hx hb d_X_lengthOf_19 rfl hl (by decide) rfl (fun ls hl => ?_)
      refine lv_iinc (v := (x2 + 1)) (lv' := [(2, .int (x2 + 1)), (1, .int (x1 + r15)), (0, .ref (ad 6))]) hx hb d_X_lengthOf_20 hl (k := 2) rfl rfl (by decide) rfl (fun ls hl => ?_)
      refine lv_goto (tgt := 4) hx hb d_X_lengthOf_23 (by decide) ?_
      exact (hC4 _ _).1 h _ _ _ hw (lv_sub hl [2, 1, 0] rfl)
  unfold wp_X_lengthOf at h
  have h := h C4 hc4
  refine lv_iconst (v := 0) hx hb d_X_lengthOf_0 (by decide) ?_
  refine lv_istore_n (lv' := [(1, .int 0), (0, .ref (ad 6))]) hx hb d_X_lengthOf_1 rfl hl (by decide) rfl (fun ls hl => ?_)
  refine lv_iconst (v := 0) hx hb d_X_lengthOf_2 (by decide) ?_
  refine lv_istore_n (lv' := [(2, .int 0), (1, .int 0), (0, .ref (ad 6))]) hx hb d_X_lengthOf_3 rfl hl (by decide) rfl (fun ls hl => ?_)
  exact (hC4 _ _).1 h _ _ _ hw (lv_sub hl [2, 1, 0] rfl)
def rm_X_literalByte : Room := { frames := 1, cells := 0, slots := 0, locals := 20 }
set_option maxHeartbeats 4000000 in
set_option maxRecDepth 100000 in
theorem c_X_literalByte (l : Launch) (D : va_G) (cA : Nat → ClassId) (ad : Nat → Nat) (sz : Nat) (p0 : Int32) (p1 : Int32) (post : Int32 → Prop) (h : wp_X_literalByte p0 p1 post) : Met l y_X_literalByte w_X_literalByte rm_X_literalByte (mPc D cA [.int p0, .int p1] [] sz) (va_Qi (fun (r : Int32) (_ : Unit) => post r) (mB D (va_A [] sz) (fun (_ : Unit) => [])) (va_A [] sz)) 0 0 (va_A [] sz) := by
  refine m_methI (by decide) rfl (Nat.le_of_ble_eq_true rfl) ?_
  intro p e s m below meth c A Q ls hx hb hml hown hts hK hA hw hl hE
  have hl : lv_has ls 3 [(0, .int p0), (1, .int p1)] := hl
  have hown : s.vm.findClass R_X = some m.cls := hown
  have hg : ∀ {w : Cond}, w ∈ gw → w.before _ s = true := fun h => hts _ (List.mem_cons_of_mem _ h)
  unfold wp_X_literalByte at h
  refine lv_iload_n hx hb d_X_literalByte_0 rfl (lv_at hl 1 rfl) ?_
  refine lv_if_ne (tgt := 7) hx hb d_X_literalByte_1 (by decide) (fun hc => ?_) (fun hc => ?_)
  · have h := h.2 hc
    refine lv_iload_n hx hb d_X_literalByte_7 rfl (lv_at hl 1 rfl) ?_
    refine lv_iconst (v := 1) hx hb d_X_literalByte_8 (by decide) ?_
    refine lv_icmp_ne (tgt := 27) hx hb d_X_literalByte_9 (by decide) (fun hc => ?_) (fun hc => ?_)
    · have h := h.2 hc
      refine lv_iload_n hx hb d_X_literalByte_27 rfl (lv_at hl 0 rfl) ?_
      refine lv_iconst (v := 1) hx hb d_X_literalByte_28 (by decide) ?_
      refine lv_ishr hx hb d_X_literalByte_29 ?_
      refine lv_istore_n (lv' := [(2, .int (p0 >>> ((1 : Int32) &&& 31))), (0, .int p0), (1, .int p1)]) hx hb d_X_literalByte_30 rfl hl (by decide) rfl (fun ls hl => ?_)
      refine lv_bipush (v := 48) hx hb d_X_literalByte_31 (by decide) ?_
      refine lv_iload_n hx hb d_X_literalByte_33 rfl (lv_at hl 2 rfl) ?_
      refine lv_iload_n hx hb d_X_literalByte_34 rfl (lv_at hl 1 rfl) ?_
      refine m_calli (hr := va_runS (As := [.int p0]) (rest := [.int p1, .int 48]) ⟨hx, hb, hml, hown, hts⟩ (c_X_literalLength l D cA ad _ p0 _ h) (va_cwS 1 hts (ginS gm_540 gm_541 gm_15 gm_542) rfl rfl rfl (by decide +kernel) ⟨Nat.le_of_ble_eq_true rfl, Nat.le_of_ble_eq_true rfl⟩) (m_preS hK hw [] rfl rfl) rfl rfl hl.1 rfl (lv_room (Nat.le_of_ble_eq_true rfl)) d_X_literalByte_35 ⟨Nat.zero_le _, Nat.zero_le _⟩) (w2 := (fun (_ : Unit) => [])) (wr := []) hw hA [] [] [] rfl rfl (by decide) (by decide) (by decide) (fun _ => rfl) (fun r35 u H locs hw h => ?_)
      refine lv_iconst (v := 1) hx hb d_X_literalByte_38 (by decide) ?_
      refine lv_isub hx hb d_X_literalByte_39 ?_
      refine lv_icmp_ne (tgt := 50) hx hb d_X_literalByte_40 (by decide) (fun hc => ?_) (fun hc => ?_)
      · have h := h.2 hc
        refine lv_iload_n hx hb d_X_literalByte_50 rfl (lv_at hl 0 rfl) ?_
        refine lv_bipush (v := 10) hx hb d_X_literalByte_51 (by decide) ?_
        refine lv_idiv hx hb d_X_literalByte_53 (by decide) ?_
        refine lv_iadd hx hb d_X_literalByte_54 ?_
        exact hE (48 + ((p0 >>> ((1 : Int32) &&& 31)) / 10)) () _ _ _ _ h hw d_X_literalByte_55
      · have h := h.1 hc
        refine lv_iload_n hx hb d_X_literalByte_43 rfl (lv_at hl 0 rfl) ?_
        refine lv_bipush (v := 10) hx hb d_X_literalByte_44 (by decide) ?_
        refine lv_irem hx hb d_X_literalByte_46 (by decide) ?_
        refine lv_goto (tgt := 54) hx hb d_X_literalByte_47 (by decide) ?_
        refine lv_iadd hx hb d_X_literalByte_54 ?_
        exact hE (48 + ((p0 >>> ((1 : Int32) &&& 31)) - (p0 >>> ((1 : Int32) &&& 31)) / 10 * 10)) () _ _ _ _ h hw d_X_literalByte_55
    · have h := h.1 hc
      refine lv_iload_n hx hb d_X_literalByte_12 rfl (lv_at hl 0 rfl) ?_
      refine lv_iconst (v := 1) hx hb d_X_literalByte_13 (by decide) ?_
      refine lv_iand hx hb d_X_literalByte_14 ?_
      refine lv_iconst (v := 1) hx hb d_X_literalByte_15 (by decide) ?_
      refine lv_icmp_ne (tgt := 24) hx hb d_X_literalByte_16 (by decide) (fun hc => ?_) (fun hc => ?_)
      · have h := h.2 hc
        refine lv_bipush (v := 43) hx hb d_X_literalByte_24 (by decide) ?_
        exact hE 43 () _ _ _ _ h hw d_X_literalByte_26
      · have h := h.1 hc
        refine lv_bipush (v := 45) hx hb d_X_literalByte_19 (by decide) ?_
        refine lv_goto (tgt := 26) hx hb d_X_literalByte_21 (by decide) ?_
        exact hE 45 () _ _ _ _ h hw d_X_literalByte_26
  · have h := h.1 hc
    refine lv_bipush (v := 32) hx hb d_X_literalByte_4 (by decide) ?_
    exact hE 32 () _ _ _ _ h hw d_X_literalByte_6
def rm_X_lineByte : Room := { frames := 2, cells := 0, slots := 0, locals := 42 }
set_option maxHeartbeats 4000000 in
set_option maxRecDepth 100000 in
theorem c_X_lineByte (l : Launch) (D : va_G) (cA : Nat → ClassId) (ad : Nat → Nat) (sz : Nat) (F_size : Int32) (F_kinds : (Nat → Int32)) (F_sizes : (Nat → Int32)) (F_literals : (Nat → Int32)) (p1 : Int32) (p2 : Int32) (post : Int32 → Prop) (h : wp_X_lineByte F_kinds F_sizes F_literals p1 p2 post) : Met l y_X_lineByte w_X_lineByte rm_X_lineByte (mPc D cA [.ref (ad 6), .int p1, .int p2] [(k_F cA ad F_size), (k_F_kinds cA ad F_kinds), (k_F_sizes cA ad F_sizes), (k_F_literals cA ad F_literals)] sz) (va_Qi (fun (r : Int32) (_ : Unit) => post r) (mB D (va_A [(k_F cA ad F_size), (k_F_kinds cA ad F_kinds), (k_F_sizes cA ad F_sizes), (k_F_literals cA ad F_literals)] sz) (fun (_ : Unit) => [(k_F cA ad F_size), (k_F_kinds cA ad F_kinds), (k_F_sizes cA ad F_sizes), (k_F_literals cA ad F_literals)])) (va_A [(k_F cA ad F_size), (k_F_kinds cA ad F_kinds), (k_F_sizes cA ad F_sizes), (k_F_literals cA ad F_literals)] sz)) 0 0 (va_A [(k_F cA ad F_size), (k_F_kinds cA ad F_kinds), (k_F_sizes cA ad F_sizes), (k_F_literals cA ad F_literals)] sz) := by
  refine m_methI (by decide) rfl (Nat.le_of_ble_eq_true rfl) ?_
  intro p e s m below meth c A Q ls hx hb hml hown hts hK hA hw hl hE
  have hl : lv_has ls 7 [(0, .ref (ad 6)), (1, .int p1), (2, .int p2)] := hl
  have hown : s.vm.findClass R_X = some m.cls := hown
  have hg : ∀ {w : Cond}, w ∈ gw → w.before _ s = true := fun h => hts _ (List.mem_cons_of_mem _ h)
  obtain ⟨C29, hC29⟩ : ∃ C : Int32 → Int32 → Prop, ∀ (x3 : Int32) (x4 : Int32), C x3 x4 ↔ (∀ (H : Heap) (locs : List Loc) (ls : Array Slot), mW D A s.heap [(k_F cA ad F_size), (k_F_kinds cA ad F_kinds), (k_F_sizes cA ad F_sizes), (k_F_literals cA ad F_literals)] H locs → lv_has ls 7 [(0, .ref (ad 6)), (1, .int p1), (3, .int x3), (4, .int x4)] → W p l e rm_X_lineByte s m [.ref (ad 6), .int p1, .int p2].toArray below meth c H locs 0 0 Q (F0 m 29 ls [])) := ⟨_, fun _ _ => Iff.rfl⟩
  have hc29 : ∀ (x3 : Int32) (x4 : Int32), s_X_lineByte_29 F_kinds F_sizes F_literals p1 p2 C29 post x3 x4 → C29 x3 x4 := by
    intro x3 x4 h
    unfold s_X_lineByte_29 at h
    refine (hC29 _ _).2 ?_
    intro H locs ls hw hl
    refine lv_iload hx hb d_X_lineByte_29 (lv_at hl 3 rfl) ?_
    refine lv_aload_n hx hb d_X_lineByte_31 rfl (lv_at hl 0 rfl) ?_
    refine va_getN (D := D) (ci := 2) (v := .ref (ad 8)) (C := R_F) (T := T_F) (N := 5) hx hb hts (fun w h => List.mem_cons_of_mem _ (iw_F w h)) hown hK.1 hw.1 0 rfl rfl 1 (by decide) (va_Nw.use rfl (hK.2 _ nw_71)) (fun _ h9 => h9) rfl d_X_lineByte_32 ?_
    refine lv_iload_n hx hb d_X_lineByte_35 rfl (lv_at hl 1 rfl) ?_
    refine va_iald hx hb hK.1 hw.1 2 0 rfl rfl h.1 d_X_lineByte_36 ?_
    have h := h.2
    refine lv_icmp_ge (tgt := 80) hx hb d_X_lineByte_37 (by decide) (fun hc => ?_) (fun hc => ?_)
    · have h := h.1 hc
      refine lv_bipush (v := 10) hx hb d_X_lineByte_80 (by decide) ?_
      exact hE 10 () _ _ _ _ h hw d_X_lineByte_82
    · have h := h.2 hc
      refine lv_aload_n hx hb d_X_lineByte_40 rfl (lv_at hl 0 rfl) ?_
      refine lv_iload_n hx hb d_X_lineByte_41 rfl (lv_at hl 1 rfl) ?_
      refine lv_iload hx hb d_X_lineByte_42 (lv_at hl 3 rfl) ?_
      refine m_calli (hr := va_runVN (As := [.int p1, .int x4]) (rest := []) ⟨hx, hb, hml, hown, hts⟩ (c_F_literalOf l D cA ad _ F_size F_literals p1 x4 _ h) ⟨va_cnB 2 hts (gin gm_235) rfl rfl rfl (hK.2 _ nw_539) (hg gm_3) (by decide +kernel) ⟨Nat.le_of_ble_eq_true rfl, Nat.le_of_ble_eq_true rfl⟩, hg gm_234, hg gs_16⟩ (m_preV 2 0 rfl rfl hK hw [0, 3] rfl rfl) rfl rfl hl.1 rfl (lv_room (Nat.le_of_ble_eq_true rfl)) d_X_lineByte_44 ⟨Nat.zero_le _, Nat.zero_le _⟩) (w2 := (fun (_ : Unit) => [(k_F cA ad F_size), (k_F_kinds cA ad F_kinds), (k_F_sizes cA ad F_sizes), (k_F_literals cA ad F_literals)])) (wr := [(k_F_kinds cA ad F_kinds), (k_F_sizes cA ad F_sizes)]) hw hA [0, 3] [1, 2] [2, 0, 1, 3] rfl rfl (by decide) (by decide) (by decide) (fun _ => rfl) (fun r44 u H locs hw h => ?_)
      refine lv_istore (lv' := [(5, .int r44), (0, .ref (ad 6)), (1, .int p1), (3, .int x3), (4, .int x4)]) hx hb d_X_lineByte_47 hl (by decide) rfl (fun ls hl => ?_)
      refine lv_iload hx hb d_X_lineByte_49 (lv_at hl 0 rfl) ?_
      refine m_calli (hr := va_runS (As := [.int r44]) (rest := []) ⟨hx, hb, hml, hown, hts⟩ (c_X_literalLength l D cA ad _ r44 _ h) (va_cwS 1 hts (ginS gm_540 gm_541 gm_15 gm_542) rfl rfl rfl (by decide +kernel) ⟨Nat.le_of_ble_eq_true rfl, Nat.le_of_ble_eq_true rfl⟩) (m_preS hK hw [] rfl rfl) rfl rfl hl.1 rfl (lv_room (Nat.le_of_ble_eq_true rfl)) d_X_lineByte_51 ⟨Nat.zero_le _, Nat.zero_le _⟩) (w2 := (fun (_ : Unit) => [(k_F cA ad F_size), (k_F_kinds cA ad F_kinds), (k_F_sizes cA ad F_sizes), (k_F_literals cA ad F_literals)])) (wr := [(k_F cA ad F_size), (k_F_kinds cA ad F_kinds), (k_F_sizes cA ad F_sizes), (k_F_literals cA ad F_literals)]) hw hA [] [0, 1, 2, 3] [0, 1, 2, 3] rfl rfl (by decide) (by decide) (by decide) (fun _ => rfl) (fun r51 u H locs hw h => ?_)
      refine lv_istore (lv' := [(6, .int r51), (5, .int r44), (0, .ref (ad 6)), (1, .int p1), (3, .int x3), (4, .int x4)]) hx hb d_X_lineByte_54 hl (by decide) rfl (fun ls hl => ?_)
      refine lv_iload_n hx hb d_X_lineByte_56 rfl (lv_at hl 4 rfl) ?_
      refine lv_iload hx hb d_X_lineByte_57 (lv_at hl 0 rfl) ?_
      refine lv_icmp_ge (tgt := 69) hx hb d_X_lineByte_59 (by decide) (fun hc => ?_) (fun hc => ?_)
      · have h := h.1 hc
        refine lv_iload_n hx hb d_X_lineByte_69 rfl (lv_at hl 4 rfl) ?_
        refine lv_iload hx hb d_X_lineByte_70 (lv_at hl 0 rfl) ?_
        refine lv_isub hx hb d_X_lineByte_72 ?_
        refine lv_istore_n (lv' := [(3, .int (x3 - r51)), (6, .int r51), (5, .int r44), (0, .ref (ad 6)), (1, .int p1), (4, .int x4)]) hx hb d_X_lineByte_73 rfl hl (by decide) rfl (fun ls hl => ?_)
        refine lv_iinc (v := (x4 + 1)) (lv' := [(4, .int (x4 + 1)), (3, .int (x3 - r51)), (6, .int r51), (5, .int r44), (0, .ref (ad 6)), (1, .int p1)]) hx hb d_X_lineByte_74 hl (k := 5) rfl rfl (by decide) rfl (fun ls hl => ?_)
        refine lv_goto (tgt := 29) hx hb d_X_lineByte_77 (by decide) ?_
        exact (hC29 _ _).1 h _ _ _ hw (lv_sub hl [4, 5, 1, 0] rfl)
      · have h := h.2 hc
        refine lv_iload hx hb d_X_lineByte_62 (lv_at hl 1 rfl) ?_
        refine lv_iload_n hx hb d_X_lineByte_64 rfl (lv_at hl 4 rfl) ?_
        refine m_calli (hr := va_runS (As := [.int r44, .int x3]) (rest := []) ⟨hx, hb, hml, hown, hts⟩ (c_X_literalByte l D cA ad _ r44 x3 _ h) (va_cwS 2 hts (ginS gm_550 gm_551 gm_15 gm_552) rfl rfl rfl (by decide +kernel) ⟨Nat.le_of_ble_eq_true rfl, Nat.le_of_ble_eq_true rfl⟩) (m_preS hK hw [] rfl rfl) rfl rfl hl.1 rfl (lv_room (Nat.le_of_ble_eq_true rfl)) d_X_lineByte_65 ⟨Nat.zero_le _, Nat.zero_le _⟩) (w2 := (fun (_ : Unit) => [(k_F cA ad F_size), (k_F_kinds cA ad F_kinds), (k_F_sizes cA ad F_sizes), (k_F_literals cA ad F_literals)])) (wr := [(k_F cA ad F_size), (k_F_kinds cA ad F_kinds), (k_F_sizes cA ad F_sizes), (k_F_literals cA ad F_literals)]) hw hA [] [0, 1, 2, 3] [0, 1, 2, 3] rfl rfl (by decide) (by decide) (by decide) (fun _ => rfl) (fun r65 u H locs hw h => ?_)
        exact hE r65 () _ _ _ _ h hw d_X_lineByte_68
  unfold wp_X_lineByte at h
  have h := h C29 hc29
  refine lv_iload_n hx hb d_X_lineByte_0 rfl (lv_at hl 2 rfl) ?_
  refine lv_if_ne (tgt := 22) hx hb d_X_lineByte_1 (by decide) (fun hc => ?_) (fun hc => ?_)
  · have h := h.2 hc
    refine lv_iload_n hx hb d_X_lineByte_22 rfl (lv_at hl 2 rfl) ?_
    refine lv_iconst (v := 1) hx hb d_X_lineByte_23 (by decide) ?_
    refine lv_isub hx hb d_X_lineByte_24 ?_
    refine lv_istore_n (lv' := [(3, .int (p2 - 1)), (0, .ref (ad 6)), (1, .int p1), (2, .int p2)]) hx hb d_X_lineByte_25 rfl hl (by decide) rfl (fun ls hl => ?_)
    refine lv_iconst (v := 0) hx hb d_X_lineByte_26 (by decide) ?_
    refine lv_istore (lv' := [(4, .int 0), (3, .int (p2 - 1)), (0, .ref (ad 6)), (1, .int p1), (2, .int p2)]) hx hb d_X_lineByte_27 hl (by decide) rfl (fun ls hl => ?_)
    exact (hC29 _ _).1 h _ _ _ hw (lv_sub hl [2, 3, 1, 0] rfl)
  · have h := h.1 hc
    refine lv_aload_n hx hb d_X_lineByte_4 rfl (lv_at hl 0 rfl) ?_
    refine va_getN (D := D) (ci := 2) (v := .ref (ad 7)) (C := R_F) (T := T_F) (N := 5) hx hb hts (fun w h => List.mem_cons_of_mem _ (iw_F w h)) hown hK.1 hw.1 0 rfl rfl 0 (by decide) (va_Nw.use rfl (hK.2 _ nw_67)) (fun _ h9 => h9) rfl d_X_lineByte_5 ?_
    refine lv_iload_n hx hb d_X_lineByte_8 rfl (lv_at hl 1 rfl) ?_
    refine va_iald hx hb hK.1 hw.1 1 0 rfl rfl h.1 d_X_lineByte_9 ?_
    have h := h.2
    refine lv_iconst (v := 1) hx hb d_X_lineByte_10 (by decide) ?_
    refine lv_icmp_ne (tgt := 19) hx hb d_X_lineByte_11 (by decide) (fun hc => ?_) (fun hc => ?_)
    · have h := h.2 hc
      refine lv_bipush (v := 99) hx hb d_X_lineByte_19 (by decide) ?_
      exact hE 99 () _ _ _ _ h hw d_X_lineByte_21
    · have h := h.1 hc
      refine lv_bipush (v := 61) hx hb d_X_lineByte_14 (by decide) ?_
      refine lv_goto (tgt := 21) hx hb d_X_lineByte_16 (by decide) ?_
      exact hE 61 () _ _ _ _ h hw d_X_lineByte_21
def rm_X_byteOf : Room := { frames := 3, cells := 0, slots := 0, locals := 68 }
set_option maxHeartbeats 4000000 in
set_option maxRecDepth 100000 in
theorem c_X_byteOf (l : Launch) (D : va_G) (cA : Nat → ClassId) (ad : Nat → Nat) (sz : Nat) (F_size : Int32) (F_kinds : (Nat → Int32)) (F_sizes : (Nat → Int32)) (F_literals : (Nat → Int32)) (p1 : Int32) (post : Int32 → Prop) (h : wp_X_byteOf F_size F_kinds F_sizes F_literals p1 post) : Met l y_X_byteOf w_X_byteOf rm_X_byteOf (mPc D cA [.ref (ad 6), .int p1] [(k_F cA ad F_size), (k_F_kinds cA ad F_kinds), (k_F_sizes cA ad F_sizes), (k_F_literals cA ad F_literals)] sz) (va_Qi (fun (r : Int32) (_ : Unit) => post r) (mB D (va_A [(k_F cA ad F_size), (k_F_kinds cA ad F_kinds), (k_F_sizes cA ad F_sizes), (k_F_literals cA ad F_literals)] sz) (fun (_ : Unit) => [(k_F cA ad F_size), (k_F_kinds cA ad F_kinds), (k_F_sizes cA ad F_sizes), (k_F_literals cA ad F_literals)])) (va_A [(k_F cA ad F_size), (k_F_kinds cA ad F_kinds), (k_F_sizes cA ad F_sizes), (k_F_literals cA ad F_literals)] sz)) 0 0 (va_A [(k_F cA ad F_size), (k_F_kinds cA ad F_kinds), (k_F_sizes cA ad F_sizes), (k_F_literals cA ad F_literals)] sz) := by
  refine m_methI (by decide) rfl (Nat.le_of_ble_eq_true rfl) ?_
  intro p e s m below meth c A Q ls hx hb hml hown hts hK hA hw hl hE
  have hl : lv_has ls 5 [(0, .ref (ad 6)), (1, .int p1)] := hl
  have hown : s.vm.findClass R_X = some m.cls := hown
  have hg : ∀ {w : Cond}, w ∈ gw → w.before _ s = true := fun h => hts _ (List.mem_cons_of_mem _ h)
  obtain ⟨C4, hC4⟩ : ∃ C : Int32 → Int32 → Prop, ∀ (x2 : Int32) (x3 : Int32), C x2 x3 ↔ (∀ (H : Heap) (locs : List Loc) (ls : Array Slot), mW D A s.heap [(k_F cA ad F_size), (k_F_kinds cA ad F_kinds), (k_F_sizes cA ad F_sizes), (k_F_literals cA ad F_literals)] H locs → lv_has ls 5 [(0, .ref (ad 6)), (2, .int x2), (3, .int x3)] → W p l e rm_X_byteOf s m [.ref (ad 6), .int p1].toArray below meth c H locs 0 0 Q (F0 m 4 ls [])) := ⟨_, fun _ _ => Iff.rfl⟩
  have hc4 : ∀ (x2 : Int32) (x3 : Int32), s_X_byteOf_4 F_size F_kinds F_sizes F_literals p1 C4 post x2 x3 → C4 x2 x3 := by
    intro x2 x3 h
    unfold s_X_byteOf_4 at h
    refine (hC4 _ _).2 ?_
    intro H locs ls hw hl
    refine lv_iload_n hx hb d_X_byteOf_4 rfl (lv_at hl 2 rfl) ?_
    refine lv_aload_n hx hb d_X_byteOf_5 rfl (lv_at hl 0 rfl) ?_
    refine va_getN (D := D) (ci := 2) (v := .int F_size) (C := R_F) (T := T_F) (N := 5) hx hb hts (fun w h => List.mem_cons_of_mem _ (iw_F w h)) hown hK.1 hw.1 0 rfl rfl 4 (by decide) (va_Nw.use rfl (hK.2 _ nw_78)) (fun _ h9 => h9) rfl d_X_byteOf_6 ?_
    refine lv_icmp_ge (tgt := 43) hx hb d_X_byteOf_9 (by decide) (fun hc => ?_) (fun hc => ?_)
    · have h := h.1 hc
      refine lv_bipush (v := 10) hx hb d_X_byteOf_43 (by decide) ?_
      exact hE 10 () _ _ _ _ h hw d_X_byteOf_45
    · have h := h.2 hc
      refine lv_aload_n hx hb d_X_byteOf_12 rfl (lv_at hl 0 rfl) ?_
      refine lv_iload_n hx hb d_X_byteOf_13 rfl (lv_at hl 2 rfl) ?_
      refine m_calli (hr := va_runS (As := [.ref (ad 6), .int x3]) (rest := []) ⟨hx, hb, hml, hown, hts⟩ (c_X_lineLength l D cA ad _ F_size F_sizes F_literals x3 _ h) (va_cwS 2 hts (ginS gm_536 gm_537 gm_15 gm_538) rfl rfl rfl (by decide +kernel) ⟨Nat.le_of_ble_eq_true rfl, Nat.le_of_ble_eq_true rfl⟩) (m_preS hK hw [0, 2, 3] rfl rfl) rfl rfl hl.1 rfl (lv_room (Nat.le_of_ble_eq_true rfl)) d_X_byteOf_14 ⟨Nat.zero_le _, Nat.zero_le _⟩) (w2 := (fun (_ : Unit) => [(k_F cA ad F_size), (k_F_kinds cA ad F_kinds), (k_F_sizes cA ad F_sizes), (k_F_literals cA ad F_literals)])) (wr := [(k_F_kinds cA ad F_kinds)]) hw hA [0, 2, 3] [1] [1, 0, 2, 3] rfl rfl (by decide) (by decide) (by decide) (fun _ => rfl) (fun r14 u H locs hw h => ?_)
      refine lv_istore (lv' := [(4, .int r14), (0, .ref (ad 6)), (2, .int x2), (3, .int x3)]) hx hb d_X_byteOf_17 hl (by decide) rfl (fun ls hl => ?_)
      refine lv_iload_n hx hb d_X_byteOf_19 rfl (lv_at hl 2 rfl) ?_
      refine lv_iload hx hb d_X_byteOf_20 (lv_at hl 0 rfl) ?_
      refine lv_icmp_ge (tgt := 32) hx hb d_X_byteOf_22 (by decide) (fun hc => ?_) (fun hc => ?_)
      · have h := h.1 hc
        refine lv_iload_n hx hb d_X_byteOf_32 rfl (lv_at hl 2 rfl) ?_
        refine lv_iload hx hb d_X_byteOf_33 (lv_at hl 0 rfl) ?_
        refine lv_isub hx hb d_X_byteOf_35 ?_
        refine lv_istore_n (lv' := [(2, .int (x2 - r14)), (4, .int r14), (0, .ref (ad 6)), (3, .int x3)]) hx hb d_X_byteOf_36 rfl hl (by decide) rfl (fun ls hl => ?_)
        refine lv_iinc (v := (x3 + 1)) (lv' := [(3, .int (x3 + 1)), (2, .int (x2 - r14)), (4, .int r14), (0, .ref (ad 6))]) hx hb d_X_byteOf_37 hl (k := 3) rfl rfl (by decide) rfl (fun ls hl => ?_)
        refine lv_goto (tgt := 4) hx hb d_X_byteOf_40 (by decide) ?_
        exact (hC4 _ _).1 h _ _ _ hw (lv_sub hl [3, 1, 0] rfl)
      · have h := h.2 hc
        refine lv_aload_n hx hb d_X_byteOf_25 rfl (lv_at hl 1 rfl) ?_
        refine lv_iload_n hx hb d_X_byteOf_26 rfl (lv_at hl 3 rfl) ?_
        refine lv_iload_n hx hb d_X_byteOf_27 rfl (lv_at hl 2 rfl) ?_
        refine m_calli (hr := va_runS (As := [.ref (ad 6), .int x3, .int x2]) (rest := []) ⟨hx, hb, hml, hown, hts⟩ (c_X_lineByte l D cA ad _ F_size F_kinds F_sizes F_literals x3 x2 _ h) (va_cwS 3 hts (ginS gm_547 gm_548 gm_15 gm_549) rfl rfl rfl (by decide +kernel) ⟨Nat.le_of_ble_eq_true rfl, Nat.le_of_ble_eq_true rfl⟩) (m_preS hK hw [0, 1, 2, 3] rfl rfl) rfl rfl hl.1 rfl (lv_room (Nat.le_of_ble_eq_true rfl)) d_X_byteOf_28 ⟨Nat.zero_le _, Nat.zero_le _⟩) (w2 := (fun (_ : Unit) => [(k_F cA ad F_size), (k_F_kinds cA ad F_kinds), (k_F_sizes cA ad F_sizes), (k_F_literals cA ad F_literals)])) (wr := []) hw hA [0, 1, 2, 3] [] [0, 1, 2, 3] rfl rfl (by decide) (by decide) (by decide) (fun _ => rfl) (fun r28 u H locs hw h => ?_)
        exact hE r28 () _ _ _ _ h hw d_X_byteOf_31
  unfold wp_X_byteOf at h
  have h := h C4 hc4
  refine lv_iload_n hx hb d_X_byteOf_0 rfl (lv_at hl 1 rfl) ?_
  refine lv_istore_n (lv' := [(2, .int p1), (0, .ref (ad 6)), (1, .int p1)]) hx hb d_X_byteOf_1 rfl hl (by decide) rfl (fun ls hl => ?_)
  refine lv_iconst (v := 0) hx hb d_X_byteOf_2 (by decide) ?_
  refine lv_istore_n (lv' := [(3, .int 0), (2, .int p1), (0, .ref (ad 6)), (1, .int p1)]) hx hb d_X_byteOf_3 rfl hl (by decide) rfl (fun ls hl => ?_)
  exact (hC4 _ _).1 h _ _ _ hw (lv_sub hl [2, 1, 0] rfl)
