theorem d_F_isFull_0 : decode b_F_isFull 0 = .ok (.aload_n 0, 1) := by decide +kernel
theorem d_F_isFull_1 : decode b_F_isFull 1 = .ok (.getfield 25, 3) := by decide +kernel
theorem d_F_isFull_4 : decode b_F_isFull 4 = .ok (.bipush 24, 2) := by decide +kernel
theorem d_F_isFull_6 : decode b_F_isFull 6 = .ok (.if_icmp .lt 7, 3) := by decide +kernel
theorem d_F_isFull_9 : decode b_F_isFull 9 = .ok (.iconst 1, 1) := by decide +kernel
theorem d_F_isFull_10 : decode b_F_isFull 10 = .ok (.goto 4, 3) := by decide +kernel
theorem d_F_isFull_13 : decode b_F_isFull 13 = .ok (.iconst 0, 1) := by decide +kernel
theorem d_F_isFull_14 : decode b_F_isFull 14 = .ok (.ireturn, 1) := by decide +kernel
theorem d_F_add_0 : decode b_F_add 0 = .ok (.aload_n 0, 1) := by decide +kernel
theorem d_F_add_1 : decode b_F_add 1 = .ok (.getfield 25, 3) := by decide +kernel
theorem d_F_add_4 : decode b_F_add 4 = .ok (.istore_n 2, 1) := by decide +kernel
theorem d_F_add_5 : decode b_F_add 5 = .ok (.aload_n 0, 1) := by decide +kernel
theorem d_F_add_6 : decode b_F_add 6 = .ok (.getfield 9, 3) := by decide +kernel
theorem d_F_add_9 : decode b_F_add 9 = .ok (.iload_n 2, 1) := by decide +kernel
theorem d_F_add_10 : decode b_F_add 10 = .ok (.iload_n 1, 1) := by decide +kernel
theorem d_F_add_11 : decode b_F_add 11 = .ok (.iastore, 1) := by decide +kernel
theorem d_F_add_12 : decode b_F_add 12 = .ok (.aload_n 0, 1) := by decide +kernel
theorem d_F_add_13 : decode b_F_add 13 = .ok (.getfield 15, 3) := by decide +kernel
theorem d_F_add_16 : decode b_F_add 16 = .ok (.iload_n 2, 1) := by decide +kernel
theorem d_F_add_17 : decode b_F_add 17 = .ok (.iconst 0, 1) := by decide +kernel
theorem d_F_add_18 : decode b_F_add 18 = .ok (.iastore, 1) := by decide +kernel
theorem d_F_add_19 : decode b_F_add 19 = .ok (.aload_n 0, 1) := by decide +kernel
theorem d_F_add_20 : decode b_F_add 20 = .ok (.dup, 1) := by decide +kernel
theorem d_F_add_21 : decode b_F_add 21 = .ok (.getfield 25, 3) := by decide +kernel
theorem d_F_add_24 : decode b_F_add 24 = .ok (.iconst 1, 1) := by decide +kernel
theorem d_F_add_25 : decode b_F_add 25 = .ok (.iadd, 1) := by decide +kernel
theorem d_F_add_26 : decode b_F_add 26 = .ok (.putfield 25, 3) := by decide +kernel
theorem d_F_add_29 : decode b_F_add 29 = .ok (.iload_n 2, 1) := by decide +kernel
theorem d_F_add_30 : decode b_F_add 30 = .ok (.ireturn, 1) := by decide +kernel
theorem d_F_has_0 : decode b_F_has 0 = .ok (.iload_n 1, 1) := by decide +kernel
theorem d_F_has_1 : decode b_F_has 1 = .ok (.ifCond .lt 15, 3) := by decide +kernel
theorem d_F_has_4 : decode b_F_has 4 = .ok (.iload_n 1, 1) := by decide +kernel
theorem d_F_has_5 : decode b_F_has 5 = .ok (.aload_n 0, 1) := by decide +kernel
theorem d_F_has_6 : decode b_F_has 6 = .ok (.getfield 25, 3) := by decide +kernel
theorem d_F_has_9 : decode b_F_has 9 = .ok (.if_icmp .ge 7, 3) := by decide +kernel
theorem d_F_has_12 : decode b_F_has 12 = .ok (.iconst 1, 1) := by decide +kernel
theorem d_F_has_13 : decode b_F_has 13 = .ok (.goto 4, 3) := by decide +kernel
theorem d_F_has_16 : decode b_F_has 16 = .ok (.iconst 0, 1) := by decide +kernel
theorem d_F_has_17 : decode b_F_has 17 = .ok (.ireturn, 1) := by decide +kernel
theorem d_F_literalOf_0 : decode b_F_literalOf 0 = .ok (.aload_n 0, 1) := by decide +kernel
theorem d_F_literalOf_1 : decode b_F_literalOf 1 = .ok (.getfield 18, 3) := by decide +kernel
theorem d_F_literalOf_4 : decode b_F_literalOf 4 = .ok (.iload_n 1, 1) := by decide +kernel
theorem d_F_literalOf_5 : decode b_F_literalOf 5 = .ok (.bipush 6, 2) := by decide +kernel
theorem d_F_literalOf_7 : decode b_F_literalOf 7 = .ok (.imul, 1) := by decide +kernel
theorem d_F_literalOf_8 : decode b_F_literalOf 8 = .ok (.iload_n 2, 1) := by decide +kernel
theorem d_F_literalOf_9 : decode b_F_literalOf 9 = .ok (.iadd, 1) := by decide +kernel
theorem d_F_literalOf_10 : decode b_F_literalOf 10 = .ok (.iaload, 1) := by decide +kernel
theorem d_F_literalOf_11 : decode b_F_literalOf 11 = .ok (.ireturn, 1) := by decide +kernel
theorem d_F_contains_0 : decode b_F_contains 0 = .ok (.iconst 0, 1) := by decide +kernel
theorem d_F_contains_1 : decode b_F_contains 1 = .ok (.istore_n 3, 1) := by decide +kernel
theorem d_F_contains_2 : decode b_F_contains 2 = .ok (.iload_n 3, 1) := by decide +kernel
theorem d_F_contains_3 : decode b_F_contains 3 = .ok (.aload_n 0, 1) := by decide +kernel
theorem d_F_contains_4 : decode b_F_contains 4 = .ok (.getfield 15, 3) := by decide +kernel
theorem d_F_contains_7 : decode b_F_contains 7 = .ok (.iload_n 1, 1) := by decide +kernel
theorem d_F_contains_8 : decode b_F_contains 8 = .ok (.iaload, 1) := by decide +kernel
theorem d_F_contains_9 : decode b_F_contains 9 = .ok (.if_icmp .ge 21, 3) := by decide +kernel
theorem d_F_contains_12 : decode b_F_contains 12 = .ok (.aload_n 0, 1) := by decide +kernel
theorem d_F_contains_13 : decode b_F_contains 13 = .ok (.iload_n 1, 1) := by decide +kernel
theorem d_F_contains_14 : decode b_F_contains 14 = .ok (.iload_n 3, 1) := by decide +kernel
theorem d_F_contains_15 : decode b_F_contains 15 = .ok (.invokevirtual 29, 3) := by decide +kernel
theorem d_F_contains_18 : decode b_F_contains 18 = .ok (.iload_n 2, 1) := by decide +kernel
theorem d_F_contains_19 : decode b_F_contains 19 = .ok (.if_icmp .ne 5, 3) := by decide +kernel
theorem d_F_contains_22 : decode b_F_contains 22 = .ok (.iconst 1, 1) := by decide +kernel
theorem d_F_contains_23 : decode b_F_contains 23 = .ok (.ireturn, 1) := by decide +kernel
theorem d_F_contains_24 : decode b_F_contains 24 = .ok (.iinc 3 1, 3) := by decide +kernel
theorem d_F_contains_27 : decode b_F_contains 27 = .ok (.goto (-25), 3) := by decide +kernel
theorem d_F_contains_30 : decode b_F_contains 30 = .ok (.iconst 0, 1) := by decide +kernel
theorem d_F_contains_31 : decode b_F_contains 31 = .ok (.ireturn, 1) := by decide +kernel
theorem d_F_isLineFull_0 : decode b_F_isLineFull 0 = .ok (.aload_n 0, 1) := by decide +kernel
theorem d_F_isLineFull_1 : decode b_F_isLineFull 1 = .ok (.getfield 15, 3) := by decide +kernel
theorem d_F_isLineFull_4 : decode b_F_isLineFull 4 = .ok (.iload_n 1, 1) := by decide +kernel
theorem d_F_isLineFull_5 : decode b_F_isLineFull 5 = .ok (.iaload, 1) := by decide +kernel
theorem d_F_isLineFull_6 : decode b_F_isLineFull 6 = .ok (.aload_n 0, 1) := by decide +kernel
theorem d_F_isLineFull_7 : decode b_F_isLineFull 7 = .ok (.getfield 9, 3) := by decide +kernel
theorem d_F_isLineFull_10 : decode b_F_isLineFull 10 = .ok (.iload_n 1, 1) := by decide +kernel
theorem d_F_isLineFull_11 : decode b_F_isLineFull 11 = .ok (.iaload, 1) := by decide +kernel
theorem d_F_isLineFull_12 : decode b_F_isLineFull 12 = .ok (.iconst 1, 1) := by decide +kernel
theorem d_F_isLineFull_13 : decode b_F_isLineFull 13 = .ok (.if_icmp .ne 7, 3) := by decide +kernel
theorem d_F_isLineFull_16 : decode b_F_isLineFull 16 = .ok (.iconst 2, 1) := by decide +kernel
theorem d_F_isLineFull_17 : decode b_F_isLineFull 17 = .ok (.goto 5, 3) := by decide +kernel
theorem d_F_isLineFull_20 : decode b_F_isLineFull 20 = .ok (.bipush 6, 2) := by decide +kernel
theorem d_F_isLineFull_22 : decode b_F_isLineFull 22 = .ok (.if_icmp .lt 7, 3) := by decide +kernel
theorem d_F_isLineFull_25 : decode b_F_isLineFull 25 = .ok (.iconst 1, 1) := by decide +kernel
theorem d_F_isLineFull_26 : decode b_F_isLineFull 26 = .ok (.goto 4, 3) := by decide +kernel
theorem d_F_isLineFull_29 : decode b_F_isLineFull 29 = .ok (.iconst 0, 1) := by decide +kernel
theorem d_F_isLineFull_30 : decode b_F_isLineFull 30 = .ok (.ireturn, 1) := by decide +kernel
theorem d_F_append_0 : decode b_F_append 0 = .ok (.aload_n 0, 1) := by decide +kernel
theorem d_F_append_1 : decode b_F_append 1 = .ok (.getfield 18, 3) := by decide +kernel
theorem d_F_append_4 : decode b_F_append 4 = .ok (.iload_n 1, 1) := by decide +kernel
theorem d_F_append_5 : decode b_F_append 5 = .ok (.bipush 6, 2) := by decide +kernel
theorem d_F_append_7 : decode b_F_append 7 = .ok (.imul, 1) := by decide +kernel
theorem d_F_append_8 : decode b_F_append 8 = .ok (.aload_n 0, 1) := by decide +kernel
theorem d_F_append_9 : decode b_F_append 9 = .ok (.getfield 15, 3) := by decide +kernel
theorem d_F_append_12 : decode b_F_append 12 = .ok (.iload_n 1, 1) := by decide +kernel
theorem d_F_append_13 : decode b_F_append 13 = .ok (.iaload, 1) := by decide +kernel
theorem d_F_append_14 : decode b_F_append 14 = .ok (.iadd, 1) := by decide +kernel
theorem d_F_append_15 : decode b_F_append 15 = .ok (.iload_n 2, 1) := by decide +kernel
theorem d_F_append_16 : decode b_F_append 16 = .ok (.iastore, 1) := by decide +kernel
theorem d_F_append_17 : decode b_F_append 17 = .ok (.aload_n 0, 1) := by decide +kernel
theorem d_F_append_18 : decode b_F_append 18 = .ok (.getfield 15, 3) := by decide +kernel
theorem d_F_append_21 : decode b_F_append 21 = .ok (.iload_n 1, 1) := by decide +kernel
theorem d_F_append_22 : decode b_F_append 22 = .ok (.dup2, 1) := by decide +kernel
theorem d_F_append_23 : decode b_F_append 23 = .ok (.iaload, 1) := by decide +kernel
theorem d_F_append_24 : decode b_F_append 24 = .ok (.iconst 1, 1) := by decide +kernel
theorem d_F_append_25 : decode b_F_append 25 = .ok (.iadd, 1) := by decide +kernel
theorem d_F_append_26 : decode b_F_append 26 = .ok (.iastore, 1) := by decide +kernel
theorem d_F_append_27 : decode b_F_append 27 = .ok (.return_, 1) := by decide +kernel
theorem d_F_moveUp_0 : decode b_F_moveUp 0 = .ok (.iconst 0, 1) := by decide +kernel
theorem d_F_moveUp_1 : decode b_F_moveUp 1 = .ok (.istore_n 1, 1) := by decide +kernel
theorem d_F_moveUp_2 : decode b_F_moveUp 2 = .ok (.iconst 0, 1) := by decide +kernel
theorem d_F_moveUp_3 : decode b_F_moveUp 3 = .ok (.istore_n 2, 1) := by decide +kernel
theorem d_F_moveUp_4 : decode b_F_moveUp 4 = .ok (.iload_n 2, 1) := by decide +kernel
theorem d_F_moveUp_5 : decode b_F_moveUp 5 = .ok (.aload_n 0, 1) := by decide +kernel
theorem d_F_moveUp_6 : decode b_F_moveUp 6 = .ok (.getfield 25, 3) := by decide +kernel
theorem d_F_moveUp_9 : decode b_F_moveUp 9 = .ok (.if_icmp .ge 73, 3) := by decide +kernel
theorem d_F_moveUp_12 : decode b_F_moveUp 12 = .ok (.aload_n 0, 1) := by decide +kernel
theorem d_F_moveUp_13 : decode b_F_moveUp 13 = .ok (.getfield 21, 3) := by decide +kernel
theorem d_F_moveUp_16 : decode b_F_moveUp 16 = .ok (.iload_n 2, 1) := by decide +kernel
theorem d_F_moveUp_17 : decode b_F_moveUp 17 = .ok (.baload, 1) := by decide +kernel
theorem d_F_moveUp_18 : decode b_F_moveUp 18 = .ok (.ifCond .ne 51, 3) := by decide +kernel
theorem d_F_moveUp_21 : decode b_F_moveUp 21 = .ok (.aload_n 0, 1) := by decide +kernel
theorem d_F_moveUp_22 : decode b_F_moveUp 22 = .ok (.getfield 9, 3) := by decide +kernel
theorem d_F_moveUp_25 : decode b_F_moveUp 25 = .ok (.iload_n 1, 1) := by decide +kernel
theorem d_F_moveUp_26 : decode b_F_moveUp 26 = .ok (.aload_n 0, 1) := by decide +kernel
theorem d_F_moveUp_27 : decode b_F_moveUp 27 = .ok (.getfield 9, 3) := by decide +kernel
theorem d_F_moveUp_30 : decode b_F_moveUp 30 = .ok (.iload_n 2, 1) := by decide +kernel
theorem d_F_moveUp_31 : decode b_F_moveUp 31 = .ok (.iaload, 1) := by decide +kernel
theorem d_F_moveUp_32 : decode b_F_moveUp 32 = .ok (.iastore, 1) := by decide +kernel
theorem d_F_moveUp_33 : decode b_F_moveUp 33 = .ok (.aload_n 0, 1) := by decide +kernel
theorem d_F_moveUp_34 : decode b_F_moveUp 34 = .ok (.getfield 15, 3) := by decide +kernel
theorem d_F_moveUp_37 : decode b_F_moveUp 37 = .ok (.iload_n 1, 1) := by decide +kernel
theorem d_F_moveUp_38 : decode b_F_moveUp 38 = .ok (.aload_n 0, 1) := by decide +kernel
theorem d_F_moveUp_39 : decode b_F_moveUp 39 = .ok (.getfield 15, 3) := by decide +kernel
theorem d_F_moveUp_42 : decode b_F_moveUp 42 = .ok (.iload_n 2, 1) := by decide +kernel
theorem d_F_moveUp_43 : decode b_F_moveUp 43 = .ok (.iaload, 1) := by decide +kernel
theorem d_F_moveUp_44 : decode b_F_moveUp 44 = .ok (.iastore, 1) := by decide +kernel
theorem d_F_moveUp_45 : decode b_F_moveUp 45 = .ok (.aload_n 0, 1) := by decide +kernel
theorem d_F_moveUp_46 : decode b_F_moveUp 46 = .ok (.getfield 18, 3) := by decide +kernel
theorem d_F_moveUp_49 : decode b_F_moveUp 49 = .ok (.iload_n 2, 1) := by decide +kernel
theorem d_F_moveUp_50 : decode b_F_moveUp 50 = .ok (.bipush 6, 2) := by decide +kernel
theorem d_F_moveUp_52 : decode b_F_moveUp 52 = .ok (.imul, 1) := by decide +kernel
theorem d_F_moveUp_53 : decode b_F_moveUp 53 = .ok (.aload_n 0, 1) := by decide +kernel
theorem d_F_moveUp_54 : decode b_F_moveUp 54 = .ok (.getfield 18, 3) := by decide +kernel
theorem d_F_moveUp_57 : decode b_F_moveUp 57 = .ok (.iload_n 1, 1) := by decide +kernel
theorem d_F_moveUp_58 : decode b_F_moveUp 58 = .ok (.bipush 6, 2) := by decide +kernel
theorem d_F_moveUp_60 : decode b_F_moveUp 60 = .ok (.imul, 1) := by decide +kernel
theorem d_F_moveUp_61 : decode b_F_moveUp 61 = .ok (.bipush 6, 2) := by decide +kernel
theorem d_F_moveUp_63 : decode b_F_moveUp 63 = .ok (.invokestatic 33, 3) := by decide +kernel
theorem d_F_moveUp_66 : decode b_F_moveUp 66 = .ok (.iinc 1 1, 3) := by decide +kernel
theorem d_F_moveUp_69 : decode b_F_moveUp 69 = .ok (.aload_n 0, 1) := by decide +kernel
theorem d_F_moveUp_70 : decode b_F_moveUp 70 = .ok (.getfield 21, 3) := by decide +kernel
theorem d_F_moveUp_73 : decode b_F_moveUp 73 = .ok (.iload_n 2, 1) := by decide +kernel
theorem d_F_moveUp_74 : decode b_F_moveUp 74 = .ok (.iconst 0, 1) := by decide +kernel
theorem d_F_moveUp_75 : decode b_F_moveUp 75 = .ok (.bastore, 1) := by decide +kernel
theorem d_F_moveUp_76 : decode b_F_moveUp 76 = .ok (.iinc 2 1, 3) := by decide +kernel
theorem d_F_moveUp_79 : decode b_F_moveUp 79 = .ok (.goto (-75), 3) := by decide +kernel
theorem d_F_moveUp_82 : decode b_F_moveUp 82 = .ok (.aload_n 0, 1) := by decide +kernel
theorem d_F_moveUp_83 : decode b_F_moveUp 83 = .ok (.iload_n 1, 1) := by decide +kernel
theorem d_F_moveUp_84 : decode b_F_moveUp 84 = .ok (.putfield 25, 3) := by decide +kernel
theorem d_F_moveUp_87 : decode b_F_moveUp 87 = .ok (.return_, 1) := by decide +kernel
theorem d_F_new_0 : decode b_F_new 0 = .ok (.aload_n 0, 1) := by decide +kernel
theorem d_F_new_1 : decode b_F_new 1 = .ok (.invokespecial 3, 3) := by decide +kernel
theorem d_F_new_4 : decode b_F_new 4 = .ok (.aload_n 0, 1) := by decide +kernel
theorem d_F_new_5 : decode b_F_new 5 = .ok (.bipush 24, 2) := by decide +kernel
theorem d_F_new_7 : decode b_F_new 7 = .ok (.newarray .int, 2) := by decide +kernel
theorem d_F_new_9 : decode b_F_new 9 = .ok (.putfield 9, 3) := by decide +kernel
theorem d_F_new_12 : decode b_F_new 12 = .ok (.aload_n 0, 1) := by decide +kernel
theorem d_F_new_13 : decode b_F_new 13 = .ok (.bipush 24, 2) := by decide +kernel
theorem d_F_new_15 : decode b_F_new 15 = .ok (.newarray .int, 2) := by decide +kernel
theorem d_F_new_17 : decode b_F_new 17 = .ok (.putfield 15, 3) := by decide +kernel
theorem d_F_new_20 : decode b_F_new 20 = .ok (.aload_n 0, 1) := by decide +kernel
theorem d_F_new_21 : decode b_F_new 21 = .ok (.sipush 144, 3) := by decide +kernel
theorem d_F_new_24 : decode b_F_new 24 = .ok (.newarray .int, 2) := by decide +kernel
theorem d_F_new_26 : decode b_F_new 26 = .ok (.putfield 18, 3) := by decide +kernel
theorem d_F_new_29 : decode b_F_new 29 = .ok (.aload_n 0, 1) := by decide +kernel
theorem d_F_new_30 : decode b_F_new 30 = .ok (.bipush 24, 2) := by decide +kernel
theorem d_F_new_32 : decode b_F_new 32 = .ok (.newarray .boolean, 2) := by decide +kernel
theorem d_F_new_34 : decode b_F_new 34 = .ok (.putfield 21, 3) := by decide +kernel
theorem d_F_new_37 : decode b_F_new 37 = .ok (.aload_n 0, 1) := by decide +kernel
theorem d_F_new_38 : decode b_F_new 38 = .ok (.iconst 0, 1) := by decide +kernel
theorem d_F_new_39 : decode b_F_new 39 = .ok (.putfield 25, 3) := by decide +kernel
theorem d_F_new_42 : decode b_F_new 42 = .ok (.return_, 1) := by decide +kernel
def rm_F_isFull : Room := { frames := 0, cells := 0, slots := 0, locals := 0 }
set_option maxHeartbeats 4000000 in
set_option maxRecDepth 100000 in
theorem c_F_isFull (l : Launch) (D : va_G) (cA : Nat → ClassId) (ad : Nat → Nat) (sz : Nat) (F_size : Int32) (post : Int32 → Prop) (h : wp_F_isFull F_size post) : Met l y_F_isFull w_F_isFull rm_F_isFull (mPc D cA [.ref (ad 6)] [(k_F cA ad F_size)] sz) (va_Qi (fun (r : Int32) (_ : Unit) => post r) (mB D (va_A [(k_F cA ad F_size)] sz) (fun (_ : Unit) => [(k_F cA ad F_size)])) (va_A [(k_F cA ad F_size)] sz)) 0 0 (va_A [(k_F cA ad F_size)] sz) := by
  refine m_methZ (by decide) rfl (Nat.le_of_ble_eq_true rfl) ?_
  intro p e s m below meth c A Q ls hx hb hml hown hts hK hA hw hl hE
  have hl : lv_has ls 1 [(0, .ref (ad 6))] := hl
  have hown : s.vm.findClass R_F = some m.cls := hown
  have hg : ∀ {w : Cond}, w ∈ gw → w.before _ s = true := fun h => hts _ (List.mem_cons_of_mem _ h)
  unfold wp_F_isFull at h
  refine lv_aload_n hx hb d_F_isFull_0 rfl (lv_at hl 0 rfl) ?_
  refine va_get (D := D) (ci := 2) (v := .int F_size) (C := R_F) (T := T_F) (N := 5) hx hb hts (fun w h => List.mem_cons_of_mem _ (iw_F w h)) hown hK.1 hw.1 0 rfl rfl 4 (by decide) (hg gm_77) (fun _ h9 => h9) rfl d_F_isFull_1 ?_
  refine lv_bipush (v := 24) hx hb d_F_isFull_4 (by decide) ?_
  refine lv_icmp_lt (tgt := 13) hx hb d_F_isFull_6 (by decide) (fun hc => ?_) (fun hc => ?_)
  · have h := h.1 hc
    refine lv_iconst (v := 0) hx hb d_F_isFull_13 (by decide) ?_
    exact hE 0 () _ _ _ _ h rfl hw d_F_isFull_14
  · have h := h.2 hc
    refine lv_iconst (v := 1) hx hb d_F_isFull_9 (by decide) ?_
    refine lv_goto (tgt := 14) hx hb d_F_isFull_10 (by decide) ?_
    exact hE 1 () _ _ _ _ h rfl hw d_F_isFull_14
def rm_F_add : Room := { frames := 0, cells := 0, slots := 0, locals := 0 }
set_option maxHeartbeats 4000000 in
set_option maxRecDepth 100000 in
theorem c_F_add (l : Launch) (D : va_G) (cA : Nat → ClassId) (ad : Nat → Nat) (sz : Nat) (F_size : Int32) (F_kinds : (Nat → Int32)) (F_sizes : (Nat → Int32)) (p1 : Int32) (post : Int32 → Int32 → (Nat → Int32) → (Nat → Int32) → Prop) (h : wp_F_add F_size F_kinds F_sizes p1 post) : Met l y_F_add w_F_add rm_F_add (mPc D cA [.ref (ad 6), .int p1] [(k_F cA ad F_size), (k_F_kinds cA ad F_kinds), (k_F_sizes cA ad F_sizes)] sz) (va_Qi (fun (r : Int32) (u : Int32 × (Nat → Int32) × (Nat → Int32)) => post r u.1 u.2.1 u.2.2) (mB D (va_A [(k_F cA ad F_size), (k_F_kinds cA ad F_kinds), (k_F_sizes cA ad F_sizes)] sz) (fun (u : Int32 × (Nat → Int32) × (Nat → Int32)) => [(k_F cA ad u.1), (k_F_kinds cA ad u.2.1), (k_F_sizes cA ad u.2.2)])) (va_A [(k_F cA ad F_size), (k_F_kinds cA ad F_kinds), (k_F_sizes cA ad F_sizes)] sz)) 0 0 (va_A [(k_F cA ad F_size), (k_F_kinds cA ad F_kinds), (k_F_sizes cA ad F_sizes)] sz) := by
  refine m_methI (by decide) rfl (Nat.le_of_ble_eq_true rfl) ?_
  intro p e s m below meth c A Q ls hx hb hml hown hts hK hA hw hl hE
  have hl : lv_has ls 3 [(0, .ref (ad 6)), (1, .int p1)] := hl
  have hown : s.vm.findClass R_F = some m.cls := hown
  have hg : ∀ {w : Cond}, w ∈ gw → w.before _ s = true := fun h => hts _ (List.mem_cons_of_mem _ h)
  unfold wp_F_add at h
  refine lv_aload_n hx hb d_F_add_0 rfl (lv_at hl 0 rfl) ?_
  refine va_get (D := D) (ci := 2) (v := .int F_size) (C := R_F) (T := T_F) (N := 5) hx hb hts (fun w h => List.mem_cons_of_mem _ (iw_F w h)) hown hK.1 hw.1 0 rfl rfl 4 (by decide) (hg gm_77) (fun _ h9 => h9) rfl d_F_add_1 ?_
  refine lv_istore_n (lv' := [(2, .int F_size), (0, .ref (ad 6)), (1, .int p1)]) hx hb d_F_add_4 rfl hl (by decide) rfl (fun ls hl => ?_)
  refine lv_aload_n hx hb d_F_add_5 rfl (lv_at hl 1 rfl) ?_
  refine va_get (D := D) (ci := 2) (v := .ref (ad 7)) (C := R_F) (T := T_F) (N := 5) hx hb hts (fun w h => List.mem_cons_of_mem _ (iw_F w h)) hown hK.1 hw.1 0 rfl rfl 0 (by decide) (hg gm_64) (fun _ h9 => h9) rfl d_F_add_6 ?_
  refine lv_iload_n hx hb d_F_add_9 rfl (lv_at hl 0 rfl) ?_
  refine lv_iload_n hx hb d_F_add_10 rfl (lv_at hl 2 rfl) ?_
  refine m_iast (ws' := [(k_F cA ad F_size), (k_F_kinds cA ad (upd F_kinds F_size.toNatClampNeg p1)), (k_F_sizes cA ad F_sizes)]) hx hb hK.1 hw 1 0 rfl rfl h.1 rfl d_F_add_11 (fun H locs hw => ?_)
  have h := h.2
  refine lv_aload_n hx hb d_F_add_12 rfl (lv_at hl 1 rfl) ?_
  refine va_get (D := D) (ci := 2) (v := .ref (ad 8)) (C := R_F) (T := T_F) (N := 5) hx hb hts (fun w h => List.mem_cons_of_mem _ (iw_F w h)) hown hK.1 hw.1 0 rfl rfl 1 (by decide) (hg gm_69) (fun _ h9 => h9) rfl d_F_add_13 ?_
  refine lv_iload_n hx hb d_F_add_16 rfl (lv_at hl 0 rfl) ?_
  refine lv_iconst (v := 0) hx hb d_F_add_17 (by decide) ?_
  refine m_iast (ws' := [(k_F cA ad F_size), (k_F_kinds cA ad (upd F_kinds F_size.toNatClampNeg p1)), (k_F_sizes cA ad (upd F_sizes F_size.toNatClampNeg 0))]) hx hb hK.1 hw 2 0 rfl rfl h.1 rfl d_F_add_18 (fun H locs hw => ?_)
  have h := h.2
  refine lv_aload_n hx hb d_F_add_19 rfl (lv_at hl 1 rfl) ?_
  refine lv_dup hx hb d_F_add_20 rfl ?_
  refine va_get (D := D) (ci := 2) (v := .int F_size) (C := R_F) (T := T_F) (N := 5) hx hb hts (fun w h => List.mem_cons_of_mem _ (iw_F w h)) hown hK.1 hw.1 0 rfl rfl 4 (by decide) (hg gm_77) (fun _ h9 => h9) rfl d_F_add_21 ?_
  refine lv_iconst (v := 1) hx hb d_F_add_24 (by decide) ?_
  refine lv_iadd hx hb d_F_add_25 ?_
  refine m_put (ws' := [(k_F cA ad (F_size + 1)), (k_F_kinds cA ad (upd F_kinds F_size.toNatClampNeg p1)), (k_F_sizes cA ad (upd F_sizes F_size.toNatClampNeg 0))]) (ci := 2) (v := .int (F_size + 1)) (ty := .int) (C := R_F) (T := T_F) (N := 5) hx hb hts (fun w h => List.mem_cons_of_mem _ (iw_F w h)) ty_F tyok_F nm_F hown hK.1 hw 0 rfl rfl 4 (by decide) (hg gm_77) (fun _ h9 => h9) rfl (by decide +kernel) rfl rfl (Nat.le_of_ble_eq_true rfl) rfl d_F_add_26 (fun H locs hw => ?_)
  refine lv_iload_n hx hb d_F_add_29 rfl (lv_at hl 0 rfl) ?_
  exact hE F_size ((F_size + 1), (upd F_kinds F_size.toNatClampNeg p1), (upd F_sizes F_size.toNatClampNeg 0)) _ _ _ _ h hw d_F_add_30
def rm_F_has : Room := { frames := 0, cells := 0, slots := 0, locals := 0 }
set_option maxHeartbeats 4000000 in
set_option maxRecDepth 100000 in
theorem c_F_has (l : Launch) (D : va_G) (cA : Nat → ClassId) (ad : Nat → Nat) (sz : Nat) (F_size : Int32) (p1 : Int32) (post : Int32 → Prop) (h : wp_F_has F_size p1 post) : Met l y_F_has w_F_has rm_F_has (mPc D cA [.ref (ad 6), .int p1] [(k_F cA ad F_size)] sz) (va_Qi (fun (r : Int32) (_ : Unit) => post r) (mB D (va_A [(k_F cA ad F_size)] sz) (fun (_ : Unit) => [(k_F cA ad F_size)])) (va_A [(k_F cA ad F_size)] sz)) 0 0 (va_A [(k_F cA ad F_size)] sz) := by
  refine m_methZ (by decide) rfl (Nat.le_of_ble_eq_true rfl) ?_
  intro p e s m below meth c A Q ls hx hb hml hown hts hK hA hw hl hE
  have hl : lv_has ls 2 [(0, .ref (ad 6)), (1, .int p1)] := hl
  have hown : s.vm.findClass R_F = some m.cls := hown
  have hg : ∀ {w : Cond}, w ∈ gw → w.before _ s = true := fun h => hts _ (List.mem_cons_of_mem _ h)
  unfold wp_F_has at h
  refine lv_iload_n hx hb d_F_has_0 rfl (lv_at hl 1 rfl) ?_
  refine lv_if_lt (tgt := 16) hx hb d_F_has_1 (by decide) (fun hc => ?_) (fun hc => ?_)
  · have h := h.1 hc
    refine lv_iconst (v := 0) hx hb d_F_has_16 (by decide) ?_
    exact hE 0 () _ _ _ _ h rfl hw d_F_has_17
  · have h := h.2 hc
    refine lv_iload_n hx hb d_F_has_4 rfl (lv_at hl 1 rfl) ?_
    refine lv_aload_n hx hb d_F_has_5 rfl (lv_at hl 0 rfl) ?_
    refine va_get (D := D) (ci := 2) (v := .int F_size) (C := R_F) (T := T_F) (N := 5) hx hb hts (fun w h => List.mem_cons_of_mem _ (iw_F w h)) hown hK.1 hw.1 0 rfl rfl 4 (by decide) (hg gm_77) (fun _ h9 => h9) rfl d_F_has_6 ?_
    refine lv_icmp_ge (tgt := 16) hx hb d_F_has_9 (by decide) (fun hc => ?_) (fun hc => ?_)
    · have h := h.1 hc
      refine lv_iconst (v := 0) hx hb d_F_has_16 (by decide) ?_
      exact hE 0 () _ _ _ _ h rfl hw d_F_has_17
    · have h := h.2 hc
      refine lv_iconst (v := 1) hx hb d_F_has_12 (by decide) ?_
      refine lv_goto (tgt := 17) hx hb d_F_has_13 (by decide) ?_
      exact hE 1 () _ _ _ _ h rfl hw d_F_has_17
def rm_F_literalOf : Room := { frames := 0, cells := 0, slots := 0, locals := 0 }
set_option maxHeartbeats 4000000 in
set_option maxRecDepth 100000 in
theorem c_F_literalOf (l : Launch) (D : va_G) (cA : Nat → ClassId) (ad : Nat → Nat) (sz : Nat) (F_size : Int32) (F_literals : (Nat → Int32)) (p1 : Int32) (p2 : Int32) (post : Int32 → Prop) (h : wp_F_literalOf F_literals p1 p2 post) : Met l y_F_literalOf w_F_literalOf rm_F_literalOf (mPc D cA [.ref (ad 6), .int p1, .int p2] [(k_F cA ad F_size), (k_F_literals cA ad F_literals)] sz) (va_Qi (fun (r : Int32) (_ : Unit) => post r) (mB D (va_A [(k_F cA ad F_size), (k_F_literals cA ad F_literals)] sz) (fun (_ : Unit) => [(k_F cA ad F_size), (k_F_literals cA ad F_literals)])) (va_A [(k_F cA ad F_size), (k_F_literals cA ad F_literals)] sz)) 0 0 (va_A [(k_F cA ad F_size), (k_F_literals cA ad F_literals)] sz) := by
  refine m_methI (by decide) rfl (Nat.le_of_ble_eq_true rfl) ?_
  intro p e s m below meth c A Q ls hx hb hml hown hts hK hA hw hl hE
  have hl : lv_has ls 3 [(0, .ref (ad 6)), (1, .int p1), (2, .int p2)] := hl
  have hown : s.vm.findClass R_F = some m.cls := hown
  have hg : ∀ {w : Cond}, w ∈ gw → w.before _ s = true := fun h => hts _ (List.mem_cons_of_mem _ h)
  unfold wp_F_literalOf at h
  refine lv_aload_n hx hb d_F_literalOf_0 rfl (lv_at hl 0 rfl) ?_
  refine va_get (D := D) (ci := 2) (v := .ref (ad 9)) (C := R_F) (T := T_F) (N := 5) hx hb hts (fun w h => List.mem_cons_of_mem _ (iw_F w h)) hown hK.1 hw.1 0 rfl rfl 2 (by decide) (hg gm_73) (fun _ h9 => h9) rfl d_F_literalOf_1 ?_
  refine lv_iload_n hx hb d_F_literalOf_4 rfl (lv_at hl 1 rfl) ?_
  refine lv_bipush (v := 6) hx hb d_F_literalOf_5 (by decide) ?_
  refine lv_imul hx hb d_F_literalOf_7 ?_
  refine lv_iload_n hx hb d_F_literalOf_8 rfl (lv_at hl 2 rfl) ?_
  refine lv_iadd hx hb d_F_literalOf_9 ?_
  refine va_iald hx hb hK.1 hw.1 1 0 rfl rfl h.1 d_F_literalOf_10 ?_
  have h := h.2
  exact hE (F_literals ((p1 * 6) + p2).toNatClampNeg) () _ _ _ _ h hw d_F_literalOf_11
def rm_F_contains : Room := { frames := 1, cells := 0, slots := 0, locals := 22 }
set_option maxHeartbeats 4000000 in
set_option maxRecDepth 100000 in
theorem c_F_contains (l : Launch) (D : va_G) (cA : Nat → ClassId) (ad : Nat → Nat) (sz : Nat) (F_size : Int32) (F_sizes : (Nat → Int32)) (F_literals : (Nat → Int32)) (p1 : Int32) (p2 : Int32) (post : Int32 → Prop) (h : wp_F_contains F_sizes F_literals p1 p2 post) : Met l y_F_contains w_F_contains rm_F_contains (mPc D cA [.ref (ad 6), .int p1, .int p2] [(k_F cA ad F_size), (k_F_sizes cA ad F_sizes), (k_F_literals cA ad F_literals)] sz) (va_Qi (fun (r : Int32) (_ : Unit) => post r) (mB D (va_A [(k_F cA ad F_size), (k_F_sizes cA ad F_sizes), (k_F_literals cA ad F_literals)] sz) (fun (_ : Unit) => [(k_F cA ad F_size), (k_F_sizes cA ad F_sizes), (k_F_literals cA ad F_literals)])) (va_A [(k_F cA ad F_size), (k_F_sizes cA ad F_sizes), (k_F_literals cA ad F_literals)] sz)) 0 0 (va_A [(k_F cA ad F_size), (k_F_sizes cA ad F_sizes), (k_F_literals cA ad F_literals)] sz) := by
  refine m_methZ (by decide) rfl (Nat.le_of_ble_eq_true rfl) ?_
  intro p e s m below meth c A Q ls hx hb hml hown hts hK hA hw hl hE
  have hl : lv_has ls 4 [(0, .ref (ad 6)), (1, .int p1), (2, .int p2)] := hl
  have hown : s.vm.findClass R_F = some m.cls := hown
  have hg : ∀ {w : Cond}, w ∈ gw → w.before _ s = true := fun h => hts _ (List.mem_cons_of_mem _ h)
  obtain ⟨C2, hC2⟩ : ∃ C : Int32 → Prop, ∀ (x3 : Int32), C x3 ↔ (∀ (H : Heap) (locs : List Loc) (ls : Array Slot), mW D A s.heap [(k_F cA ad F_size), (k_F_sizes cA ad F_sizes), (k_F_literals cA ad F_literals)] H locs → lv_has ls 4 [(0, .ref (ad 6)), (1, .int p1), (2, .int p2), (3, .int x3)] → W p l e rm_F_contains s m [.ref (ad 6), .int p1, .int p2].toArray below meth c H locs 0 0 Q (F0 m 2 ls [])) := ⟨_, fun _ => Iff.rfl⟩
  have hc2 : ∀ (x3 : Int32), s_F_contains_2 F_sizes F_literals p1 p2 C2 post x3 → C2 x3 := by
    intro x3 h
    unfold s_F_contains_2 at h
    refine (hC2 _).2 ?_
    intro H locs ls hw hl
    refine lv_iload_n hx hb d_F_contains_2 rfl (lv_at hl 3 rfl) ?_
    refine lv_aload_n hx hb d_F_contains_3 rfl (lv_at hl 0 rfl) ?_
    refine va_get (D := D) (ci := 2) (v := .ref (ad 8)) (C := R_F) (T := T_F) (N := 5) hx hb hts (fun w h => List.mem_cons_of_mem _ (iw_F w h)) hown hK.1 hw.1 0 rfl rfl 1 (by decide) (hg gm_69) (fun _ h9 => h9) rfl d_F_contains_4 ?_
    refine lv_iload_n hx hb d_F_contains_7 rfl (lv_at hl 1 rfl) ?_
    refine va_iald hx hb hK.1 hw.1 1 0 rfl rfl h.1 d_F_contains_8 ?_
    have h := h.2
    refine lv_icmp_ge (tgt := 30) hx hb d_F_contains_9 (by decide) (fun hc => ?_) (fun hc => ?_)
    · have h := h.1 hc
      refine lv_iconst (v := 0) hx hb d_F_contains_30 (by decide) ?_
      exact hE 0 () _ _ _ _ h rfl hw d_F_contains_31
    · have h := h.2 hc
      refine lv_aload_n hx hb d_F_contains_12 rfl (lv_at hl 0 rfl) ?_
      refine lv_iload_n hx hb d_F_contains_13 rfl (lv_at hl 1 rfl) ?_
      refine lv_iload_n hx hb d_F_contains_14 rfl (lv_at hl 3 rfl) ?_
      refine m_calli (hr := va_runV (As := [.int p1, .int x3]) (rest := []) ⟨hx, hb, hml, hown, hts⟩ (c_F_literalOf l D cA ad _ F_size F_literals p1 x3 _ h) (cwV 2 hts (ginV gm_232 gm_234 gs_16 gm_3 gm_235) rfl rfl rfl (by decide +kernel) ⟨Nat.le_of_ble_eq_true rfl, Nat.le_of_ble_eq_true rfl⟩) (m_preV 2 0 rfl rfl hK hw [0, 2] rfl rfl) rfl rfl hl.1 rfl (lv_room (Nat.le_of_ble_eq_true rfl)) d_F_contains_15 ⟨Nat.zero_le _, Nat.zero_le _⟩) (w2 := (fun (_ : Unit) => [(k_F cA ad F_size), (k_F_sizes cA ad F_sizes), (k_F_literals cA ad F_literals)])) (wr := [(k_F_sizes cA ad F_sizes)]) hw hA [0, 2] [1] [1, 0, 2] rfl rfl (by decide) (by decide) (by decide) (fun _ => rfl) (fun r15 u H locs hw h => ?_)
      refine lv_iload_n hx hb d_F_contains_18 rfl (lv_at hl 2 rfl) ?_
      refine lv_icmp_ne (tgt := 24) hx hb d_F_contains_19 (by decide) (fun hc => ?_) (fun hc => ?_)
      · have h := h.2 hc
        refine lv_iinc (v := (x3 + 1)) (lv' := [(3, .int (x3 + 1)), (0, .ref (ad 6)), (1, .int p1), (2, .int p2)]) hx hb d_F_contains_24 hl (k := 3) rfl rfl (by decide) rfl (fun ls hl => ?_)
        refine lv_goto (tgt := 2) hx hb d_F_contains_27 (by decide) ?_
        exact (hC2 _).1 h _ _ _ hw (lv_sub hl [1, 2, 3, 0] rfl)
      · have h := h.1 hc
        refine lv_iconst (v := 1) hx hb d_F_contains_22 (by decide) ?_
        exact hE 1 () _ _ _ _ h rfl hw d_F_contains_23
  unfold wp_F_contains at h
  have h := h C2 hc2
  refine lv_iconst (v := 0) hx hb d_F_contains_0 (by decide) ?_
  refine lv_istore_n (lv' := [(3, .int 0), (0, .ref (ad 6)), (1, .int p1), (2, .int p2)]) hx hb d_F_contains_1 rfl hl (by decide) rfl (fun ls hl => ?_)
  exact (hC2 _).1 h _ _ _ hw (lv_sub hl [1, 2, 3, 0] rfl)
def rm_F_isLineFull : Room := { frames := 0, cells := 0, slots := 0, locals := 0 }
set_option maxHeartbeats 4000000 in
set_option maxRecDepth 100000 in
theorem c_F_isLineFull (l : Launch) (D : va_G) (cA : Nat → ClassId) (ad : Nat → Nat) (sz : Nat) (F_size : Int32) (F_kinds : (Nat → Int32)) (F_sizes : (Nat → Int32)) (p1 : Int32) (post : Int32 → Prop) (h : wp_F_isLineFull F_kinds F_sizes p1 post) : Met l y_F_isLineFull w_F_isLineFull rm_F_isLineFull (mPc D cA [.ref (ad 6), .int p1] [(k_F cA ad F_size), (k_F_kinds cA ad F_kinds), (k_F_sizes cA ad F_sizes)] sz) (va_Qi (fun (r : Int32) (_ : Unit) => post r) (mB D (va_A [(k_F cA ad F_size), (k_F_kinds cA ad F_kinds), (k_F_sizes cA ad F_sizes)] sz) (fun (_ : Unit) => [(k_F cA ad F_size), (k_F_kinds cA ad F_kinds), (k_F_sizes cA ad F_sizes)])) (va_A [(k_F cA ad F_size), (k_F_kinds cA ad F_kinds), (k_F_sizes cA ad F_sizes)] sz)) 0 0 (va_A [(k_F cA ad F_size), (k_F_kinds cA ad F_kinds), (k_F_sizes cA ad F_sizes)] sz) := by
  refine m_methZ (by decide) rfl (Nat.le_of_ble_eq_true rfl) ?_
  intro p e s m below meth c A Q ls hx hb hml hown hts hK hA hw hl hE
  have hl : lv_has ls 2 [(0, .ref (ad 6)), (1, .int p1)] := hl
  have hown : s.vm.findClass R_F = some m.cls := hown
  have hg : ∀ {w : Cond}, w ∈ gw → w.before _ s = true := fun h => hts _ (List.mem_cons_of_mem _ h)
  have j22 : ∀ (s0 : Int32) (s1 : Int32) (H : Heap) (locs : List Loc) (ls : Array Slot), s_F_isLineFull_22 F_kinds F_sizes p1 post s0 s1 → mW D A s.heap [(k_F cA ad F_size), (k_F_kinds cA ad F_kinds), (k_F_sizes cA ad F_sizes)] H locs → lv_has ls 2 [] → W p l e rm_F_isLineFull s m [.ref (ad 6), .int p1].toArray below meth c H locs 0 0 Q (F0 m 22 ls [.int s0, .int s1]) := by
    intro s0 s1 H locs ls h hw hl
    unfold s_F_isLineFull_22 at h
    refine lv_icmp_lt (tgt := 29) hx hb d_F_isLineFull_22 (by decide) (fun hc => ?_) (fun hc => ?_)
    · have h := h.1 hc
      refine lv_iconst (v := 0) hx hb d_F_isLineFull_29 (by decide) ?_
      exact hE 0 () _ _ _ _ h rfl hw d_F_isLineFull_30
    · have h := h.2 hc
      refine lv_iconst (v := 1) hx hb d_F_isLineFull_25 (by decide) ?_
      refine lv_goto (tgt := 30) hx hb d_F_isLineFull_26 (by decide) ?_
      exact hE 1 () _ _ _ _ h rfl hw d_F_isLineFull_30
  unfold wp_F_isLineFull at h
  refine lv_aload_n hx hb d_F_isLineFull_0 rfl (lv_at hl 0 rfl) ?_
  refine va_get (D := D) (ci := 2) (v := .ref (ad 8)) (C := R_F) (T := T_F) (N := 5) hx hb hts (fun w h => List.mem_cons_of_mem _ (iw_F w h)) hown hK.1 hw.1 0 rfl rfl 1 (by decide) (hg gm_69) (fun _ h9 => h9) rfl d_F_isLineFull_1 ?_
  refine lv_iload_n hx hb d_F_isLineFull_4 rfl (lv_at hl 1 rfl) ?_
  refine va_iald hx hb hK.1 hw.1 2 0 rfl rfl h.1 d_F_isLineFull_5 ?_
  have h := h.2
  refine lv_aload_n hx hb d_F_isLineFull_6 rfl (lv_at hl 0 rfl) ?_
  refine va_get (D := D) (ci := 2) (v := .ref (ad 7)) (C := R_F) (T := T_F) (N := 5) hx hb hts (fun w h => List.mem_cons_of_mem _ (iw_F w h)) hown hK.1 hw.1 0 rfl rfl 0 (by decide) (hg gm_64) (fun _ h9 => h9) rfl d_F_isLineFull_7 ?_
  refine lv_iload_n hx hb d_F_isLineFull_10 rfl (lv_at hl 1 rfl) ?_
  refine va_iald hx hb hK.1 hw.1 1 0 rfl rfl h.1 d_F_isLineFull_11 ?_
  have h := h.2
  refine lv_iconst (v := 1) hx hb d_F_isLineFull_12 (by decide) ?_
  refine lv_icmp_ne (tgt := 20) hx hb d_F_isLineFull_13 (by decide) (fun hc => ?_) (fun hc => ?_)
  · have h := h.2 hc
    refine lv_bipush (v := 6) hx hb d_F_isLineFull_20 (by decide) ?_
    exact j22 _ _ _ _ _ h hw (lv_sub hl [] rfl)
  · have h := h.1 hc
    refine lv_iconst (v := 2) hx hb d_F_isLineFull_16 (by decide) ?_
    refine lv_goto (tgt := 22) hx hb d_F_isLineFull_17 (by decide) ?_
    exact j22 _ _ _ _ _ h hw (lv_sub hl [] rfl)
def rm_F_append : Room := { frames := 0, cells := 0, slots := 0, locals := 0 }
set_option maxHeartbeats 4000000 in
set_option maxRecDepth 100000 in
theorem c_F_append (l : Launch) (D : va_G) (cA : Nat → ClassId) (ad : Nat → Nat) (sz : Nat) (F_size : Int32) (F_sizes : (Nat → Int32)) (F_literals : (Nat → Int32)) (p1 : Int32) (p2 : Int32) (post : (Nat → Int32) → (Nat → Int32) → Prop) (h : wp_F_append F_sizes F_literals p1 p2 post) : Met l y_F_append w_F_append rm_F_append (mPc D cA [.ref (ad 6), .int p1, .int p2] [(k_F cA ad F_size), (k_F_sizes cA ad F_sizes), (k_F_literals cA ad F_literals)] sz) (va_Qv (fun (u : (Nat → Int32) × (Nat → Int32)) => post u.1 u.2) (mB D (va_A [(k_F cA ad F_size), (k_F_sizes cA ad F_sizes), (k_F_literals cA ad F_literals)] sz) (fun (u : (Nat → Int32) × (Nat → Int32)) => [(k_F cA ad F_size), (k_F_sizes cA ad u.1), (k_F_literals cA ad u.2)])) (va_A [(k_F cA ad F_size), (k_F_sizes cA ad F_sizes), (k_F_literals cA ad F_literals)] sz)) 0 0 (va_A [(k_F cA ad F_size), (k_F_sizes cA ad F_sizes), (k_F_literals cA ad F_literals)] sz) := by
  refine m_methV (by decide) rfl (Nat.le_of_ble_eq_true rfl) ?_
  intro p e s m below meth c A Q ls hx hb hml hown hts hK hA hw hl hE
  have hl : lv_has ls 3 [(0, .ref (ad 6)), (1, .int p1), (2, .int p2)] := hl
  have hown : s.vm.findClass R_F = some m.cls := hown
  have hg : ∀ {w : Cond}, w ∈ gw → w.before _ s = true := fun h => hts _ (List.mem_cons_of_mem _ h)
  unfold wp_F_append at h
  refine lv_aload_n hx hb d_F_append_0 rfl (lv_at hl 0 rfl) ?_
  refine va_get (D := D) (ci := 2) (v := .ref (ad 9)) (C := R_F) (T := T_F) (N := 5) hx hb hts (fun w h => List.mem_cons_of_mem _ (iw_F w h)) hown hK.1 hw.1 0 rfl rfl 2 (by decide) (hg gm_73) (fun _ h9 => h9) rfl d_F_append_1 ?_
  refine lv_iload_n hx hb d_F_append_4 rfl (lv_at hl 1 rfl) ?_
  refine lv_bipush (v := 6) hx hb d_F_append_5 (by decide) ?_
  refine lv_imul hx hb d_F_append_7 ?_
  refine lv_aload_n hx hb d_F_append_8 rfl (lv_at hl 0 rfl) ?_
  refine va_get (D := D) (ci := 2) (v := .ref (ad 8)) (C := R_F) (T := T_F) (N := 5) hx hb hts (fun w h => List.mem_cons_of_mem _ (iw_F w h)) hown hK.1 hw.1 0 rfl rfl 1 (by decide) (hg gm_69) (fun _ h9 => h9) rfl d_F_append_9 ?_
  refine lv_iload_n hx hb d_F_append_12 rfl (lv_at hl 1 rfl) ?_
  refine va_iald hx hb hK.1 hw.1 1 0 rfl rfl h.1 d_F_append_13 ?_
  have h := h.2
  refine lv_iadd hx hb d_F_append_14 ?_
  refine lv_iload_n hx hb d_F_append_15 rfl (lv_at hl 2 rfl) ?_
  refine m_iast (ws' := [(k_F cA ad F_size), (k_F_sizes cA ad F_sizes), (k_F_literals cA ad (upd F_literals ((p1 * 6) + (F_sizes p1.toNatClampNeg)).toNatClampNeg p2))]) hx hb hK.1 hw 2 0 rfl rfl h.1 rfl d_F_append_16 (fun H locs hw => ?_)
  have h := h.2
  refine lv_aload_n hx hb d_F_append_17 rfl (lv_at hl 0 rfl) ?_
  refine va_get (D := D) (ci := 2) (v := .ref (ad 8)) (C := R_F) (T := T_F) (N := 5) hx hb hts (fun w h => List.mem_cons_of_mem _ (iw_F w h)) hown hK.1 hw.1 0 rfl rfl 1 (by decide) (hg gm_69) (fun _ h9 => h9) rfl d_F_append_18 ?_
  refine lv_iload_n hx hb d_F_append_21 rfl (lv_at hl 1 rfl) ?_
  refine lv_dup2_11 hx hb d_F_append_22 rfl rfl ?_
  refine va_iald hx hb hK.1 hw.1 1 0 rfl rfl h.1 d_F_append_23 ?_
  have h := h.2
  refine lv_iconst (v := 1) hx hb d_F_append_24 (by decide) ?_
  refine lv_iadd hx hb d_F_append_25 ?_
  refine m_iast (ws' := [(k_F cA ad F_size), (k_F_sizes cA ad (upd F_sizes p1.toNatClampNeg ((F_sizes p1.toNatClampNeg) + 1))), (k_F_literals cA ad (upd F_literals ((p1 * 6) + (F_sizes p1.toNatClampNeg)).toNatClampNeg p2))]) hx hb hK.1 hw 1 0 rfl rfl h.1 rfl d_F_append_26 (fun H locs hw => ?_)
  have h := h.2
  exact hE ((upd F_sizes p1.toNatClampNeg ((F_sizes p1.toNatClampNeg) + 1)), (upd F_literals ((p1 * 6) + (F_sizes p1.toNatClampNeg)).toNatClampNeg p2)) _ _ _ _ h hw d_F_append_27
def rm_F_moveUp : Room := { frames := 1, cells := 0, slots := 0, locals := 60 }
set_option maxHeartbeats 4000000 in
set_option maxRecDepth 100000 in
theorem c_F_moveUp (l : Launch) (D : va_G) (cA : Nat → ClassId) (ad : Nat → Nat) (sz : Nat) (F_size : Int32) (F_kinds : (Nat → Int32)) (F_sizes : (Nat → Int32)) (F_literals : (Nat → Int32)) (F_leftOut : (Nat → Int32)) (post : Int32 → (Nat → Int32) → (Nat → Int32) → (Nat → Int32) → (Nat → Int32) → Prop) (h : wp_F_moveUp F_size F_kinds F_sizes F_literals F_leftOut post) : Met l y_F_moveUp w_F_moveUp rm_F_moveUp (mPc D cA [.ref (ad 6)] [(k_F cA ad F_size), (k_F_kinds cA ad F_kinds), (k_F_sizes cA ad F_sizes), (k_F_literals cA ad F_literals), (k_F_leftOut cA ad F_leftOut)] sz) (va_Qv (fun (u : Int32 × (Nat → Int32) × (Nat → Int32) × (Nat → Int32) × (Nat → Int32)) => post u.1 u.2.1 u.2.2.1 u.2.2.2.1 u.2.2.2.2) (mB D (va_A [(k_F cA ad F_size), (k_F_kinds cA ad F_kinds), (k_F_sizes cA ad F_sizes), (k_F_literals cA ad F_literals), (k_F_leftOut cA ad F_leftOut)] sz) (fun (u : Int32 × (Nat → Int32) × (Nat → Int32) × (Nat → Int32) × (Nat → Int32)) => [(k_F cA ad u.1), (k_F_kinds cA ad u.2.1), (k_F_sizes cA ad u.2.2.1), (k_F_literals cA ad u.2.2.2.1), (k_F_leftOut cA ad u.2.2.2.2)])) (va_A [(k_F cA ad F_size), (k_F_kinds cA ad F_kinds), (k_F_sizes cA ad F_sizes), (k_F_literals cA ad F_literals), (k_F_leftOut cA ad F_leftOut)] sz)) 0 0 (va_A [(k_F cA ad F_size), (k_F_kinds cA ad F_kinds), (k_F_sizes cA ad F_sizes), (k_F_literals cA ad F_literals), (k_F_leftOut cA ad F_leftOut)] sz) := by
  refine m_methV (by decide) rfl (Nat.le_of_ble_eq_true rfl) ?_
  intro p e s m below meth c A Q ls hx hb hml hown hts hK hA hw hl hE
  have hl : lv_has ls 3 [(0, .ref (ad 6))] := hl
  have hown : s.vm.findClass R_F = some m.cls := hown
  have hg : ∀ {w : Cond}, w ∈ gw → w.before _ s = true := fun h => hts _ (List.mem_cons_of_mem _ h)
  obtain ⟨C4, hC4⟩ : ∃ C : Int32 → Int32 → Int32 → (Nat → Int32) → (Nat → Int32) → (Nat → Int32) → (Nat → Int32) → Prop, ∀ (x1 : Int32) (x2 : Int32) (F_size : Int32) (F_kinds : (Nat → Int32)) (F_sizes : (Nat → Int32)) (F_literals : (Nat → Int32)) (F_leftOut : (Nat → Int32)), C x1 x2 F_size F_kinds F_sizes F_literals F_leftOut ↔ (∀ (H : Heap) (locs : List Loc) (ls : Array Slot), mW D A s.heap [(k_F cA ad F_size), (k_F_kinds cA ad F_kinds), (k_F_sizes cA ad F_sizes), (k_F_literals cA ad F_literals), (k_F_leftOut cA ad F_leftOut)] H locs → lv_has ls 3 [(0, .ref (ad 6)), (1, .int x1), (2, .int x2)] → W p l e rm_F_moveUp s m [.ref (ad 6)].toArray below meth c H locs 0 0 Q (F0 m 4 ls [])) := ⟨_, fun _ _ _ _ _ _ _ => Iff.rfl⟩
  have j69 : ∀ (x1 : Int32) (x2 : Int32) (F_size : Int32) (F_kinds : (Nat → Int32)) (F_sizes : (Nat → Int32)) (F_literals : (Nat → Int32)) (F_leftOut : (Nat → Int32)) (H : Heap) (locs : List Loc) (ls : Array Slot), s_F_moveUp_69 C4 post x1 x2 F_size F_kinds F_sizes F_literals F_leftOut → mW D A s.heap [(k_F cA ad F_size), (k_F_kinds cA ad F_kinds), (k_F_sizes cA ad F_sizes), (k_F_literals cA ad F_literals), (k_F_leftOut cA ad F_leftOut)] H locs → lv_has ls 3 [(0, .ref (ad 6)), (1, .int x1), (2, .int x2)] → W p l e rm_F_moveUp s m [.ref (ad 6)].toArray below meth c H locs 0 0 Q (F0 m 69 ls []) := by
    intro x1 x2 F_size F_kinds F_sizes F_literals F_leftOut H locs ls h hw hl
    unfold s_F_moveUp_69 at h
    refine lv_aload_n hx hb d_F_moveUp_69 rfl (lv_at hl 0 rfl) ?_
    refine va_get (D := D) (ci := 2) (v := .ref (ad 10)) (C := R_F) (T := T_F) (N := 5) hx hb hts (fun w h => List.mem_cons_of_mem _ (iw_F w h)) hown hK.1 hw.1 0 rfl rfl 3 (by decide) (hg gm_74) (fun _ h9 => h9) rfl d_F_moveUp_70 ?_
    refine lv_iload_n hx hb d_F_moveUp_73 rfl (lv_at hl 2 rfl) ?_
    refine lv_iconst (v := 0) hx hb d_F_moveUp_74 (by decide) ?_
    refine m_zast (ws' := [(k_F cA ad F_size), (k_F_kinds cA ad F_kinds), (k_F_sizes cA ad F_sizes), (k_F_literals cA ad F_literals), (k_F_leftOut cA ad (upd F_leftOut x2.toNatClampNeg (vp_nar .boolean 0)))]) hx hb hK.1 hw 4 1 rfl rfl h.1 rfl d_F_moveUp_75 (fun H locs hw => ?_)
    have h := h.2
    refine lv_iinc (v := (x2 + 1)) (lv' := [(2, .int (x2 + 1)), (0, .ref (ad 6)), (1, .int x1)]) hx hb d_F_moveUp_76 hl (k := 2) rfl rfl (by decide) rfl (fun ls hl => ?_)
    refine lv_goto (tgt := 4) hx hb d_F_moveUp_79 (by decide) ?_
    exact (hC4 _ _ _ _ _ _ _).1 h _ _ _ hw (lv_sub hl [1, 2, 0] rfl)
  have hc4 : ∀ (x1 : Int32) (x2 : Int32) (F_size : Int32) (F_kinds : (Nat → Int32)) (F_sizes : (Nat → Int32)) (F_literals : (Nat → Int32)) (F_leftOut : (Nat → Int32)), s_F_moveUp_4 C4 post x1 x2 F_size F_kinds F_sizes F_literals F_leftOut → C4 x1 x2 F_size F_kinds F_sizes F_literals F_leftOut := by
    intro x1 x2 F_size F_kinds F_sizes F_literals F_leftOut h
    unfold s_F_moveUp_4 at h
    refine (hC4 _ _ _ _ _ _ _).2 ?_
    intro H locs ls hw hl
    refine lv_iload_n hx hb d_F_moveUp_4 rfl (lv_at hl 2 rfl) ?_
    refine lv_aload_n hx hb d_F_moveUp_5 rfl (lv_at hl 0 rfl) ?_
    refine va_get (D := D) (ci := 2) (v := .int F_size) (C := R_F) (T := T_F) (N := 5) hx hb hts (fun w h => List.mem_cons_of_mem _ (iw_F w h)) hown hK.1 hw.1 0 rfl rfl 4 (by decide) (hg gm_77) (fun _ h9 => h9) rfl d_F_moveUp_6 ?_
    refine lv_icmp_ge (tgt := 82) hx hb d_F_moveUp_9 (by decide) (fun hc => ?_) (fun hc => ?_)
    · have h := h.1 hc
      refine lv_aload_n hx hb d_F_moveUp_82 rfl (lv_at hl 0 rfl) ?_
      refine lv_iload_n hx hb d_F_moveUp_83 rfl (lv_at hl 1 rfl) ?_
      refine m_put (ws' := [(k_F cA ad x1), (k_F_kinds cA ad F_kinds), (k_F_sizes cA ad F_sizes), (k_F_literals cA ad F_literals), (k_F_leftOut cA ad F_leftOut)]) (ci := 2) (v := .int x1) (ty := .int) (C := R_F) (T := T_F) (N := 5) hx hb hts (fun w h => List.mem_cons_of_mem _ (iw_F w h)) ty_F tyok_F nm_F hown hK.1 hw 0 rfl rfl 4 (by decide) (hg gm_77) (fun _ h9 => h9) rfl (by decide +kernel) rfl rfl (Nat.le_of_ble_eq_true rfl) rfl d_F_moveUp_84 (fun H locs hw => ?_)
      exact hE (x1, F_kinds, F_sizes, F_literals, F_leftOut) _ _ _ _ h hw d_F_moveUp_87
    · have h := h.2 hc
      refine lv_aload_n hx hb d_F_moveUp_12 rfl (lv_at hl 0 rfl) ?_
      refine va_get (D := D) (ci := 2) (v := .ref (ad 10)) (C := R_F) (T := T_F) (N := 5) hx hb hts (fun w h => List.mem_cons_of_mem _ (iw_F w h)) hown hK.1 hw.1 0 rfl rfl 3 (by decide) (hg gm_74) (fun _ h9 => h9) rfl d_F_moveUp_13 ?_
      refine lv_iload_n hx hb d_F_moveUp_16 rfl (lv_at hl 2 rfl) ?_
      refine va_zald hx hb hK.1 hw.1 4 1 rfl rfl h.1 d_F_moveUp_17 ?_
      have h := h.2
      refine lv_if_ne (tgt := 69) hx hb d_F_moveUp_18 (by decide) (fun hc => ?_) (fun hc => ?_)
      · have h := h.2 hc
        exact j69 _ _ _ _ _ _ _ _ _ _ h hw (lv_sub hl [0, 1, 2] rfl)
      · have h := h.1 hc
        refine lv_aload_n hx hb d_F_moveUp_21 rfl (lv_at hl 0 rfl) ?_
        refine va_get (D := D) (ci := 2) (v := .ref (ad 7)) (C := R_F) (T := T_F) (N := 5) hx hb hts (fun w h => List.mem_cons_of_mem _ (iw_F w h)) hown hK.1 hw.1 0 rfl rfl 0 (by decide) (hg gm_64) (fun _ h9 => h9) rfl d_F_moveUp_22 ?_
        refine lv_iload_n hx hb d_F_moveUp_25 rfl (lv_at hl 1 rfl) ?_
        refine lv_aload_n hx hb d_F_moveUp_26 rfl (lv_at hl 0 rfl) ?_
        refine va_get (D := D) (ci := 2) (v := .ref (ad 7)) (C := R_F) (T := T_F) (N := 5) hx hb hts (fun w h => List.mem_cons_of_mem _ (iw_F w h)) hown hK.1 hw.1 0 rfl rfl 0 (by decide) (hg gm_64) (fun _ h9 => h9) rfl d_F_moveUp_27 ?_
        refine lv_iload_n hx hb d_F_moveUp_30 rfl (lv_at hl 2 rfl) ?_
        refine va_iald hx hb hK.1 hw.1 1 0 rfl rfl h.1 d_F_moveUp_31 ?_
        have h := h.2
        refine m_iast (ws' := [(k_F cA ad F_size), (k_F_kinds cA ad (upd F_kinds x1.toNatClampNeg (F_kinds x2.toNatClampNeg))), (k_F_sizes cA ad F_sizes), (k_F_literals cA ad F_literals), (k_F_leftOut cA ad F_leftOut)]) hx hb hK.1 hw 1 0 rfl rfl h.1 rfl d_F_moveUp_32 (fun H locs hw => ?_)
        have h := h.2
        refine lv_aload_n hx hb d_F_moveUp_33 rfl (lv_at hl 0 rfl) ?_
        refine va_get (D := D) (ci := 2) (v := .ref (ad 8)) (C := R_F) (T := T_F) (N := 5) hx hb hts (fun w h => List.mem_cons_of_mem _ (iw_F w h)) hown hK.1 hw.1 0 rfl rfl 1 (by decide) (hg gm_69) (fun _ h9 => h9) rfl d_F_moveUp_34 ?_
        refine lv_iload_n hx hb d_F_moveUp_37 rfl (lv_at hl 1 rfl) ?_
        refine lv_aload_n hx hb d_F_moveUp_38 rfl (lv_at hl 0 rfl) ?_
        refine va_get (D := D) (ci := 2) (v := .ref (ad 8)) (C := R_F) (T := T_F) (N := 5) hx hb hts (fun w h => List.mem_cons_of_mem _ (iw_F w h)) hown hK.1 hw.1 0 rfl rfl 1 (by decide) (hg gm_69) (fun _ h9 => h9) rfl d_F_moveUp_39 ?_
        refine lv_iload_n hx hb d_F_moveUp_42 rfl (lv_at hl 2 rfl) ?_
        refine va_iald hx hb hK.1 hw.1 2 0 rfl rfl h.1 d_F_moveUp_43 ?_
        have h := h.2
        refine m_iast (ws' := [(k_F cA ad F_size), (k_F_kinds cA ad (upd F_kinds x1.toNatClampNeg (F_kinds x2.toNatClampNeg))), (k_F_sizes cA ad (upd F_sizes x1.toNatClampNeg (F_sizes x2.toNatClampNeg))), (k_F_literals cA ad F_literals), (k_F_leftOut cA ad F_leftOut)]) hx hb hK.1 hw 2 0 rfl rfl h.1 rfl d_F_moveUp_44 (fun H locs hw => ?_)
        have h := h.2
        refine lv_aload_n hx hb d_F_moveUp_45 rfl (lv_at hl 0 rfl) ?_
        refine va_get (D := D) (ci := 2) (v := .ref (ad 9)) (C := R_F) (T := T_F) (N := 5) hx hb hts (fun w h => List.mem_cons_of_mem _ (iw_F w h)) hown hK.1 hw.1 0 rfl rfl 2 (by decide) (hg gm_73) (fun _ h9 => h9) rfl d_F_moveUp_46 ?_
        refine lv_iload_n hx hb d_F_moveUp_49 rfl (lv_at hl 2 rfl) ?_
        refine lv_bipush (v := 6) hx hb d_F_moveUp_50 (by decide) ?_
        refine lv_imul hx hb d_F_moveUp_52 ?_
        refine lv_aload_n hx hb d_F_moveUp_53 rfl (lv_at hl 0 rfl) ?_
        refine va_get (D := D) (ci := 2) (v := .ref (ad 9)) (C := R_F) (T := T_F) (N := 5) hx hb hts (fun w h => List.mem_cons_of_mem _ (iw_F w h)) hown hK.1 hw.1 0 rfl rfl 2 (by decide) (hg gm_73) (fun _ h9 => h9) rfl d_F_moveUp_54 ?_
        refine lv_iload_n hx hb d_F_moveUp_57 rfl (lv_at hl 1 rfl) ?_
        refine lv_bipush (v := 6) hx hb d_F_moveUp_58 (by decide) ?_
        refine lv_imul hx hb d_F_moveUp_60 ?_
        refine lv_bipush (v := 6) hx hb d_F_moveUp_61 (by decide) ?_
        refine m_copyi (ws' := [(k_F cA ad F_size), (k_F_kinds cA ad (upd F_kinds x1.toNatClampNeg (F_kinds x2.toNatClampNeg))), (k_F_sizes cA ad (upd F_sizes x1.toNatClampNeg (F_sizes x2.toNatClampNeg))), (k_F_literals cA ad (va_cpy F_literals F_literals (x2 * 6).toNatClampNeg (x1 * 6).toNatClampNeg (6 : Int32).toNatClampNeg)), (k_F_leftOut cA ad F_leftOut)]) hx hb (hml.trans hl.1.symm) hown (hg gm_508) (hg gm_510) (hg gm_509) (hg gm_14) hK.1 hw 3 3 0 0 rfl rfl rfl rfl rfl h.1 (fun _ _ => rfl) (Nat.le_of_ble_eq_true rfl) (Nat.le_of_ble_eq_true rfl) rfl d_F_moveUp_63 (fun H locs hw => ?_)
        have h := h.2
        refine lv_iinc (v := (x1 + 1)) (lv' := [(1, .int (x1 + 1)), (0, .ref (ad 6)), (2, .int x2)]) hx hb d_F_moveUp_66 hl (k := 1) rfl rfl (by decide) rfl (fun ls hl => ?_)
        exact j69 _ _ _ _ _ _ _ _ _ _ h hw (lv_sub hl [1, 0, 2] rfl)
  unfold wp_F_moveUp at h
  have h := h C4 hc4
  refine lv_iconst (v := 0) hx hb d_F_moveUp_0 (by decide) ?_
  refine lv_istore_n (lv' := [(1, .int 0), (0, .ref (ad 6))]) hx hb d_F_moveUp_1 rfl hl (by decide) rfl (fun ls hl => ?_)
  refine lv_iconst (v := 0) hx hb d_F_moveUp_2 (by decide) ?_
  refine lv_istore_n (lv' := [(2, .int 0), (1, .int 0), (0, .ref (ad 6))]) hx hb d_F_moveUp_3 rfl hl (by decide) rfl (fun ls hl => ?_)
  exact (hC4 _ _ _ _ _ _ _).1 h _ _ _ hw (lv_sub hl [2, 1, 0] rfl)
